/-! the reference: men, laws, months, jars -/
theorem out_in (v a b : Int32) : vp_in (-(outI v a b)) 7 := by
  rw [vp_in_iff]
  unfold outI
  by_cases h1 : a ≤ v
  · rw [if_pos h1]
    by_cases h2 : v ≤ b
    · rw [if_pos h2]; decide
    · rw [if_neg h2]; decide
  · rw [if_neg h1]; decide
theorem out_0 {v a b : Int32} (h : outI v a b = 0) : a ≤ v ∧ v ≤ b := by
  unfold outI at h
  by_cases h1 : a ≤ v
  · rw [if_pos h1] at h
    by_cases h2 : v ≤ b
    · exact ⟨h1, h2⟩
    · rw [if_neg h2] at h; exact absurd h (by decide)
  · rw [if_neg h1] at h; exact absurd h (by decide)
theorem in_nI {v : Int32} {a b : Nat} (ha : a < 2147483648) (hb : b < 2147483648) (h1 : nI a ≤ v) (h2 : v ≤ nI b) : ∃ k, a ≤ k ∧ k ≤ b ∧ v = nI k := by
  have b1 : ¬ v < 0 := fun z => by
    rw [Int32.lt_iff_toInt_lt] at z
    rw [Int32.le_iff_toInt_le] at h1
    have e0 : (0 : Int32).toInt = 0 := by decide
    have e1 := nI_toInt (n := a) ha
    omega
  obtain ⟨k, hk, rfl⟩ := nI_of b1
  exact ⟨k, (nI_leI ha hk).mp h1, (nI_leI hk hb).mp h2, rfl⟩
theorem in_of {v : Int32} {b : Nat} (hb : b < 2147483648) (h : inB v 0 (nI b) = true) : ∃ k, k ≤ b ∧ v = nI k := by
  rw [inB, Bool.and_eq_true] at h
  obtain ⟨k, -, g1, g2⟩ := in_nI (a := 0) (by decide) hb (of_decide_eq_true h.1) (of_decide_eq_true h.2)
  exact ⟨k, g1, g2⟩
theorem nb_eq (p : Int32) : (!decide (p < 0) && decide (p < 366)) = inB p 0 365 := by
  rw [inB, show (!decide (p < 0)) = decide (0 ≤ p) by rw [Bool.eq_iff_iff]; simp [Int32.not_lt]]
  congr 1
  rw [Bool.eq_iff_iff, decide_eq_true_iff, decide_eq_true_iff, Int32.lt_iff_toInt_lt, Int32.le_iff_toInt_le]
  have e0 : (366 : Int32).toInt = 366 := by decide
  have e1 : (365 : Int32).toInt = 365 := by decide
  omega
theorem lw_in (p : Int32) : (!decide (p < 0) && !decide (nI 5 ≤ p)) = inB p 0 4 := by
  rw [inB, show (!decide (p < 0)) = decide (0 ≤ p) by rw [Bool.eq_iff_iff]; simp [Int32.not_lt]]
  congr 1
  rw [show (!decide (nI 5 ≤ p)) = decide (p < nI 5) by rw [Bool.eq_iff_iff]; simp [Int32.not_le]]
  rw [Bool.eq_iff_iff, decide_eq_true_iff, decide_eq_true_iff, Int32.lt_iff_toInt_lt, Int32.le_iff_toInt_le]
  have e0 : (nI 5).toInt = 5 := by decide
  have e1 : (4 : Int32).toInt = 4 := by decide
  omega
def dyM (seF : Nat → Int32) (kF spF deF : Nat → Nat) (pF : Nat → Bool) (j : Nat) : Nat → Int32 := dayF (seF j) (kF j) (spF j) (deF j) (pF j)
theorem dfo_t {k jd : Nat} (h : k = jd) : (if jd < k + 1 then nI jd else (-9 : Int32)) = nI k := by rw [if_pos (by omega), h]
theorem dfo_f {k jd : Nat} (h : ¬ k = jd) : (if jd < k + 1 then nI jd else (-9 : Int32)) = if jd < k then nI jd else -9 := by
  by_cases g : jd < k
  · rw [if_pos g, if_pos (by omega)]
  · rw [if_neg g, if_neg (by omega)]
theorem dyo {seF : Nat → Int32} {kF spF deF : Nat → Nat} {pF : Nat → Bool} {j : Nat} {p : Int32} (hd : 1 ≤ deF j) (h1 : 1 ≤ p) (h2 : p ≤ 366) : ∃ jd, jd < 366 ∧ ndM seF kF spF deF pF j jd = p ∧ atI 367 (dyM seF kF spF deF pF j) p = nI jd := by
  obtain ⟨v, g1, g2, rfl⟩ := in_nI (a := 1) (b := 366) (by decide) (by decide) h1 h2
  obtain ⟨jd, a1, a2, a3⟩ := day_num (se := seF j) (kS := kF j) (sp := spF j) (po := pF j) hd (k := v - 1) (by omega)
  rw [show v - 1 + 1 = v by omega] at a2 a3
  exact ⟨jd, a1, a2, by rw [atI_n (by omega) (by decide)]; exact a3⟩
theorem nd_at_ne {seF : Nat → Int32} {kF spF deF : Nat → Nat} {pF : Nat → Bool} {j a b : Nat} (hd : 1 ≤ deF j) (ha : a < 366) (hb : b < 366) (h : ndM seF kF spF deF pF j a = ndM seF kF spF deF pF j b) : a = b := num_inj hd ha hb h
theorem nd_v {seF : Nat → Int32} {kF spF deF : Nat → Nat} {pF : Nat → Bool} {j d : Nat} (hd : 1 ≤ deF j) (h : d < 366) : ∃ v, 1 ≤ v ∧ v ≤ 366 ∧ ndM seF kF spF deF pF j d = nI v := by
  obtain ⟨k, h1, h2, -⟩ := num_day (se := seF j) (kS := kF j) (sp := spF j) (po := pF j) hd h
  exact ⟨k + 1, by omega, by omega, h2⟩
theorem los_t (x : Int32) (h : 0 ≤ x) : (if 0 < x then x else 0) = x := by
  by_cases g : 0 < x
  · rw [if_pos g]
  · rw [if_neg g]; exact Int32.le_antisymm h (Int32.not_lt.mp g)
theorem los_f (a x : Int32) (h : ¬ 0 ≤ x) : a * (if 0 < x then x else 0) / 100 = 0 := by
  rw [if_neg (fun z => h (Int32.le_of_lt z)), Int32.mul_zero]; decide
theorem five {x : Int32} (h : vp_in x 6) (h0 : ¬ x = 0) (h1 : ¬ x = 1) (h2 : ¬ x = 2) (h3 : ¬ x = 3) (h4 : ¬ x = 4) : x = 5 := by
  obtain ⟨j, hj, rfl⟩ := vp_in_of h (by decide)
  match j, hj with
  | 0, _ => exact absurd rfl h0
  | 1, _ => exact absurd rfl h1
  | 2, _ => exact absurd rfl h2
  | 3, _ => exact absurd rfl h3
  | 4, _ => exact absurd rfl h4
  | 5, _ => rfl
theorem absL_t {x : Int64} (h : 0 ≤ x) : absL x = x := by
  unfold absL
  by_cases g : 0 < x
  · rw [if_pos g]
  · rw [if_neg g, Int64.le_antisymm (Int64.not_lt.mp g) h]; rfl
theorem absL_f {x : Int64} (h : ¬ 0 ≤ x) : absL x = -x := by
  unfold absL
  rw [if_neg (fun z => h (Int64.le_of_lt z))]
def updN (r : Nat → Nat) (j v : Nat) : Nat → Nat := fun x => if x = j then v else r x
def updB (r : Nat → Bool) (j : Nat) (v : Bool) : Nat → Bool := fun x => if x = j then v else r x
theorem upd_nR (r : Nat → Nat) (j v : Nat) : upd (nR r) j (nI v) = nR (updN r j v) := by
  funext x
  unfold upd nR updN
  by_cases h : x = j
  · rw [if_pos h, if_pos h]
  · rw [if_neg h, if_neg h]
theorem upd_bR (r : Nat → Bool) (j : Nat) (v : Bool) : upd (bR r) j (b2i v) = bR (updB r j v) := by
  funext x
  unfold upd bR updB
  by_cases h : x = j
  · rw [if_pos h, if_pos h]
  · rw [if_neg h, if_neg h]
theorem updB_id (r : Nat → Bool) (j : Nat) : updB r j (r j) = r := by
  funext x
  unfold updB
  by_cases h : x = j
  · rw [if_pos h, h]
  · rw [if_neg h]
theorem ck_new {seF seF' : Nat → Int32} {kF spF deF kF' spF' deF' : Nat → Nat} {pF pF' : Nat → Bool} {nm dz : Nat → Int32} {j0 : Nat} (h : ckM seF kF spF deF pF nm dz) (e : ∀ j, j ≠ j0 → ndM seF' kF' spF' deF' pF' j = ndM seF kF spF deF pF j) : ckM seF' kF' spF' deF' pF' nm (upd dz j0 0) := by
  intro j hj
  unfold upd
  by_cases g : j = j0
  · rw [if_pos g]
    exact ⟨Or.inl rfl, fun z => absurd z (by decide)⟩
  · rw [if_neg g, e j g]
    exact h j hj
set_option maxHeartbeats 4000000 in
set_option maxRecDepth 100000 in
theorem c_X7_firstOf (l : Launch) (D : va_G) (cI cJ cZ : ClassId) (x : Nat) (xf : Nat) (xs : Nat) (xk : Nat) (xp : Nat) (xd : Nat) (xo : Nat) (xn : Nat) (xr : Nat) (xy : Nat) (xi : Nat) (xt : Nat) (xq : Nat) (xb : Nat) (xw : Nat) (xl : Nat) (xm : Nat) (xe : Nat) (zl : Int32) (zt : Int32) (za : Int32) (zm : Int32) (zc : Int32) (ze : Int32) (zh : Int32) (zi : Int32) (zq : Int32) (zu : Int64) (zv : Int64) (m0 : Nat) (hm : m0 ≤ 12) : CtI l D cI cJ cZ yX7_firstOf cX7_firstOf 4 (some .int) 0 [.ref x, .int (nI m0)] [(x, .inr (7, [.ref xf, .ref xs, .ref xk, .ref xp, .ref xd, .ref xo, .ref xn, .ref xr, .ref xy, .ref xi, .int zl, .long zu, .long zv, .ref xt, .ref xq, .ref xb, .ref xw, .ref xl, .ref xm, .int zt, .int za, .int zm, .int zc, .int ze, .ref xe, .int zh, .int zi, .int zq])), (xy, .inl (cI, 12, .inl (nR mln)))] (fun (_ : Unit) => nI (mst m0)) (fun (_ : Unit) => True) (fun (_ : Unit) => [(x, .inr (7, [.ref xf, .ref xs, .ref xk, .ref xp, .ref xd, .ref xo, .ref xn, .ref xr, .ref xy, .ref xi, .int zl, .long zu, .long zv, .ref xt, .ref xq, .ref xb, .ref xw, .ref xl, .ref xm, .int zt, .int za, .int zm, .int zc, .int ze, .ref xe, .int zh, .int zi, .int zq])), (xy, .inl (cI, 12, .inl (nR mln)))]) := by
  refine q_entI (own := RX7) rfl rfl (Nat.le_of_ble_eq_true rfl) ?_
  intro p e s m args below meth c A ls QQ hQ hE hx hb hr hk hin hA hl hst
  have hl : lv_has ls 4 [(0, .ref x), (1, .int (nI m0))] := hl
  have loop_4 : ∀ (fu : Nat) (kq : Nat), (kq ≤ m0) → (m0 - kq) < fu → ∀ (H : Heap) (locs : List Loc) (ls : Array Slot), SS D A s [(x, .inr (7, [.ref xf, .ref xs, .ref xk, .ref xp, .ref xd, .ref xo, .ref xn, .ref xr, .ref xy, .ref xi, .int zl, .long zu, .long zv, .ref xt, .ref xq, .ref xb, .ref xw, .ref xl, .ref xm, .int zt, .int za, .int zm, .int zc, .int ze, .ref xe, .int zh, .int zi, .int zq])), (xy, .inl (cI, 12, .inl (nR mln)))] H locs → lv_has ls 4 [(3, .int (nI kq)), (2, .int (nI (mst kq))), (0, .ref x), (1, .int (nI m0))] → W p l e (rmN 0 0 0) s m args below meth c H locs 0 0 QQ (F0 m 4 ls []) := by
    intro fu
    induction fu with
    | zero =>
      intro kq h1 hn
      exact absurd hn (Nat.not_lt_zero _)
    | succ fu ih =>
      intro kq h1 hn H locs ls hst hl
      refine lv_iload_n hx hb dX7_firstOf_4 rfl (lv_at hl 0 rfl) ?_
      refine lv_iload_n hx hb dX7_firstOf_5 rfl (lv_at hl 3 rfl) ?_
      refine lv_icmp_ge (tgt := 24) hx hb dX7_firstOf_6 (by decide) (fun c_6 => ?_) (fun c_6 => ?_)
      · skip
        have hk1 : kq = m0 := Nat.le_antisymm h1 (Nat.le_of_not_lt (fun z => nI_ge z (by omega) c_6))
        subst hk1
        skip
        refine lv_iload_n hx hb dX7_firstOf_24 rfl (lv_at hl 1 rfl) ?_
        exact q_retI hQ hE hr hk hst () (rfl) (trivial) (rfl) dX7_firstOf_25
      · skip
        have hk1 : kq < m0 := Nat.lt_of_not_le (fun z => c_6 (nI_le z (by omega)))
        refine lv_iload_n hx hb dX7_firstOf_9 rfl (lv_at hl 1 rfl) ?_
        refine lv_aload_n hx hb dX7_firstOf_10 rfl (lv_at hl 2 rfl) ?_
        refine gf_X7_34 hE hst 0 rfl rfl dX7_firstOf_11 ?_
        refine lv_iload_n hx hb dX7_firstOf_14 rfl (lv_at hl 0 rfl) ?_
        refine q_aldN hE hst 1 rfl kq (rfl) (by omega) (by decide) dX7_firstOf_15 ?_
        refine lv_iadd hx hb dX7_firstOf_16 ?_
        refine q_top (x' := nI (mst (kq + 1))) (by rw [(mln_ok kq (by omega)).1, ← nI_add]; rfl) ?_
        refine lv_istore_n (lv' := [(2, .int (nI (mst (kq + 1)))), (3, .int (nI kq)), (0, .ref x), (1, .int (nI m0))]) hx hb dX7_firstOf_17 rfl hl (by decide) rfl (fun ls hl => ?_)
        refine lv_iinc (v := nI (kq + 1)) (lv' := [(3, .int (nI (kq + 1))), (2, .int (nI (mst (kq + 1)))), (0, .ref x), (1, .int (nI m0))]) hx hb dX7_firstOf_18 hl (k := 1) rfl (nI_next _) (by decide) rfl (fun ls hl => ?_)
        refine lv_goto (tgt := 4) hx hb dX7_firstOf_21 (by decide) ?_
        exact ih (kq + 1) (by omega) (by omega) _ _ _ (hst) (lv_sub hl [0, 1, 2, 3] rfl)
  refine lv_iconst (v := 0) hx hb dX7_firstOf_0 (by decide) ?_
  refine lv_istore_n (lv' := [(2, .int 0), (0, .ref x), (1, .int (nI m0))]) hx hb dX7_firstOf_1 rfl hl (by decide) rfl (fun ls hl => ?_)
  refine lv_iconst (v := 0) hx hb dX7_firstOf_2 (by decide) ?_
  refine lv_istore_n (lv' := [(3, .int 0), (2, .int 0), (0, .ref x), (1, .int (nI m0))]) hx hb dX7_firstOf_3 rfl hl (by decide) rfl (fun ls hl => ?_)
  exact loop_4 (m0 + 1) 0 (Nat.zero_le _) (by omega) _ _ _ (hst) (lv_sub hl [0, 1, 2, 3] rfl)
set_option maxHeartbeats 4000000 in
set_option maxRecDepth 100000 in
theorem c_X7_told (l : Launch) (D : va_G) (cI cJ cZ : ClassId) (x : Nat) (xf : Nat) (xs : Nat) (xk : Nat) (xp : Nat) (xd : Nat) (xo : Nat) (xn : Nat) (xr : Nat) (xy : Nat) (xi : Nat) (xt : Nat) (xq : Nat) (xb : Nat) (xw : Nat) (xl : Nat) (xm : Nat) (xe : Nat) (zl : Int32) (zt : Int32) (za : Int32) (zm : Int32) (zc : Int32) (ze : Int32) (zh : Int32) (zi : Int32) (zq : Int32) (zu : Int64) (zv : Int64) (p0 : Int32) : CtL l D cI cJ cZ yX7_told cX7_told 2 (some .long) 0 [.ref x, .int p0] [(x, .inr (7, [.ref xf, .ref xs, .ref xk, .ref xp, .ref xd, .ref xo, .ref xn, .ref xr, .ref xy, .ref xi, .int zl, .long zu, .long zv, .ref xt, .ref xq, .ref xb, .ref xw, .ref xl, .ref xm, .int zt, .int za, .int zm, .int zc, .int ze, .ref xe, .int zh, .int zi, .int zq]))] (fun (_ : Unit) => if p0 = 0 then zu else zv) (fun (_ : Unit) => True) (fun (_ : Unit) => [(x, .inr (7, [.ref xf, .ref xs, .ref xk, .ref xp, .ref xd, .ref xo, .ref xn, .ref xr, .ref xy, .ref xi, .int zl, .long zu, .long zv, .ref xt, .ref xq, .ref xb, .ref xw, .ref xl, .ref xm, .int zt, .int za, .int zm, .int zc, .int ze, .ref xe, .int zh, .int zi, .int zq]))]) := by
  refine q_entL (own := RX7) rfl rfl (Nat.le_of_ble_eq_true rfl) ?_
  intro p e s m args below meth c A ls QQ hQ hE hx hb hr hk hin hA hl hst
  have hl : lv_has ls 2 [(0, .ref x), (1, .int p0)] := hl
  refine lv_iload_n hx hb dX7_told_0 rfl (lv_at hl 1 rfl) ?_
  refine lv_if_ne (tgt := 11) hx hb dX7_told_1 (by decide) (fun c_1 => ?_) (fun c_1 => ?_)
  · skip
    refine lv_aload_n hx hb dX7_told_11 rfl (lv_at hl 0 rfl) ?_
    refine gf_X7_115 hE hst 0 rfl rfl dX7_told_12 ?_
    exact q_retL hQ hE hr hk hst () (by rw [if_neg c_1]) (trivial) (rfl) dX7_told_15
  · skip
    refine lv_aload_n hx hb dX7_told_4 rfl (lv_at hl 0 rfl) ?_
    refine gf_X7_111 hE hst 0 rfl rfl dX7_told_5 ?_
    refine lv_goto (tgt := 15) hx hb dX7_told_8 (by decide) ?_
    exact q_retL hQ hE hr hk hst () (by rw [if_pos c_1]) (trivial) (rfl) dX7_told_15
set_option maxHeartbeats 4000000 in
set_option maxRecDepth 100000 in
theorem c_X7_isMan (l : Launch) (D : va_G) (cI cJ cZ : ClassId) (x : Nat) (xf : Nat) (xs : Nat) (xk : Nat) (xp : Nat) (xd : Nat) (xo : Nat) (xn : Nat) (xr : Nat) (xy : Nat) (xi : Nat) (xt : Nat) (xq : Nat) (xb : Nat) (xw : Nat) (xl : Nat) (xm : Nat) (xe : Nat) (zl : Int32) (zt : Int32) (za : Int32) (zm : Int32) (zc : Int32) (ze : Int32) (zh : Int32) (zi : Int32) (zq : Int32) (zu : Int64) (zv : Int64) (p0 : Int32) : CtI l D cI cJ cZ yX7_isMan cX7_isMan 2 (some .boolean) 0 [.ref x, .int p0] [(x, .inr (7, [.ref xf, .ref xs, .ref xk, .ref xp, .ref xd, .ref xo, .ref xn, .ref xr, .ref xy, .ref xi, .int zl, .long zu, .long zv, .ref xt, .ref xq, .ref xb, .ref xw, .ref xl, .ref xm, .int zt, .int za, .int zm, .int zc, .int ze, .ref xe, .int zh, .int zi, .int zq]))] (fun (_ : Unit) => b2i (manB zm p0)) (fun (_ : Unit) => True) (fun (_ : Unit) => [(x, .inr (7, [.ref xf, .ref xs, .ref xk, .ref xp, .ref xd, .ref xo, .ref xn, .ref xr, .ref xy, .ref xi, .int zl, .long zu, .long zv, .ref xt, .ref xq, .ref xb, .ref xw, .ref xl, .ref xm, .int zt, .int za, .int zm, .int zc, .int ze, .ref xe, .int zh, .int zi, .int zq]))]) := by
  refine q_entI (own := RX7) rfl rfl (Nat.le_of_ble_eq_true rfl) ?_
  intro p e s m args below meth c A ls QQ hQ hE hx hb hr hk hin hA hl hst
  have hl : lv_has ls 2 [(0, .ref x), (1, .int p0)] := hl
  refine lv_iload_n hx hb dX7_isMan_0 rfl (lv_at hl 1 rfl) ?_
  refine lv_if_lt (tgt := 16) hx hb dX7_isMan_1 (by decide) (fun c_1 => ?_) (fun c_1 => ?_)
  · skip
    refine lv_iconst (v := 0) hx hb dX7_isMan_16 (by decide) ?_
    exact q_retZ hQ hE hr hk hst () (rfl) (by rw [manB, decide_eq_true c_1]; rfl) (trivial) (rfl) dX7_isMan_17
  · skip
    refine lv_iload_n hx hb dX7_isMan_4 rfl (lv_at hl 1 rfl) ?_
    refine lv_aload_n hx hb dX7_isMan_5 rfl (lv_at hl 0 rfl) ?_
    refine gf_X7_163 hE hst 0 rfl rfl dX7_isMan_6 ?_
    refine lv_icmp_ge (tgt := 16) hx hb dX7_isMan_9 (by decide) (fun c_9 => ?_) (fun c_9 => ?_)
    · skip
      refine lv_iconst (v := 0) hx hb dX7_isMan_16 (by decide) ?_
      exact q_retZ hQ hE hr hk hst () (rfl) (by rw [manB, decide_eq_false c_1, decide_eq_true c_9]; rfl) (trivial) (rfl) dX7_isMan_17
    · skip
      refine lv_iconst (v := 1) hx hb dX7_isMan_12 (by decide) ?_
      refine lv_goto (tgt := 17) hx hb dX7_isMan_13 (by decide) ?_
      exact q_retZ hQ hE hr hk hst () (rfl) (by rw [manB, decide_eq_false c_1, decide_eq_false c_9]; rfl) (trivial) (rfl) dX7_isMan_17
set_option maxHeartbeats 4000000 in
set_option maxRecDepth 100000 in
theorem c_X7_notYear (l : Launch) (D : va_G) (cI cJ cZ : ClassId) (p0 : Int32) : CtI l D cI cJ cZ yX7_notYear cX7_notYear 1 (some .int) 1 [.int p0] [] (fun (_ : Unit) => outI p0 0 40) (fun (_ : Unit) => True) (fun (_ : Unit) => []) := by
  refine q_entI (own := RX7) rfl rfl (Nat.le_of_ble_eq_true rfl) ?_
  intro p e s m args below meth c A ls QQ hQ hE hx hb hr hk hin hA hl hst
  have hl : lv_has ls 1 [(0, .int p0)] := hl
  refine lv_iload_n hx hb dX7_notYear_0 rfl (lv_at hl 0 rfl) ?_
  refine lv_iconst (v := 0) hx hb dX7_notYear_1 (by decide) ?_
  refine lv_bipush (v := 40) hx hb dX7_notYear_2 (by decide) ?_
  refine q_goI (q_rS hE lk_X7_104 (c_X7_out l D cI cJ cZ p0 0 40 s.heap.size) hst [] rfl rfl rfl hl.1 ⟨(Nat.le_of_ble_eq_true rfl), (Nat.le_of_ble_eq_true rfl)⟩ (rest := []) rfl (Nat.le_of_ble_eq_true rfl) dX7_notYear_4 ⟨(Nat.le_of_ble_eq_true rfl), (Nat.le_of_ble_eq_true rfl)⟩) hE hst [] rfl (fun _ => rfl) (fun (_ : Unit) => []) (fun _ => rfl) (fun _ H locs hF hst => ?_)
  exact q_retI hQ hE hr hk hst () (rfl) (trivial) (rfl) dX7_notYear_7
set_option maxHeartbeats 4000000 in
set_option maxRecDepth 100000 in
theorem c_X7_notAsked (l : Launch) (D : va_G) (cI cJ cZ : ClassId) (x : Nat) (xf : Nat) (xs : Nat) (xk : Nat) (xp : Nat) (xd : Nat) (xo : Nat) (xn : Nat) (xr : Nat) (xy : Nat) (xi : Nat) (xt : Nat) (xq : Nat) (xb : Nat) (xw : Nat) (xl : Nat) (xm : Nat) (xe : Nat) (zl : Int32) (zt : Int32) (za : Int32) (zm : Int32) (zc : Int32) (ze : Int32) (zh : Int32) (zi : Int32) (zq : Int32) (zu : Int64) (zv : Int64) (p0 : Int32) (p1 : Int32) : CtI l D cI cJ cZ yX7_notAsked cX7_notAsked 3 (some .int) 1 [.ref x, .int p0, .int p1] [(x, .inr (7, [.ref xf, .ref xs, .ref xk, .ref xp, .ref xd, .ref xo, .ref xn, .ref xr, .ref xy, .ref xi, .int zl, .long zu, .long zv, .ref xt, .ref xq, .ref xb, .ref xw, .ref xl, .ref xm, .int zt, .int za, .int zm, .int zc, .int ze, .ref xe, .int zh, .int zi, .int zq]))] (fun (_ : Unit) => ftf (!isJarB p0) (!isJarB p1) false false) (fun (_ : Unit) => True) (fun (_ : Unit) => [(x, .inr (7, [.ref xf, .ref xs, .ref xk, .ref xp, .ref xd, .ref xo, .ref xn, .ref xr, .ref xy, .ref xi, .int zl, .long zu, .long zv, .ref xt, .ref xq, .ref xb, .ref xw, .ref xl, .ref xm, .int zt, .int za, .int zm, .int zc, .int ze, .ref xe, .int zh, .int zi, .int zq]))]) := by
  refine q_entI (own := RX7) rfl rfl (Nat.le_of_ble_eq_true rfl) ?_
  intro p e s m args below meth c A ls QQ hQ hE hx hb hr hk hin hA hl hst
  have hl : lv_has ls 3 [(0, .ref x), (1, .int p0), (2, .int p1)] := hl
  refine lv_iload_n hx hb dX7_notAsked_0 rfl (lv_at hl 1 rfl) ?_
  refine q_goI (q_rS hE lk_X7_77 (c_X7_isJar l D cI cJ cZ p0 s.heap.size) hst [] rfl rfl rfl hl.1 ⟨(Nat.le_of_ble_eq_true rfl), (Nat.le_of_ble_eq_true rfl)⟩ (rest := []) rfl (Nat.le_of_ble_eq_true rfl) dX7_notAsked_1 ⟨(Nat.le_of_ble_eq_true rfl), (Nat.le_of_ble_eq_true rfl)⟩) hE hst [] rfl (fun _ => rfl) (fun (_ : Unit) => [(x, .inr (7, [.ref xf, .ref xs, .ref xk, .ref xp, .ref xd, .ref xo, .ref xn, .ref xr, .ref xy, .ref xi, .int zl, .long zu, .long zv, .ref xt, .ref xq, .ref xb, .ref xw, .ref xl, .ref xm, .int zt, .int za, .int zm, .int zc, .int ze, .ref xe, .int zh, .int zi, .int zq]))]) (fun _ => rfl) (fun _ H locs hF hst => ?_)
  refine lv_if_ne (tgt := 11) hx hb dX7_notAsked_4 (by decide) (fun c_4 => ?_) (fun c_4 => ?_)
  · skip
    have c_4 := b2i_t c_4
    refine lv_iload_n hx hb dX7_notAsked_11 rfl (lv_at hl 2 rfl) ?_
    refine q_goI (q_rS hE lk_X7_125 (c_X7_isPart l D cI cJ cZ p1 H.size) hst [] rfl rfl rfl hl.1 ⟨(Nat.le_of_ble_eq_true rfl), (Nat.le_of_ble_eq_true rfl)⟩ (rest := []) rfl (Nat.le_of_ble_eq_true rfl) dX7_notAsked_12 ⟨(Nat.le_of_ble_eq_true rfl), (Nat.le_of_ble_eq_true rfl)⟩) hE hst [] rfl (fun _ => rfl) (fun (_ : Unit) => [(x, .inr (7, [.ref xf, .ref xs, .ref xk, .ref xp, .ref xd, .ref xo, .ref xn, .ref xr, .ref xy, .ref xi, .int zl, .long zu, .long zv, .ref xt, .ref xq, .ref xb, .ref xw, .ref xl, .ref xm, .int zt, .int za, .int zm, .int zc, .int ze, .ref xe, .int zh, .int zi, .int zq]))]) (fun _ => rfl) (fun _ H locs hF hst => ?_)
    refine lv_if_ne (tgt := 23) hx hb dX7_notAsked_15 (by decide) (fun c_15 => ?_) (fun c_15 => ?_)
    · skip
      have c_15 := b2i_t c_15
      refine lv_iconst (v := 0) hx hb dX7_notAsked_23 (by decide) ?_
      exact q_retI hQ hE hr hk hst () (by rw [c_4, c_15]; rfl) (trivial) (rfl) dX7_notAsked_24
    · skip
      have c_15 := b2i_f c_15
      refine lv_bipush (v := (-2)) hx hb dX7_notAsked_18 (by decide) ?_
      refine lv_goto (tgt := 24) hx hb dX7_notAsked_20 (by decide) ?_
      exact q_retI hQ hE hr hk hst () (by rw [c_4, c_15]; rfl) (trivial) (rfl) dX7_notAsked_24
  · skip
    have c_4 := b2i_f c_4
    refine lv_iconst (v := (-1)) hx hb dX7_notAsked_7 (by decide) ?_
    refine lv_goto (tgt := 24) hx hb dX7_notAsked_8 (by decide) ?_
    exact q_retI hQ hE hr hk hst () (by rw [c_4]; rfl) (trivial) (rfl) dX7_notAsked_24
set_option maxHeartbeats 4000000 in
set_option maxRecDepth 100000 in
theorem c_X7_cut (l : Launch) (D : va_G) (cI cJ cZ : ClassId) (x : Nat) (xf : Nat) (xs : Nat) (xk : Nat) (xp : Nat) (xd : Nat) (xo : Nat) (xn : Nat) (xr : Nat) (xy : Nat) (xi : Nat) (xt : Nat) (xq : Nat) (xb : Nat) (xw : Nat) (xl : Nat) (xm : Nat) (xe : Nat) (zl : Int32) (zt : Int32) (za : Int32) (zm : Int32) (zc : Int32) (ze : Int32) (zh : Int32) (zi : Int32) (zq : Int32) (zu : Int64) (zv : Int64) (ru : Nat → Int32) (p0 : Int32) : CtI l D cI cJ cZ yX7_cut cX7_cut 4 (some .int) 2 [.ref x, .int p0] [(x, .inr (7, [.ref xf, .ref xs, .ref xk, .ref xp, .ref xd, .ref xo, .ref xn, .ref xr, .ref xy, .ref xi, .int zl, .long zu, .long zv, .ref xt, .ref xq, .ref xb, .ref xw, .ref xl, .ref xm, .int zt, .int za, .int zm, .int zc, .int ze, .ref xe, .int zh, .int zi, .int zq])), (xf, .inl (cI, 7, .inl ru))] (fun (_ : Unit) => if ftf false false (!decide (0 ≤ p0)) (!decide (p0 ≤ 366)) = 0 then zc else ftf false false (!decide (0 ≤ p0)) (!decide (p0 ≤ 366))) (fun (_ : Unit) => True) (fun (_ : Unit) => [(x, .inr (7, [.ref xf, .ref xs, .ref xk, .ref xp, .ref xd, .ref xo, .ref xn, .ref xr, .ref xy, .ref xi, .int zl, .long zu, .long zv, .ref xt, .ref xq, .ref xb, .ref xw, .ref xl, .ref xm, .int zt, .int za, .int zm, .int (if ftf false false (!decide (0 ≤ p0)) (!decide (p0 ≤ 366)) = 0 then p0 else zc), .int ze, .ref xe, .int zh, .int zi, .int zq])), (xf, .inl (cI, 7, .inl (if ftf false false (!decide (0 ≤ p0)) (!decide (p0 ≤ 366)) = 0 then ru else bmp ru (ftf false false (!decide (0 ≤ p0)) (!decide (p0 ≤ 366))))))]) := by
  refine q_entI (own := RX7) rfl rfl (Nat.le_of_ble_eq_true rfl) ?_
  intro p e s m args below meth c A ls QQ hQ hE hx hb hr hk hin hA hl hst
  have hl : lv_has ls 4 [(0, .ref x), (1, .int p0)] := hl
  have hR : ftf false false (!decide (0 ≤ p0)) (!decide (p0 ≤ 366)) = outI p0 0 366 := ftf_out _ _ _
  refine lv_iload_n hx hb dX7_cut_0 rfl (lv_at hl 1 rfl) ?_
  refine lv_iconst (v := 0) hx hb dX7_cut_1 (by decide) ?_
  refine lv_sipush (v := 366) hx hb dX7_cut_2 (by decide) ?_
  refine q_goI (q_rS hE lk_X7_104 (c_X7_out l D cI cJ cZ p0 0 366 s.heap.size) hst [] rfl rfl rfl hl.1 ⟨(Nat.le_of_ble_eq_true rfl), (Nat.le_of_ble_eq_true rfl)⟩ (rest := []) rfl (Nat.le_of_ble_eq_true rfl) dX7_cut_5 ⟨(Nat.le_of_ble_eq_true rfl), (Nat.le_of_ble_eq_true rfl)⟩) hE hst [] rfl (fun _ => rfl) (fun (_ : Unit) => [(x, .inr (7, [.ref xf, .ref xs, .ref xk, .ref xp, .ref xd, .ref xo, .ref xn, .ref xr, .ref xy, .ref xi, .int zl, .long zu, .long zv, .ref xt, .ref xq, .ref xb, .ref xw, .ref xl, .ref xm, .int zt, .int za, .int zm, .int zc, .int ze, .ref xe, .int zh, .int zi, .int zq])), (xf, .inl (cI, 7, .inl ru))]) (fun _ => rfl) (fun _ H locs hF hst => ?_)
  refine lv_istore_n (lv' := [(2, .int (outI p0 0 366)), (0, .ref x), (1, .int p0)]) hx hb dX7_cut_8 rfl hl (by decide) rfl (fun ls hl => ?_)
  refine lv_iload_n hx hb dX7_cut_9 rfl (lv_at hl 0 rfl) ?_
  refine lv_if_eq (tgt := 19) hx hb dX7_cut_10 (by decide) (fun c_10 => ?_) (fun c_10 => ?_)
  · skip
    refine lv_aload_n hx hb dX7_cut_19 rfl (lv_at hl 1 rfl) ?_
    refine gf_X7_59 hE hst 0 rfl rfl dX7_cut_20 ?_
    refine lv_istore_n (lv' := [(3, .int zc), (2, .int (outI p0 0 366)), (0, .ref x), (1, .int p0)]) hx hb dX7_cut_23 rfl hl (by decide) rfl (fun ls hl => ?_)
    refine lv_aload_n hx hb dX7_cut_24 rfl (lv_at hl 2 rfl) ?_
    refine lv_iload_n hx hb dX7_cut_25 rfl (lv_at hl 3 rfl) ?_
    refine pf_X7_59 hE hst 0 rfl (rfl) (rfl) (Nat.le_of_ble_eq_true rfl) [(x, .inr (7, [.ref xf, .ref xs, .ref xk, .ref xp, .ref xd, .ref xo, .ref xn, .ref xr, .ref xy, .ref xi, .int zl, .long zu, .long zv, .ref xt, .ref xq, .ref xb, .ref xw, .ref xl, .ref xm, .int zt, .int za, .int zm, .int p0, .int ze, .ref xe, .int zh, .int zi, .int zq])), (xf, .inl (cI, 7, .inl ru))] rfl dX7_cut_26 (fun H locs hst => ?_)
    refine lv_iload_n hx hb dX7_cut_29 rfl (lv_at hl 0 rfl) ?_
    exact q_retI hQ hE hr hk hst () (by rw [hR, if_pos c_10]) (trivial) (by simp only [hR, if_pos c_10]) dX7_cut_30
  · skip
    refine lv_aload_n hx hb dX7_cut_13 rfl (lv_at hl 1 rfl) ?_
    refine lv_iload_n hx hb dX7_cut_14 rfl (lv_at hl 0 rfl) ?_
    refine q_goI (q_rV hE lk_X7_81 (c_X7_no l D cI cJ cZ x xf xs xk xp xd xo xn xr xy xi xt xq xb xw xl xm xe zl zt za zm zc ze zh zi zq zu zv ru (outI p0 0 366) (out_in _ _ _) H.size) hst [0, 1] rfl rfl rfl rfl rfl hl.1 ⟨(Nat.le_of_ble_eq_true rfl), (Nat.le_of_ble_eq_true rfl)⟩ (rest := []) rfl (Nat.le_of_ble_eq_true rfl) dX7_cut_15 ⟨(Nat.le_of_ble_eq_true rfl), (Nat.le_of_ble_eq_true rfl)⟩) hE hst [0, 1] rfl (fun _ => rfl) (fun (_ : Unit) => [(x, .inr (7, [.ref xf, .ref xs, .ref xk, .ref xp, .ref xd, .ref xo, .ref xn, .ref xr, .ref xy, .ref xi, .int zl, .long zu, .long zv, .ref xt, .ref xq, .ref xb, .ref xw, .ref xl, .ref xm, .int zt, .int za, .int zm, .int zc, .int ze, .ref xe, .int zh, .int zi, .int zq])), (xf, .inl (cI, 7, .inl (bmp ru (outI p0 0 366))))]) (fun _ => rfl) (fun _ H locs hF hst => ?_)
    exact q_retI hQ hE hr hk hst () (by rw [hR, if_neg c_10]) (trivial) (by simp only [hR, if_neg c_10]) dX7_cut_18
set_option maxHeartbeats 4000000 in
set_option maxRecDepth 100000 in
theorem c_X7_least (l : Launch) (D : va_G) (cI cJ cZ : ClassId) (x : Nat) (xf : Nat) (xs : Nat) (xk : Nat) (xp : Nat) (xd : Nat) (xo : Nat) (xn : Nat) (xr : Nat) (xy : Nat) (xi : Nat) (xt : Nat) (xq : Nat) (xb : Nat) (xw : Nat) (xl : Nat) (xm : Nat) (xe : Nat) (zl : Int32) (zt : Int32) (za : Int32) (zm : Int32) (zc : Int32) (ze : Int32) (zh : Int32) (zi : Int32) (zq : Int32) (zu : Int64) (zv : Int64) (ru : Nat → Int32) (p0 : Int32) : CtI l D cI cJ cZ yX7_least cX7_least 4 (some .int) 2 [.ref x, .int p0] [(x, .inr (7, [.ref xf, .ref xs, .ref xk, .ref xp, .ref xd, .ref xo, .ref xn, .ref xr, .ref xy, .ref xi, .int zl, .long zu, .long zv, .ref xt, .ref xq, .ref xb, .ref xw, .ref xl, .ref xm, .int zt, .int za, .int zm, .int zc, .int ze, .ref xe, .int zh, .int zi, .int zq])), (xf, .inl (cI, 7, .inl ru))] (fun (_ : Unit) => if ftf false false (!decide (1 ≤ p0)) (!decide (p0 ≤ 60)) = 0 then ze else ftf false false (!decide (1 ≤ p0)) (!decide (p0 ≤ 60))) (fun (_ : Unit) => True) (fun (_ : Unit) => [(x, .inr (7, [.ref xf, .ref xs, .ref xk, .ref xp, .ref xd, .ref xo, .ref xn, .ref xr, .ref xy, .ref xi, .int zl, .long zu, .long zv, .ref xt, .ref xq, .ref xb, .ref xw, .ref xl, .ref xm, .int zt, .int za, .int zm, .int zc, .int (if ftf false false (!decide (1 ≤ p0)) (!decide (p0 ≤ 60)) = 0 then p0 else ze), .ref xe, .int zh, .int zi, .int zq])), (xf, .inl (cI, 7, .inl (if ftf false false (!decide (1 ≤ p0)) (!decide (p0 ≤ 60)) = 0 then ru else bmp ru (ftf false false (!decide (1 ≤ p0)) (!decide (p0 ≤ 60))))))]) := by
  refine q_entI (own := RX7) rfl rfl (Nat.le_of_ble_eq_true rfl) ?_
  intro p e s m args below meth c A ls QQ hQ hE hx hb hr hk hin hA hl hst
  have hl : lv_has ls 4 [(0, .ref x), (1, .int p0)] := hl
  have hR : ftf false false (!decide (1 ≤ p0)) (!decide (p0 ≤ 60)) = outI p0 1 60 := ftf_out _ _ _
  refine lv_iload_n hx hb dX7_least_0 rfl (lv_at hl 1 rfl) ?_
  refine lv_iconst (v := 1) hx hb dX7_least_1 (by decide) ?_
  refine lv_bipush (v := 60) hx hb dX7_least_2 (by decide) ?_
  refine q_goI (q_rS hE lk_X7_104 (c_X7_out l D cI cJ cZ p0 1 60 s.heap.size) hst [] rfl rfl rfl hl.1 ⟨(Nat.le_of_ble_eq_true rfl), (Nat.le_of_ble_eq_true rfl)⟩ (rest := []) rfl (Nat.le_of_ble_eq_true rfl) dX7_least_4 ⟨(Nat.le_of_ble_eq_true rfl), (Nat.le_of_ble_eq_true rfl)⟩) hE hst [] rfl (fun _ => rfl) (fun (_ : Unit) => [(x, .inr (7, [.ref xf, .ref xs, .ref xk, .ref xp, .ref xd, .ref xo, .ref xn, .ref xr, .ref xy, .ref xi, .int zl, .long zu, .long zv, .ref xt, .ref xq, .ref xb, .ref xw, .ref xl, .ref xm, .int zt, .int za, .int zm, .int zc, .int ze, .ref xe, .int zh, .int zi, .int zq])), (xf, .inl (cI, 7, .inl ru))]) (fun _ => rfl) (fun _ H locs hF hst => ?_)
  refine lv_istore_n (lv' := [(2, .int (outI p0 1 60)), (0, .ref x), (1, .int p0)]) hx hb dX7_least_7 rfl hl (by decide) rfl (fun ls hl => ?_)
  refine lv_iload_n hx hb dX7_least_8 rfl (lv_at hl 0 rfl) ?_
  refine lv_if_eq (tgt := 18) hx hb dX7_least_9 (by decide) (fun c_9 => ?_) (fun c_9 => ?_)
  · skip
    refine lv_aload_n hx hb dX7_least_18 rfl (lv_at hl 1 rfl) ?_
    refine gf_X7_63 hE hst 0 rfl rfl dX7_least_19 ?_
    refine lv_istore_n (lv' := [(3, .int ze), (2, .int (outI p0 1 60)), (0, .ref x), (1, .int p0)]) hx hb dX7_least_22 rfl hl (by decide) rfl (fun ls hl => ?_)
    refine lv_aload_n hx hb dX7_least_23 rfl (lv_at hl 2 rfl) ?_
    refine lv_iload_n hx hb dX7_least_24 rfl (lv_at hl 3 rfl) ?_
    refine pf_X7_63 hE hst 0 rfl (rfl) (rfl) (Nat.le_of_ble_eq_true rfl) [(x, .inr (7, [.ref xf, .ref xs, .ref xk, .ref xp, .ref xd, .ref xo, .ref xn, .ref xr, .ref xy, .ref xi, .int zl, .long zu, .long zv, .ref xt, .ref xq, .ref xb, .ref xw, .ref xl, .ref xm, .int zt, .int za, .int zm, .int zc, .int p0, .ref xe, .int zh, .int zi, .int zq])), (xf, .inl (cI, 7, .inl ru))] rfl dX7_least_25 (fun H locs hst => ?_)
    refine lv_iload_n hx hb dX7_least_28 rfl (lv_at hl 0 rfl) ?_
    exact q_retI hQ hE hr hk hst () (by rw [hR, if_pos c_9]) (trivial) (by simp only [hR, if_pos c_9]) dX7_least_29
  · skip
    refine lv_aload_n hx hb dX7_least_12 rfl (lv_at hl 1 rfl) ?_
    refine lv_iload_n hx hb dX7_least_13 rfl (lv_at hl 0 rfl) ?_
    refine q_goI (q_rV hE lk_X7_81 (c_X7_no l D cI cJ cZ x xf xs xk xp xd xo xn xr xy xi xt xq xb xw xl xm xe zl zt za zm zc ze zh zi zq zu zv ru (outI p0 1 60) (out_in _ _ _) H.size) hst [0, 1] rfl rfl rfl rfl rfl hl.1 ⟨(Nat.le_of_ble_eq_true rfl), (Nat.le_of_ble_eq_true rfl)⟩ (rest := []) rfl (Nat.le_of_ble_eq_true rfl) dX7_least_14 ⟨(Nat.le_of_ble_eq_true rfl), (Nat.le_of_ble_eq_true rfl)⟩) hE hst [0, 1] rfl (fun _ => rfl) (fun (_ : Unit) => [(x, .inr (7, [.ref xf, .ref xs, .ref xk, .ref xp, .ref xd, .ref xo, .ref xn, .ref xr, .ref xy, .ref xi, .int zl, .long zu, .long zv, .ref xt, .ref xq, .ref xb, .ref xw, .ref xl, .ref xm, .int zt, .int za, .int zm, .int zc, .int ze, .ref xe, .int zh, .int zi, .int zq])), (xf, .inl (cI, 7, .inl (bmp ru (outI p0 1 60))))]) (fun _ => rfl) (fun _ H locs hF hst => ?_)
    exact q_retI hQ hE hr hk hst () (by rw [hR, if_neg c_9]) (trivial) (by simp only [hR, if_neg c_9]) dX7_least_17
set_option maxHeartbeats 4000000 in
set_option maxRecDepth 100000 in
theorem c_X7_law (l : Launch) (D : va_G) (cI cJ cZ : ClassId) (x : Nat) (xf : Nat) (xs : Nat) (xk : Nat) (xp : Nat) (xd : Nat) (xo : Nat) (xn : Nat) (xr : Nat) (xy : Nat) (xi : Nat) (xt : Nat) (xq : Nat) (xb : Nat) (xw : Nat) (xl : Nat) (xm : Nat) (xe : Nat) (zl : Int32) (zt : Int32) (za : Int32) (zm : Int32) (zc : Int32) (ze : Int32) (zh : Int32) (zi : Int32) (zq : Int32) (zu : Int64) (zv : Int64) (ru : Nat → Int32) (la : Nat → Int32) (p0 : Int32) (p1 : Int32) : CtI l D cI cJ cZ yX7_law cX7_law 5 (some .int) 2 [.ref x, .int p0, .int p1] [(x, .inr (7, [.ref xf, .ref xs, .ref xk, .ref xp, .ref xd, .ref xo, .ref xn, .ref xr, .ref xy, .ref xi, .int zl, .long zu, .long zv, .ref xt, .ref xq, .ref xb, .ref xw, .ref xl, .ref xm, .int zt, .int za, .int zm, .int zc, .int ze, .ref xe, .int zh, .int zi, .int zq])), (xf, .inl (cI, 7, .inl ru)), (xl, .inl (cI, 5, .inl la)), (xm, .inl (cI, 5, .inl fGL))] (fun (_ : Unit) => if ftf (!(!decide (p0 < 0) && !decide (nI 5 ≤ p0))) false (!decide (0 ≤ p1)) (!decide (p1 ≤ atI 5 fGL p0)) = 0 then atI 5 la p0 else ftf (!(!decide (p0 < 0) && !decide (nI 5 ≤ p0))) false (!decide (0 ≤ p1)) (!decide (p1 ≤ atI 5 fGL p0))) (fun (_ : Unit) => True) (fun (_ : Unit) => [(x, .inr (7, [.ref xf, .ref xs, .ref xk, .ref xp, .ref xd, .ref xo, .ref xn, .ref xr, .ref xy, .ref xi, .int zl, .long zu, .long zv, .ref xt, .ref xq, .ref xb, .ref xw, .ref xl, .ref xm, .int zt, .int za, .int zm, .int zc, .int ze, .ref xe, .int zh, .int zi, .int zq])), (xf, .inl (cI, 7, .inl (if ftf (!(!decide (p0 < 0) && !decide (nI 5 ≤ p0))) false (!decide (0 ≤ p1)) (!decide (p1 ≤ atI 5 fGL p0)) = 0 then ru else bmp ru (ftf (!(!decide (p0 < 0) && !decide (nI 5 ≤ p0))) false (!decide (0 ≤ p1)) (!decide (p1 ≤ atI 5 fGL p0)))))), (xl, .inl (cI, 5, .inl (if ftf (!(!decide (p0 < 0) && !decide (nI 5 ≤ p0))) false (!decide (0 ≤ p1)) (!decide (p1 ≤ atI 5 fGL p0)) = 0 then putI 5 la p0 p1 else la))), (xm, .inl (cI, 5, .inl fGL))]) := by
  refine q_entI (own := RX7) rfl rfl (Nat.le_of_ble_eq_true rfl) ?_
  intro p e s m args below meth c A ls QQ hQ hE hx hb hr hk hin hA hl hst
  have hl : lv_has ls 5 [(0, .ref x), (1, .int p0), (2, .int p1)] := hl
  refine lv_iload_n hx hb dX7_law_0 rfl (lv_at hl 1 rfl) ?_
  refine lv_iconst (v := 0) hx hb dX7_law_1 (by decide) ?_
  refine lv_iconst (v := 4) hx hb dX7_law_2 (by decide) ?_
  refine q_goI (q_rS hE lk_X7_96 (c_X7_isIn l D cI cJ cZ p0 0 4 s.heap.size) hst [] rfl rfl rfl hl.1 ⟨(Nat.le_of_ble_eq_true rfl), (Nat.le_of_ble_eq_true rfl)⟩ (rest := []) rfl (Nat.le_of_ble_eq_true rfl) dX7_law_3 ⟨(Nat.le_of_ble_eq_true rfl), (Nat.le_of_ble_eq_true rfl)⟩) hE hst [] rfl (fun _ => rfl) (fun (_ : Unit) => [(x, .inr (7, [.ref xf, .ref xs, .ref xk, .ref xp, .ref xd, .ref xo, .ref xn, .ref xr, .ref xy, .ref xi, .int zl, .long zu, .long zv, .ref xt, .ref xq, .ref xb, .ref xw, .ref xl, .ref xm, .int zt, .int za, .int zm, .int zc, .int ze, .ref xe, .int zh, .int zi, .int zq])), (xf, .inl (cI, 7, .inl ru)), (xl, .inl (cI, 5, .inl la)), (xm, .inl (cI, 5, .inl fGL))]) (fun _ => rfl) (fun _ H locs hF hst => ?_)
  refine lv_if_ne (tgt := 15) hx hb dX7_law_6 (by decide) (fun c_6 => ?_) (fun c_6 => ?_)
  · skip
    have c_6 := b2i_t c_6
    obtain ⟨i0, hi0, rfl⟩ := in_of (b := 4) (by decide) c_6
    have hR : ftf (!(!decide ((nI i0) < 0) && !decide (nI 5 ≤ (nI i0)))) false (!decide (0 ≤ p1)) (!decide (p1 ≤ atI 5 fGL (nI i0))) = outI p1 0 (fGL i0) := by rw [lw_in, c_6, ← atI_n (f := fGL) (show i0 < 5 by omega) (by decide)]; exact ftf_out _ _ _
    skip
    refine lv_iload_n hx hb dX7_law_15 rfl (lv_at hl 2 rfl) ?_
    refine lv_iconst (v := 0) hx hb dX7_law_16 (by decide) ?_
    refine lv_aload_n hx hb dX7_law_17 rfl (lv_at hl 0 rfl) ?_
    refine gf_X7_56 hE hst 0 rfl rfl dX7_law_18 ?_
    refine lv_iload_n hx hb dX7_law_21 rfl (lv_at hl 1 rfl) ?_
    refine q_aldN hE hst 3 rfl i0 (rfl) (by omega) (by decide) dX7_law_22 ?_
    refine q_goI (q_rS hE lk_X7_104 (c_X7_out l D cI cJ cZ p1 0 (fGL i0) H.size) hst [] rfl rfl rfl hl.1 ⟨(Nat.le_of_ble_eq_true rfl), (Nat.le_of_ble_eq_true rfl)⟩ (rest := []) rfl (Nat.le_of_ble_eq_true rfl) dX7_law_23 ⟨(Nat.le_of_ble_eq_true rfl), (Nat.le_of_ble_eq_true rfl)⟩) hE hst [] rfl (fun _ => rfl) (fun (_ : Unit) => [(x, .inr (7, [.ref xf, .ref xs, .ref xk, .ref xp, .ref xd, .ref xo, .ref xn, .ref xr, .ref xy, .ref xi, .int zl, .long zu, .long zv, .ref xt, .ref xq, .ref xb, .ref xw, .ref xl, .ref xm, .int zt, .int za, .int zm, .int zc, .int ze, .ref xe, .int zh, .int zi, .int zq])), (xf, .inl (cI, 7, .inl ru)), (xl, .inl (cI, 5, .inl la)), (xm, .inl (cI, 5, .inl fGL))]) (fun _ => rfl) (fun _ H locs hF hst => ?_)
    refine lv_istore_n (lv' := [(3, .int (outI p1 0 (fGL i0))), (0, .ref x), (1, .int (nI i0)), (2, .int p1)]) hx hb dX7_law_26 rfl hl (by decide) rfl (fun ls hl => ?_)
    refine lv_iload_n hx hb dX7_law_27 rfl (lv_at hl 0 rfl) ?_
    refine lv_if_eq (tgt := 37) hx hb dX7_law_28 (by decide) (fun c_28 => ?_) (fun c_28 => ?_)
    · skip
      rw [c_28] at hR
      refine lv_aload_n hx hb dX7_law_37 rfl (lv_at hl 1 rfl) ?_
      refine gf_X7_53 hE hst 0 rfl rfl dX7_law_38 ?_
      refine lv_iload_n hx hb dX7_law_41 rfl (lv_at hl 2 rfl) ?_
      refine q_aldN hE hst 2 rfl i0 (rfl) (by omega) (by decide) dX7_law_42 ?_
      refine lv_istore (lv' := [(4, .int (la i0)), (3, .int (outI p1 0 (fGL i0))), (0, .ref x), (1, .int (nI i0)), (2, .int p1)]) hx hb dX7_law_43 hl (by decide) rfl (fun ls hl => ?_)
      refine lv_aload_n hx hb dX7_law_45 rfl (lv_at hl 2 rfl) ?_
      refine gf_X7_53 hE hst 0 rfl rfl dX7_law_46 ?_
      refine lv_iload_n hx hb dX7_law_49 rfl (lv_at hl 3 rfl) ?_
      refine lv_iload_n hx hb dX7_law_50 rfl (lv_at hl 4 rfl) ?_
      refine q_astN hE hst 2 rfl i0 (rfl) (by omega) (by decide) [(x, .inr (7, [.ref xf, .ref xs, .ref xk, .ref xp, .ref xd, .ref xo, .ref xn, .ref xr, .ref xy, .ref xi, .int zl, .long zu, .long zv, .ref xt, .ref xq, .ref xb, .ref xw, .ref xl, .ref xm, .int zt, .int za, .int zm, .int zc, .int ze, .ref xe, .int zh, .int zi, .int zq])), (xf, .inl (cI, 7, .inl ru)), (xl, .inl (cI, 5, .inl (upd la i0 p1))), (xm, .inl (cI, 5, .inl fGL))] rfl dX7_law_51 (fun H locs hst => ?_)
      refine lv_iload hx hb dX7_law_52 (lv_at hl 0 rfl) ?_
      exact q_retI hQ hE hr hk hst () (by rw [hR, if_pos rfl, atI_n (by omega) (by decide)]) (trivial) (by simp only [hR, if_pos rfl, putI_n (show i0 < 5 by omega) (by decide)]; rfl) dX7_law_54
    · skip
      have hN := c_28
      rw [← hR] at hN
      refine lv_aload_n hx hb dX7_law_31 rfl (lv_at hl 1 rfl) ?_
      refine lv_iload_n hx hb dX7_law_32 rfl (lv_at hl 0 rfl) ?_
      refine q_goI (q_rV hE lk_X7_81 (c_X7_no l D cI cJ cZ x xf xs xk xp xd xo xn xr xy xi xt xq xb xw xl xm xe zl zt za zm zc ze zh zi zq zu zv ru (outI p1 0 (fGL i0)) (out_in _ _ _) H.size) hst [0, 1] rfl rfl rfl rfl rfl hl.1 ⟨(Nat.le_of_ble_eq_true rfl), (Nat.le_of_ble_eq_true rfl)⟩ (rest := []) rfl (Nat.le_of_ble_eq_true rfl) dX7_law_33 ⟨(Nat.le_of_ble_eq_true rfl), (Nat.le_of_ble_eq_true rfl)⟩) hE hst [0, 1] rfl (fun _ => rfl) (fun (_ : Unit) => [(x, .inr (7, [.ref xf, .ref xs, .ref xk, .ref xp, .ref xd, .ref xo, .ref xn, .ref xr, .ref xy, .ref xi, .int zl, .long zu, .long zv, .ref xt, .ref xq, .ref xb, .ref xw, .ref xl, .ref xm, .int zt, .int za, .int zm, .int zc, .int ze, .ref xe, .int zh, .int zi, .int zq])), (xf, .inl (cI, 7, .inl (bmp ru (outI p1 0 (fGL i0))))), (xl, .inl (cI, 5, .inl la)), (xm, .inl (cI, 5, .inl fGL))]) (fun _ => rfl) (fun _ H locs hF hst => ?_)
      exact q_retI hQ hE hr hk hst () (by rw [if_neg hN]; exact hR.symm) (trivial) (by simp only [hR, if_neg c_28]) dX7_law_36
  · skip
    have c_6 := b2i_f c_6
    have hR : ftf (!(!decide (p0 < 0) && !decide (nI 5 ≤ p0))) false (!decide (0 ≤ p1)) (!decide (p1 ≤ atI 5 fGL p0)) = -1 := by rw [lw_in, c_6]; rfl
    refine lv_aload_n hx hb dX7_law_9 rfl (lv_at hl 0 rfl) ?_
    refine lv_iconst (v := (-1)) hx hb dX7_law_10 (by decide) ?_
    refine q_goI (q_rV hE lk_X7_81 (c_X7_no l D cI cJ cZ x xf xs xk xp xd xo xn xr xy xi xt xq xb xw xl xm xe zl zt za zm zc ze zh zi zq zu zv ru (-1) (by rw [vp_in_iff]; decide) H.size) hst [0, 1] rfl rfl rfl rfl rfl hl.1 ⟨(Nat.le_of_ble_eq_true rfl), (Nat.le_of_ble_eq_true rfl)⟩ (rest := []) rfl (Nat.le_of_ble_eq_true rfl) dX7_law_11 ⟨(Nat.le_of_ble_eq_true rfl), (Nat.le_of_ble_eq_true rfl)⟩) hE hst [0, 1] rfl (fun _ => rfl) (fun (_ : Unit) => [(x, .inr (7, [.ref xf, .ref xs, .ref xk, .ref xp, .ref xd, .ref xo, .ref xn, .ref xr, .ref xy, .ref xi, .int zl, .long zu, .long zv, .ref xt, .ref xq, .ref xb, .ref xw, .ref xl, .ref xm, .int zt, .int za, .int zm, .int zc, .int ze, .ref xe, .int zh, .int zi, .int zq])), (xf, .inl (cI, 7, .inl (bmp ru (-1)))), (xl, .inl (cI, 5, .inl la)), (xm, .inl (cI, 5, .inl fGL))]) (fun _ => rfl) (fun _ H locs hF hst => ?_)
    exact q_retI hQ hE hr hk hst () (by rw [hR]; rfl) (trivial) (by simp only [hR]; rfl) dX7_law_14
theorem mf_1 {b c : Bool} (h : b = false) : ftf (!b) c false false = -1 := by rw [h]; rfl
theorem mf_2 {b : Bool} {p : Int32} (h : b = true) (h0 : ¬ p = 0) (h1 : ¬ p = 1) (h2 : ¬ p = 2) : ftf (!b) (decide (p < 0) || !decide (p ≤ 2)) false false = -2 := by
  have e : (decide (p < 0) || !decide (p ≤ 2)) = true := by
    rw [Bool.or_eq_true]
    by_cases g : p < 0
    · exact Or.inl (decide_eq_true g)
    · obtain ⟨k, hk, rfl⟩ := nI_of g
      refine Or.inr ?_
      rw [Bool.not_eq_true', decide_eq_false_iff_not]
      intro z
      have := (nI_leI (a := k) (b := 2) hk (by decide)).mp z
      match k, this with
      | 0, _ => exact h0 rfl
      | 1, _ => exact h1 rfl
      | 2, _ => exact h2 rfl
  rw [h, e]
  rfl
theorem mf_0 {b : Bool} {p : Int32} (h : b = true) (hp : p = 0 ∨ p = 1 ∨ p = 2) : ftf (!b) (decide (p < 0) || !decide (p ≤ 2)) false false = 0 := by
  rw [h]
  rcases hp with rfl | rfl | rfl <;> decide
set_option maxHeartbeats 4000000 in
set_option maxRecDepth 100000 in
theorem c_X7_manOf (l : Launch) (D : va_G) (cI cJ cZ : ClassId) (x : Nat) (xf : Nat) (xs : Nat) (xk : Nat) (xp : Nat) (xd : Nat) (xo : Nat) (xn : Nat) (xr : Nat) (xy : Nat) (xi : Nat) (xt : Nat) (xq : Nat) (xb : Nat) (xw : Nat) (xl : Nat) (xm : Nat) (xe : Nat) (zl : Int32) (zt : Int32) (za : Int32) (zc : Int32) (ze : Int32) (zh : Int32) (zi : Int32) (zq : Int32) (zu : Int64) (zv : Int64) (nq : Nat) (ru : Nat → Int32) (ki : Nat → Int32) (bi : Nat → Int32) (pa : Nat → Int32) (p0 : Int32) (p1 : Int32) (hn : nq ≤ 60) : CtI l D cI cJ cZ yX7_manOf cX7_manOf 3 (some .int) 2 [.ref x, .int p0, .int p1] [(x, .inr (7, [.ref xf, .ref xs, .ref xk, .ref xp, .ref xd, .ref xo, .ref xn, .ref xr, .ref xy, .ref xi, .int zl, .long zu, .long zv, .ref xt, .ref xq, .ref xb, .ref xw, .ref xl, .ref xm, .int zt, .int za, .int (nI nq), .int zc, .int ze, .ref xe, .int zh, .int zi, .int zq])), (xf, .inl (cI, 7, .inl ru)), (xq, .inl (cI, 60, .inl ki)), (xb, .inl (cI, 60, .inl bi)), (xw, .inl (cI, 60, .inl pa))] (fun (_ : Unit) => if ftf (!manB (nI nq) p0) (decide (p1 < 0) || !decide (p1 ≤ 2)) false false = 0 then (if p1 = 0 then atI 60 ki p0 else if p1 = 1 then atI 60 bi p0 else atI 60 pa p0) else ftf (!manB (nI nq) p0) (decide (p1 < 0) || !decide (p1 ≤ 2)) false false) (fun (_ : Unit) => True) (fun (_ : Unit) => [(x, .inr (7, [.ref xf, .ref xs, .ref xk, .ref xp, .ref xd, .ref xo, .ref xn, .ref xr, .ref xy, .ref xi, .int zl, .long zu, .long zv, .ref xt, .ref xq, .ref xb, .ref xw, .ref xl, .ref xm, .int zt, .int za, .int (nI nq), .int zc, .int ze, .ref xe, .int zh, .int zi, .int zq])), (xf, .inl (cI, 7, .inl (if ftf (!manB (nI nq) p0) (decide (p1 < 0) || !decide (p1 ≤ 2)) false false = 0 then ru else bmp ru (ftf (!manB (nI nq) p0) (decide (p1 < 0) || !decide (p1 ≤ 2)) false false)))), (xq, .inl (cI, 60, .inl ki)), (xb, .inl (cI, 60, .inl bi)), (xw, .inl (cI, 60, .inl pa))]) := by
  refine q_entI (own := RX7) rfl rfl (Nat.le_of_ble_eq_true rfl) ?_
  intro p e s m args below meth c A ls QQ hQ hE hx hb hr hk hin hA hl hst
  have hl : lv_has ls 3 [(0, .ref x), (1, .int p0), (2, .int p1)] := hl
  refine lv_aload_n hx hb dX7_manOf_0 rfl (lv_at hl 0 rfl) ?_
  refine lv_iload_n hx hb dX7_manOf_1 rfl (lv_at hl 1 rfl) ?_
  refine q_goI (q_rV hE lk_X7_170 (c_X7_isMan l D cI cJ cZ x xf xs xk xp xd xo xn xr xy xi xt xq xb xw xl xm xe zl zt za (nI nq) zc ze zh zi zq zu zv p0 s.heap.size) hst [0] rfl rfl rfl rfl rfl hl.1 ⟨(Nat.le_of_ble_eq_true rfl), (Nat.le_of_ble_eq_true rfl)⟩ (rest := []) rfl (Nat.le_of_ble_eq_true rfl) dX7_manOf_2 ⟨(Nat.le_of_ble_eq_true rfl), (Nat.le_of_ble_eq_true rfl)⟩) hE hst [0] rfl (fun _ => rfl) (fun (_ : Unit) => [(x, .inr (7, [.ref xf, .ref xs, .ref xk, .ref xp, .ref xd, .ref xo, .ref xn, .ref xr, .ref xy, .ref xi, .int zl, .long zu, .long zv, .ref xt, .ref xq, .ref xb, .ref xw, .ref xl, .ref xm, .int zt, .int za, .int (nI nq), .int zc, .int ze, .ref xe, .int zh, .int zi, .int zq])), (xf, .inl (cI, 7, .inl ru)), (xq, .inl (cI, 60, .inl ki)), (xb, .inl (cI, 60, .inl bi)), (xw, .inl (cI, 60, .inl pa))]) (fun _ => rfl) (fun _ H locs hF hst => ?_)
  refine lv_if_ne (tgt := 14) hx hb dX7_manOf_5 (by decide) (fun c_5 => ?_) (fun c_5 => ?_)
  · skip
    have c_5 := b2i_t c_5
    have hb1 := c_5
    obtain ⟨m0, hm0, rfl⟩ := man_of hn c_5
    skip
    refine lv_iload_n hx hb dX7_manOf_14 rfl (lv_at hl 2 rfl) ?_
    by_cases c_15_0 : p1 = 0
    · skip
      refine lv_tableIn (off := 25) (tgt := 40) hx hb dX7_manOf_15 (by rw [c_15_0]; decide) (by rw [c_15_0]; decide) (by rw [c_15_0]; rfl) (by decide) ?_
      refine lv_aload_n hx hb dX7_manOf_40 rfl (lv_at hl 0 rfl) ?_
      refine gf_X7_44 hE hst 0 rfl rfl dX7_manOf_41 ?_
      refine lv_iload_n hx hb dX7_manOf_44 rfl (lv_at hl 1 rfl) ?_
      refine q_aldN hE hst 2 rfl m0 (rfl) (by omega) (by decide) dX7_manOf_45 ?_
      exact q_retI hQ hE hr hk hst () (by rw [mf_0 hb1 (Or.inl c_15_0), if_pos rfl, if_pos c_15_0, atI_n (by omega) (by decide)]) (trivial) (by rw [mf_0 hb1 (Or.inl c_15_0)]; rfl) dX7_manOf_46
    by_cases c_15_1 : p1 = 1
    · skip
      refine lv_tableIn (off := 32) (tgt := 47) hx hb dX7_manOf_15 (by rw [c_15_1]; decide) (by rw [c_15_1]; decide) (by rw [c_15_1]; rfl) (by decide) ?_
      refine lv_aload_n hx hb dX7_manOf_47 rfl (lv_at hl 0 rfl) ?_
      refine gf_X7_47 hE hst 0 rfl rfl dX7_manOf_48 ?_
      refine lv_iload_n hx hb dX7_manOf_51 rfl (lv_at hl 1 rfl) ?_
      refine q_aldN hE hst 3 rfl m0 (rfl) (by omega) (by decide) dX7_manOf_52 ?_
      exact q_retI hQ hE hr hk hst () (by rw [mf_0 hb1 (Or.inr (Or.inl c_15_1)), if_pos rfl, if_neg c_15_0, if_pos c_15_1, atI_n (by omega) (by decide)]) (trivial) (by rw [mf_0 hb1 (Or.inr (Or.inl c_15_1))]; rfl) dX7_manOf_53
    by_cases c_15_2 : p1 = 2
    · skip
      refine lv_tableIn (off := 39) (tgt := 54) hx hb dX7_manOf_15 (by rw [c_15_2]; decide) (by rw [c_15_2]; decide) (by rw [c_15_2]; rfl) (by decide) ?_
      refine lv_aload_n hx hb dX7_manOf_54 rfl (lv_at hl 0 rfl) ?_
      refine gf_X7_50 hE hst 0 rfl rfl dX7_manOf_55 ?_
      refine lv_iload_n hx hb dX7_manOf_58 rfl (lv_at hl 1 rfl) ?_
      refine q_aldN hE hst 4 rfl m0 (rfl) (by omega) (by decide) dX7_manOf_59 ?_
      exact q_retI hQ hE hr hk hst () (by rw [mf_0 hb1 (Or.inr (Or.inr c_15_2)), if_pos rfl, if_neg c_15_0, if_neg c_15_1, atI_n (by omega) (by decide)]) (trivial) (by rw [mf_0 hb1 (Or.inr (Or.inr c_15_2))]; rfl) dX7_manOf_60
    refine lv_tableOut (tgt := 61) hx hb dX7_manOf_15 (by have q0 := lv_neT c_15_0 (a := 0) (by decide); have q1 := lv_neT c_15_1 (a := 1) (by decide); have q2 := lv_neT c_15_2 (a := 2) (by decide); omega) (by decide) ?_
    refine lv_aload_n hx hb dX7_manOf_61 rfl (lv_at hl 0 rfl) ?_
    refine lv_bipush (v := (-2)) hx hb dX7_manOf_62 (by decide) ?_
    refine q_goI (q_rV hE lk_X7_81 (c_X7_no l D cI cJ cZ x xf xs xk xp xd xo xn xr xy xi xt xq xb xw xl xm xe zl zt za (nI nq) zc ze zh zi zq zu zv ru (-2) (by rw [vp_in_iff]; decide) H.size) hst [0, 1] rfl rfl rfl rfl rfl hl.1 ⟨(Nat.le_of_ble_eq_true rfl), (Nat.le_of_ble_eq_true rfl)⟩ (rest := []) rfl (Nat.le_of_ble_eq_true rfl) dX7_manOf_64 ⟨(Nat.le_of_ble_eq_true rfl), (Nat.le_of_ble_eq_true rfl)⟩) hE hst [0, 1] rfl (fun _ => rfl) (fun (_ : Unit) => [(x, .inr (7, [.ref xf, .ref xs, .ref xk, .ref xp, .ref xd, .ref xo, .ref xn, .ref xr, .ref xy, .ref xi, .int zl, .long zu, .long zv, .ref xt, .ref xq, .ref xb, .ref xw, .ref xl, .ref xm, .int zt, .int za, .int (nI nq), .int zc, .int ze, .ref xe, .int zh, .int zi, .int zq])), (xf, .inl (cI, 7, .inl (bmp ru (-2)))), (xq, .inl (cI, 60, .inl ki)), (xb, .inl (cI, 60, .inl bi)), (xw, .inl (cI, 60, .inl pa))]) (fun _ => rfl) (fun _ H locs hF hst => ?_)
    exact q_retI hQ hE hr hk hst () (by rw [mf_2 hb1 c_15_0 c_15_1 c_15_2]; rfl) (trivial) (by rw [mf_2 hb1 c_15_0 c_15_1 c_15_2]; rfl) dX7_manOf_67
  · skip
    have c_5 := b2i_f c_5
    have hR : ftf (!manB (nI nq) p0) (decide (p1 < 0) || !decide (p1 ≤ 2)) false false = -1 := mf_1 c_5
    refine lv_aload_n hx hb dX7_manOf_8 rfl (lv_at hl 0 rfl) ?_
    refine lv_iconst (v := (-1)) hx hb dX7_manOf_9 (by decide) ?_
    refine q_goI (q_rV hE lk_X7_81 (c_X7_no l D cI cJ cZ x xf xs xk xp xd xo xn xr xy xi xt xq xb xw xl xm xe zl zt za (nI nq) zc ze zh zi zq zu zv ru (-1) (by rw [vp_in_iff]; decide) H.size) hst [0, 1] rfl rfl rfl rfl rfl hl.1 ⟨(Nat.le_of_ble_eq_true rfl), (Nat.le_of_ble_eq_true rfl)⟩ (rest := []) rfl (Nat.le_of_ble_eq_true rfl) dX7_manOf_10 ⟨(Nat.le_of_ble_eq_true rfl), (Nat.le_of_ble_eq_true rfl)⟩) hE hst [0, 1] rfl (fun _ => rfl) (fun (_ : Unit) => [(x, .inr (7, [.ref xf, .ref xs, .ref xk, .ref xp, .ref xd, .ref xo, .ref xn, .ref xr, .ref xy, .ref xi, .int zl, .long zu, .long zv, .ref xt, .ref xq, .ref xb, .ref xw, .ref xl, .ref xm, .int zt, .int za, .int (nI nq), .int zc, .int ze, .ref xe, .int zh, .int zi, .int zq])), (xf, .inl (cI, 7, .inl (bmp ru (-1)))), (xq, .inl (cI, 60, .inl ki)), (xb, .inl (cI, 60, .inl bi)), (xw, .inl (cI, 60, .inl pa))]) (fun _ => rfl) (fun _ H locs hF hst => ?_)
    exact q_retI hQ hE hr hk hst () (by rw [hR]; rfl) (trivial) (by rw [hR]; rfl) dX7_manOf_13
set_option maxHeartbeats 4000000 in
set_option maxRecDepth 100000 in
theorem c_X7_lossIn (l : Launch) (D : va_G) (cI cJ cZ : ClassId) (x : Nat) (xf : Nat) (xs : Nat) (xk : Nat) (xp : Nat) (xd : Nat) (xo : Nat) (xn : Nat) (xr : Nat) (xy : Nat) (xi : Nat) (xt : Nat) (xq : Nat) (xb : Nat) (xw : Nat) (xl : Nat) (xm : Nat) (xe : Nat) (zl : Int32) (zt : Int32) (za : Int32) (zm : Int32) (zc : Int32) (ze : Int32) (zh : Int32) (zi : Int32) (zq : Int32) (zu : Int64) (zv : Int64) (la : Nat → Int32) (p0 : Int32) : CtI l D cI cJ cZ yX7_lossIn cX7_lossIn 3 (some .int) 0 [.ref x, .int p0] [(x, .inr (7, [.ref xf, .ref xs, .ref xk, .ref xp, .ref xd, .ref xo, .ref xn, .ref xr, .ref xy, .ref xi, .int zl, .long zu, .long zv, .ref xt, .ref xq, .ref xb, .ref xw, .ref xl, .ref xm, .int zt, .int za, .int zm, .int zc, .int ze, .ref xe, .int zh, .int zi, .int zq])), (xl, .inl (cI, 5, .inl la))] (fun (_ : Unit) => losI la p0) (fun (_ : Unit) => True) (fun (_ : Unit) => [(x, .inr (7, [.ref xf, .ref xs, .ref xk, .ref xp, .ref xd, .ref xo, .ref xn, .ref xr, .ref xy, .ref xi, .int zl, .long zu, .long zv, .ref xt, .ref xq, .ref xb, .ref xw, .ref xl, .ref xm, .int zt, .int za, .int zm, .int zc, .int ze, .ref xe, .int zh, .int zi, .int zq])), (xl, .inl (cI, 5, .inl la))]) := by
  refine q_entI (own := RX7) rfl rfl (Nat.le_of_ble_eq_true rfl) ?_
  intro p e s m args below meth c A ls QQ hQ hE hx hb hr hk hin hA hl hst
  have hl : lv_has ls 3 [(0, .ref x), (1, .int p0)] := hl
  refine lv_bipush (v := 100) hx hb dX7_lossIn_0 (by decide) ?_
  refine lv_aload_n hx hb dX7_lossIn_2 rfl (lv_at hl 0 rfl) ?_
  refine gf_X7_53 hE hst 0 rfl rfl dX7_lossIn_3 ?_
  refine lv_iconst (v := 2) hx hb dX7_lossIn_6 (by decide) ?_
  refine q_aldN hE hst 1 rfl 2 (rfl) (by decide) (by decide) dX7_lossIn_7 ?_
  refine lv_iload_n hx hb dX7_lossIn_8 rfl (lv_at hl 1 rfl) ?_
  refine lv_imul hx hb dX7_lossIn_9 ?_
  refine lv_isub hx hb dX7_lossIn_10 ?_
  refine lv_istore_n (lv' := [(2, .int (100 - ((la 2) * p0))), (0, .ref x), (1, .int p0)]) hx hb dX7_lossIn_11 rfl hl (by decide) rfl (fun ls hl => ?_)
  refine lv_iload_n hx hb dX7_lossIn_12 rfl (lv_at hl 0 rfl) ?_
  refine lv_if_ge (tgt := 20) hx hb dX7_lossIn_13 (by decide) (fun c_13 => ?_) (fun c_13 => ?_)
  · skip
    refine lv_aload_n hx hb dX7_lossIn_20 rfl (lv_at hl 1 rfl) ?_
    refine gf_X7_53 hE hst 0 rfl rfl dX7_lossIn_21 ?_
    refine lv_iconst (v := 1) hx hb dX7_lossIn_24 (by decide) ?_
    refine q_aldN hE hst 1 rfl 1 (rfl) (by decide) (by decide) dX7_lossIn_25 ?_
    refine lv_iload_n hx hb dX7_lossIn_26 rfl (lv_at hl 0 rfl) ?_
    refine lv_imul hx hb dX7_lossIn_27 ?_
    refine lv_bipush (v := 100) hx hb dX7_lossIn_28 (by decide) ?_
    refine lv_idiv hx hb dX7_lossIn_30 (by decide) ?_
    exact q_retI hQ hE hr hk hst () (by unfold losI; rw [los_t _ c_13]) (trivial) (rfl) dX7_lossIn_31
  · skip
    refine lv_iconst (v := 0) hx hb dX7_lossIn_16 (by decide) ?_
    refine lv_goto (tgt := 31) hx hb dX7_lossIn_17 (by decide) ?_
    exact q_retI hQ hE hr hk hst () ((los_f _ _ c_13).symm) (trivial) (rfl) dX7_lossIn_31
set_option maxHeartbeats 4000000 in
set_option maxRecDepth 100000 in
theorem c_X7_number (l : Launch) (D : va_G) (cI cJ cZ : ClassId) (x : Nat) (xf : Nat) (xs : Nat) (xk : Nat) (xp : Nat) (xd : Nat) (xo : Nat) (xn : Nat) (xr : Nat) (xy : Nat) (xi : Nat) (xt : Nat) (xq : Nat) (xb : Nat) (xw : Nat) (xl : Nat) (xm : Nat) (xe : Nat) (zl : Int32) (zt : Int32) (za : Int32) (zm : Int32) (zc : Int32) (ze : Int32) (zh : Int32) (zi : Int32) (zq : Int32) (zu : Int64) (zv : Int64) (ru : Nat → Int32) (seF : Nat → Int32) (kF : Nat → Nat) (spF : Nat → Nat) (deF : Nat → Nat) (pF : Nat → Bool) (nm : Nat → Int32) (f : Nat → Int32) (dz : Nat → Int32) (j0 : Nat) (p0 : Int32) (p1 : Int32) (hj : j0 < 2) (hsl : isJarB p0 = true → p0 = nI j0) (hjo : joM kF spF deF) (hck : ckM seF kF spF deF pF nm dz) : CtI l D cI cJ cZ yX7_number cX7_number 3 (some .int) 3 [.ref x, .int p0, .int p1] [(x, .inr (7, [.ref xf, .ref xs, .ref xk, .ref xp, .ref xd, .ref xo, .ref xn, .ref xr, .ref xy, .ref xi, .int zl, .long zu, .long zv, .ref xt, .ref xq, .ref xb, .ref xw, .ref xl, .ref xm, .int zt, .int za, .int zm, .int zc, .int ze, .ref xe, .int zh, .int zi, .int zq])), (xs, .inl (cI, 2, .inl seF)), (xk, .inl (cI, 2, .inl (nR kF))), (xp, .inl (cI, 2, .inl (nR spF))), (xd, .inl (cI, 2, .inl (nR deF))), (xo, .inl (cI, 2, .inl (bR pF))), (xn, .inl (cI, 732, .inl nm)), (xr, .inl (cI, 366, .inl f)), (xi, .inl (cZ, 2, .inl dz)), (xf, .inl (cI, 7, .inl ru))] (fun (u : Int32 × (Nat → Int32) × (Nat → Int32) × (Nat → Int32)) => if (isJarB p0 && (!decide (p1 < 0) && decide (p1 < 366))) = true then atI 366 (ndM seF kF spF deF pF j0) p1 else -1) (fun (u : Int32 × (Nat → Int32) × (Nat → Int32) × (Nat → Int32)) => ckM seF kF spF deF pF u.2.1 u.2.2.2) (fun (u : Int32 × (Nat → Int32) × (Nat → Int32) × (Nat → Int32)) => [(x, .inr (7, [.ref xf, .ref xs, .ref xk, .ref xp, .ref xd, .ref xo, .ref xn, .ref xr, .ref xy, .ref xi, .int u.1, .long zu, .long zv, .ref xt, .ref xq, .ref xb, .ref xw, .ref xl, .ref xm, .int zt, .int za, .int zm, .int zc, .int ze, .ref xe, .int zh, .int zi, .int zq])), (xs, .inl (cI, 2, .inl seF)), (xk, .inl (cI, 2, .inl (nR kF))), (xp, .inl (cI, 2, .inl (nR spF))), (xd, .inl (cI, 2, .inl (nR deF))), (xo, .inl (cI, 2, .inl (bR pF))), (xn, .inl (cI, 732, .inl u.2.1)), (xr, .inl (cI, 366, .inl u.2.2.1)), (xi, .inl (cZ, 2, .inl u.2.2.2)), (xf, .inl (cI, 7, .inl (if (isJarB p0 && (!decide (p1 < 0) && decide (p1 < 366))) = true then ru else bmp ru (-1))))]) := by
  refine q_entI (own := RX7) rfl rfl (Nat.le_of_ble_eq_true rfl) ?_
  intro p e s m args below meth c A ls QQ hQ hE hx hb hr hk hin hA hl hst
  have hl : lv_has ls 3 [(0, .ref x), (1, .int p0), (2, .int p1)] := hl
  refine lv_iload_n hx hb dX7_number_0 rfl (lv_at hl 1 rfl) ?_
  refine q_goI (q_rS hE lk_X7_77 (c_X7_isJar l D cI cJ cZ p0 s.heap.size) hst [] rfl rfl rfl hl.1 ⟨(Nat.le_of_ble_eq_true rfl), (Nat.le_of_ble_eq_true rfl)⟩ (rest := []) rfl (Nat.le_of_ble_eq_true rfl) dX7_number_1 ⟨(Nat.le_of_ble_eq_true rfl), (Nat.le_of_ble_eq_true rfl)⟩) hE hst [] rfl (fun _ => rfl) (fun (_ : Unit) => [(x, .inr (7, [.ref xf, .ref xs, .ref xk, .ref xp, .ref xd, .ref xo, .ref xn, .ref xr, .ref xy, .ref xi, .int zl, .long zu, .long zv, .ref xt, .ref xq, .ref xb, .ref xw, .ref xl, .ref xm, .int zt, .int za, .int zm, .int zc, .int ze, .ref xe, .int zh, .int zi, .int zq])), (xs, .inl (cI, 2, .inl seF)), (xk, .inl (cI, 2, .inl (nR kF))), (xp, .inl (cI, 2, .inl (nR spF))), (xd, .inl (cI, 2, .inl (nR deF))), (xo, .inl (cI, 2, .inl (bR pF))), (xn, .inl (cI, 732, .inl nm)), (xr, .inl (cI, 366, .inl f)), (xi, .inl (cZ, 2, .inl dz)), (xf, .inl (cI, 7, .inl ru))]) (fun _ => rfl) (fun _ H locs hF hst => ?_)
  refine lv_if_eq (tgt := 27) hx hb dX7_number_4 (by decide) (fun c_4 => ?_) (fun c_4 => ?_)
  · skip
    have c_4 := b2i_f c_4
    refine lv_aload_n hx hb dX7_number_27 rfl (lv_at hl 0 rfl) ?_
    refine lv_iconst (v := (-1)) hx hb dX7_number_28 (by decide) ?_
    refine q_goI (q_rV hE lk_X7_81 (c_X7_no l D cI cJ cZ x xf xs xk xp xd xo xn xr xy xi xt xq xb xw xl xm xe zl zt za zm zc ze zh zi zq zu zv ru (-1) (by rw [vp_in_iff]; decide) H.size) hst [0, 9] rfl rfl rfl rfl rfl hl.1 ⟨(Nat.le_of_ble_eq_true rfl), (Nat.le_of_ble_eq_true rfl)⟩ (rest := []) rfl (Nat.le_of_ble_eq_true rfl) dX7_number_29 ⟨(Nat.le_of_ble_eq_true rfl), (Nat.le_of_ble_eq_true rfl)⟩) hE hst [0, 9] rfl (fun _ => rfl) (fun (_ : Unit) => [(x, .inr (7, [.ref xf, .ref xs, .ref xk, .ref xp, .ref xd, .ref xo, .ref xn, .ref xr, .ref xy, .ref xi, .int zl, .long zu, .long zv, .ref xt, .ref xq, .ref xb, .ref xw, .ref xl, .ref xm, .int zt, .int za, .int zm, .int zc, .int ze, .ref xe, .int zh, .int zi, .int zq])), (xs, .inl (cI, 2, .inl seF)), (xk, .inl (cI, 2, .inl (nR kF))), (xp, .inl (cI, 2, .inl (nR spF))), (xd, .inl (cI, 2, .inl (nR deF))), (xo, .inl (cI, 2, .inl (bR pF))), (xn, .inl (cI, 732, .inl nm)), (xr, .inl (cI, 366, .inl f)), (xi, .inl (cZ, 2, .inl dz)), (xf, .inl (cI, 7, .inl (bmp ru (-1))))]) (fun _ => rfl) (fun _ H locs hF hst => ?_)
    exact q_retI hQ hE hr hk hst (zl, nm, f, dz) (by rw [nb_eq, c_4, Bool.false_and]; rfl) (hck) (by simp only [nb_eq, c_4, Bool.false_and]; rfl) dX7_number_32
  · skip
    have c_4 := b2i_t c_4
    obtain rfl := hsl c_4
    skip
    refine lv_iload_n hx hb dX7_number_7 rfl (lv_at hl 2 rfl) ?_
    refine lv_iconst (v := 0) hx hb dX7_number_8 (by decide) ?_
    refine lv_sipush (v := 365) hx hb dX7_number_9 (by decide) ?_
    refine q_goI (q_rS hE lk_X7_96 (c_X7_isIn l D cI cJ cZ p1 0 365 H.size) hst [] rfl rfl rfl hl.1 ⟨(Nat.le_of_ble_eq_true rfl), (Nat.le_of_ble_eq_true rfl)⟩ (rest := []) rfl (Nat.le_of_ble_eq_true rfl) dX7_number_12 ⟨(Nat.le_of_ble_eq_true rfl), (Nat.le_of_ble_eq_true rfl)⟩) hE hst [] rfl (fun _ => rfl) (fun (_ : Unit) => [(x, .inr (7, [.ref xf, .ref xs, .ref xk, .ref xp, .ref xd, .ref xo, .ref xn, .ref xr, .ref xy, .ref xi, .int zl, .long zu, .long zv, .ref xt, .ref xq, .ref xb, .ref xw, .ref xl, .ref xm, .int zt, .int za, .int zm, .int zc, .int ze, .ref xe, .int zh, .int zi, .int zq])), (xs, .inl (cI, 2, .inl seF)), (xk, .inl (cI, 2, .inl (nR kF))), (xp, .inl (cI, 2, .inl (nR spF))), (xd, .inl (cI, 2, .inl (nR deF))), (xo, .inl (cI, 2, .inl (bR pF))), (xn, .inl (cI, 732, .inl nm)), (xr, .inl (cI, 366, .inl f)), (xi, .inl (cZ, 2, .inl dz)), (xf, .inl (cI, 7, .inl ru))]) (fun _ => rfl) (fun _ H locs hF hst => ?_)
    refine lv_if_eq (tgt := 27) hx hb dX7_number_15 (by decide) (fun c_15 => ?_) (fun c_15 => ?_)
    · skip
      have c_15 := b2i_f c_15
      refine lv_aload_n hx hb dX7_number_27 rfl (lv_at hl 0 rfl) ?_
      refine lv_iconst (v := (-1)) hx hb dX7_number_28 (by decide) ?_
      refine q_goI (q_rV hE lk_X7_81 (c_X7_no l D cI cJ cZ x xf xs xk xp xd xo xn xr xy xi xt xq xb xw xl xm xe zl zt za zm zc ze zh zi zq zu zv ru (-1) (by rw [vp_in_iff]; decide) H.size) hst [0, 9] rfl rfl rfl rfl rfl hl.1 ⟨(Nat.le_of_ble_eq_true rfl), (Nat.le_of_ble_eq_true rfl)⟩ (rest := []) rfl (Nat.le_of_ble_eq_true rfl) dX7_number_29 ⟨(Nat.le_of_ble_eq_true rfl), (Nat.le_of_ble_eq_true rfl)⟩) hE hst [0, 9] rfl (fun _ => rfl) (fun (_ : Unit) => [(x, .inr (7, [.ref xf, .ref xs, .ref xk, .ref xp, .ref xd, .ref xo, .ref xn, .ref xr, .ref xy, .ref xi, .int zl, .long zu, .long zv, .ref xt, .ref xq, .ref xb, .ref xw, .ref xl, .ref xm, .int zt, .int za, .int zm, .int zc, .int ze, .ref xe, .int zh, .int zi, .int zq])), (xs, .inl (cI, 2, .inl seF)), (xk, .inl (cI, 2, .inl (nR kF))), (xp, .inl (cI, 2, .inl (nR spF))), (xd, .inl (cI, 2, .inl (nR deF))), (xo, .inl (cI, 2, .inl (bR pF))), (xn, .inl (cI, 732, .inl nm)), (xr, .inl (cI, 366, .inl f)), (xi, .inl (cZ, 2, .inl dz)), (xf, .inl (cI, 7, .inl (bmp ru (-1))))]) (fun _ => rfl) (fun _ H locs hF hst => ?_)
      exact q_retI hQ hE hr hk hst (zl, nm, f, dz) (by rw [nb_eq, c_4, c_15]; rfl) (hck) (by simp only [nb_eq, c_4, c_15]; rfl) dX7_number_32
    · skip
      have c_15 := b2i_t c_15
      have hb1 := c_15
      obtain ⟨d0, hd0, rfl⟩ := in_of (b := 365) (by decide) c_15
      skip
      refine lv_aload_n hx hb dX7_number_18 rfl (lv_at hl 0 rfl) ?_
      refine lv_iload_n hx hb dX7_number_19 rfl (lv_at hl 1 rfl) ?_
      refine lv_iload_n hx hb dX7_number_20 rfl (lv_at hl 2 rfl) ?_
      refine q_goI (q_rV hE lk_X7_100 (c_X7_numberOf l D cI cJ cZ x xf xs xk xp xd xo xn xr xy xi xt xq xb xw xl xm xe zl zt za zm zc ze zh zi zq zu zv seF kF spF deF pF nm f dz j0 d0 (by first | assumption | decide | omega) (by first | assumption | decide | omega) (by first | assumption | decide | omega) (by first | assumption | decide | omega) H.size) hst [0, 1, 2, 3, 4, 5, 6, 7, 8] rfl rfl rfl rfl rfl hl.1 ⟨(Nat.le_of_ble_eq_true rfl), (Nat.le_of_ble_eq_true rfl)⟩ (rest := []) rfl (Nat.le_of_ble_eq_true rfl) dX7_number_21 ⟨(Nat.le_of_ble_eq_true rfl), (Nat.le_of_ble_eq_true rfl)⟩) hE hst [0, 1, 2, 3, 4, 5, 6, 7, 8] rfl (fun _ => rfl) (fun (u : Int32 × (Nat → Int32) × (Nat → Int32) × (Nat → Int32)) => [(x, .inr (7, [.ref xf, .ref xs, .ref xk, .ref xp, .ref xd, .ref xo, .ref xn, .ref xr, .ref xy, .ref xi, .int u.1, .long zu, .long zv, .ref xt, .ref xq, .ref xb, .ref xw, .ref xl, .ref xm, .int zt, .int za, .int zm, .int zc, .int ze, .ref xe, .int zh, .int zi, .int zq])), (xs, .inl (cI, 2, .inl seF)), (xk, .inl (cI, 2, .inl (nR kF))), (xp, .inl (cI, 2, .inl (nR spF))), (xd, .inl (cI, 2, .inl (nR deF))), (xo, .inl (cI, 2, .inl (bR pF))), (xn, .inl (cI, 732, .inl u.2.1)), (xr, .inl (cI, 366, .inl u.2.2.1)), (xi, .inl (cZ, 2, .inl u.2.2.2)), (xf, .inl (cI, 7, .inl ru))]) (fun _ => rfl) (fun u H locs hF hst => ?_)
      obtain ⟨zl1_1, nm1_2, f1_3, dz1_4⟩ := u
      have hst : SS D A s [(x, .inr (7, [.ref xf, .ref xs, .ref xk, .ref xp, .ref xd, .ref xo, .ref xn, .ref xr, .ref xy, .ref xi, .int zl1_1, .long zu, .long zv, .ref xt, .ref xq, .ref xb, .ref xw, .ref xl, .ref xm, .int zt, .int za, .int zm, .int zc, .int ze, .ref xe, .int zh, .int zi, .int zq])), (xs, .inl (cI, 2, .inl seF)), (xk, .inl (cI, 2, .inl (nR kF))), (xp, .inl (cI, 2, .inl (nR spF))), (xd, .inl (cI, 2, .inl (nR deF))), (xo, .inl (cI, 2, .inl (bR pF))), (xn, .inl (cI, 732, .inl nm1_2)), (xr, .inl (cI, 366, .inl f1_3)), (xi, .inl (cZ, 2, .inl dz1_4)), (xf, .inl (cI, 7, .inl ru))] H locs := hst
      have hF : (ckM seF kF spF deF pF nm1_2 dz1_4) := hF
      have hF0_21 := hF
      refine W.eq (g2 := F0 m 24 ls [.int (ndM seF kF spF deF pF j0 d0)]) rfl ?_
      refine lv_goto (tgt := 32) hx hb dX7_number_24 (by decide) ?_
      exact q_retI hQ hE hr hk hst (zl1_1, nm1_2, f1_3, dz1_4) (by rw [nb_eq, c_4, hb1]; exact (atI_n (f := ndM seF kF spF deF pF j0) (by omega) (by decide)).symm) (hF0_21) (by simp only [nb_eq, c_4, hb1]; rfl) dX7_number_32
set_option maxHeartbeats 4000000 in
set_option maxRecDepth 100000 in
theorem c_X7_dayOf (l : Launch) (D : va_G) (cI cJ cZ : ClassId) (x : Nat) (xf : Nat) (xs : Nat) (xk : Nat) (xp : Nat) (xd : Nat) (xo : Nat) (xn : Nat) (xr : Nat) (xy : Nat) (xi : Nat) (xt : Nat) (xq : Nat) (xb : Nat) (xw : Nat) (xl : Nat) (xm : Nat) (xe : Nat) (zl : Int32) (zt : Int32) (za : Int32) (zm : Int32) (zc : Int32) (ze : Int32) (zh : Int32) (zi : Int32) (zq : Int32) (zu : Int64) (zv : Int64) (ru : Nat → Int32) (seF : Nat → Int32) (kF : Nat → Nat) (spF : Nat → Nat) (deF : Nat → Nat) (pF : Nat → Bool) (nm : Nat → Int32) (f : Nat → Int32) (dz : Nat → Int32) (j0 : Nat) (p0 : Int32) (p1 : Int32) (hj : j0 < 2) (hsl : isJarB p0 = true → p0 = nI j0) (hjo : joM kF spF deF) (hck : ckM seF kF spF deF pF nm dz) : CtI l D cI cJ cZ yX7_dayOf cX7_dayOf 6 (some .int) 3 [.ref x, .int p0, .int p1] [(x, .inr (7, [.ref xf, .ref xs, .ref xk, .ref xp, .ref xd, .ref xo, .ref xn, .ref xr, .ref xy, .ref xi, .int zl, .long zu, .long zv, .ref xt, .ref xq, .ref xb, .ref xw, .ref xl, .ref xm, .int zt, .int za, .int zm, .int zc, .int ze, .ref xe, .int zh, .int zi, .int zq])), (xs, .inl (cI, 2, .inl seF)), (xk, .inl (cI, 2, .inl (nR kF))), (xp, .inl (cI, 2, .inl (nR spF))), (xd, .inl (cI, 2, .inl (nR deF))), (xo, .inl (cI, 2, .inl (bR pF))), (xn, .inl (cI, 732, .inl nm)), (xr, .inl (cI, 366, .inl f)), (xi, .inl (cZ, 2, .inl dz)), (xf, .inl (cI, 7, .inl ru))] (fun (u : Int32 × (Nat → Int32) × (Nat → Int32) × (Nat → Int32)) => if ftf (!isJarB p0) false (!decide (1 ≤ p1)) (!decide (p1 ≤ 366)) = 0 then atI 367 (dyM seF kF spF deF pF j0) p1 else ftf (!isJarB p0) false (!decide (1 ≤ p1)) (!decide (p1 ≤ 366))) (fun (u : Int32 × (Nat → Int32) × (Nat → Int32) × (Nat → Int32)) => ckM seF kF spF deF pF u.2.1 u.2.2.2) (fun (u : Int32 × (Nat → Int32) × (Nat → Int32) × (Nat → Int32)) => [(x, .inr (7, [.ref xf, .ref xs, .ref xk, .ref xp, .ref xd, .ref xo, .ref xn, .ref xr, .ref xy, .ref xi, .int u.1, .long zu, .long zv, .ref xt, .ref xq, .ref xb, .ref xw, .ref xl, .ref xm, .int zt, .int za, .int zm, .int zc, .int ze, .ref xe, .int zh, .int zi, .int zq])), (xs, .inl (cI, 2, .inl seF)), (xk, .inl (cI, 2, .inl (nR kF))), (xp, .inl (cI, 2, .inl (nR spF))), (xd, .inl (cI, 2, .inl (nR deF))), (xo, .inl (cI, 2, .inl (bR pF))), (xn, .inl (cI, 732, .inl u.2.1)), (xr, .inl (cI, 366, .inl u.2.2.1)), (xi, .inl (cZ, 2, .inl u.2.2.2)), (xf, .inl (cI, 7, .inl (if ftf (!isJarB p0) false (!decide (1 ≤ p1)) (!decide (p1 ≤ 366)) = 0 then ru else bmp ru (ftf (!isJarB p0) false (!decide (1 ≤ p1)) (!decide (p1 ≤ 366))))))]) := by
  refine q_entI (own := RX7) rfl rfl (Nat.le_of_ble_eq_true rfl) ?_
  intro p e s m args below meth c A ls QQ hQ hE hx hb hr hk hin hA hl hst
  have hl : lv_has ls 6 [(0, .ref x), (1, .int p0), (2, .int p1)] := hl
  obtain ⟨hj1, hj2, hj3, hj4⟩ := hjo j0 hj
  have loop_39 : ∀ (fu : Nat) (zl2 : Int32) (nm2 : Nat → Int32) (f2 : Nat → Int32) (dz2 : Nat → Int32) (kq : Nat) (jd : Nat), (ckM seF kF spF deF pF nm2 dz2) → (ftf (!isJarB p0) false (!decide (1 ≤ p1)) (!decide (p1 ≤ 366)) = 0) → (jd < 366) → (ndM seF kF spF deF pF j0 jd = p1) → (atI 367 (dyM seF kF spF deF pF j0) p1 = nI jd) → (kq ≤ 366) → (366 - kq) < fu → ∀ (H : Heap) (locs : List Loc) (ls : Array Slot), SS D A s [(x, .inr (7, [.ref xf, .ref xs, .ref xk, .ref xp, .ref xd, .ref xo, .ref xn, .ref xr, .ref xy, .ref xi, .int zl2, .long zu, .long zv, .ref xt, .ref xq, .ref xb, .ref xw, .ref xl, .ref xm, .int zt, .int za, .int zm, .int zc, .int ze, .ref xe, .int zh, .int zi, .int zq])), (xs, .inl (cI, 2, .inl seF)), (xk, .inl (cI, 2, .inl (nR kF))), (xp, .inl (cI, 2, .inl (nR spF))), (xd, .inl (cI, 2, .inl (nR deF))), (xo, .inl (cI, 2, .inl (bR pF))), (xn, .inl (cI, 732, .inl nm2)), (xr, .inl (cI, 366, .inl f2)), (xi, .inl (cZ, 2, .inl dz2)), (xf, .inl (cI, 7, .inl ru))] H locs → lv_has ls 6 [(5, .int (nI kq)), (4, .int (if jd < kq then nI jd else -9)), (0, .ref x), (1, .int (nI j0)), (2, .int p1)] → W p l e (rmN 3 0 0) s m args below meth c H locs 0 0 QQ (F0 m 39 ls []) := by
    intro fu
    induction fu with
    | zero =>
      intro zl2 nm2 f2 dz2 kq jd hck2 hR g1 g2 g3 h1 hn
      exact absurd hn (Nat.not_lt_zero _)
    | succ fu ih =>
      intro zl2 nm2 f2 dz2 kq jd hck2 hR g1 g2 g3 h1 hn H locs ls hst hl
      refine lv_iload hx hb dX7_dayOf_39 (lv_at hl 0 rfl) ?_
      refine lv_sipush (v := 366) hx hb dX7_dayOf_41 (by decide) ?_
      refine lv_icmp_ge (tgt := 73) hx hb dX7_dayOf_44 (by decide) (fun c_44 => ?_) (fun c_44 => ?_)
      · skip
        have hk1 : kq = 366 := Nat.le_antisymm h1 (Nat.le_of_not_lt (fun z => nI_ge z (by decide) c_44))
        subst hk1
        skip
        refine lv_iload hx hb dX7_dayOf_73 (lv_at hl 1 rfl) ?_
        exact q_retI hQ hE hr hk hst (zl2, nm2, f2, dz2) (by rw [if_pos hR, g3, if_pos g1]) (hck2) (by simp only [if_pos hR]) dX7_dayOf_75
      · skip
        have hk1 : kq < 366 := Nat.lt_of_not_le (fun z => c_44 (nI_le z (by omega)))
        refine lv_aload_n hx hb dX7_dayOf_47 rfl (lv_at hl 2 rfl) ?_
        refine lv_iload_n hx hb dX7_dayOf_48 rfl (lv_at hl 3 rfl) ?_
        refine lv_iload hx hb dX7_dayOf_49 (lv_at hl 0 rfl) ?_
        refine q_goI (q_rV hE lk_X7_100 (c_X7_numberOf l D cI cJ cZ x xf xs xk xp xd xo xn xr xy xi xt xq xb xw xl xm xe zl2 zt za zm zc ze zh zi zq zu zv seF kF spF deF pF nm2 f2 dz2 j0 kq (by first | assumption | decide | omega) (by first | assumption | decide | omega) (by first | assumption | decide | omega) (by first | assumption | decide | omega) H.size) hst [0, 1, 2, 3, 4, 5, 6, 7, 8] rfl rfl rfl rfl rfl hl.1 ⟨(Nat.le_of_ble_eq_true rfl), (Nat.le_of_ble_eq_true rfl)⟩ (rest := []) rfl (Nat.le_of_ble_eq_true rfl) dX7_dayOf_51 ⟨(Nat.le_of_ble_eq_true rfl), (Nat.le_of_ble_eq_true rfl)⟩) hE hst [0, 1, 2, 3, 4, 5, 6, 7, 8] rfl (fun _ => rfl) (fun (u : Int32 × (Nat → Int32) × (Nat → Int32) × (Nat → Int32)) => [(x, .inr (7, [.ref xf, .ref xs, .ref xk, .ref xp, .ref xd, .ref xo, .ref xn, .ref xr, .ref xy, .ref xi, .int u.1, .long zu, .long zv, .ref xt, .ref xq, .ref xb, .ref xw, .ref xl, .ref xm, .int zt, .int za, .int zm, .int zc, .int ze, .ref xe, .int zh, .int zi, .int zq])), (xs, .inl (cI, 2, .inl seF)), (xk, .inl (cI, 2, .inl (nR kF))), (xp, .inl (cI, 2, .inl (nR spF))), (xd, .inl (cI, 2, .inl (nR deF))), (xo, .inl (cI, 2, .inl (bR pF))), (xn, .inl (cI, 732, .inl u.2.1)), (xr, .inl (cI, 366, .inl u.2.2.1)), (xi, .inl (cZ, 2, .inl u.2.2.2)), (xf, .inl (cI, 7, .inl ru))]) (fun _ => rfl) (fun u H locs hF hst => ?_)
        obtain ⟨zl1_1, nm1_2, f1_3, dz1_4⟩ := u
        have hst : SS D A s [(x, .inr (7, [.ref xf, .ref xs, .ref xk, .ref xp, .ref xd, .ref xo, .ref xn, .ref xr, .ref xy, .ref xi, .int zl1_1, .long zu, .long zv, .ref xt, .ref xq, .ref xb, .ref xw, .ref xl, .ref xm, .int zt, .int za, .int zm, .int zc, .int ze, .ref xe, .int zh, .int zi, .int zq])), (xs, .inl (cI, 2, .inl seF)), (xk, .inl (cI, 2, .inl (nR kF))), (xp, .inl (cI, 2, .inl (nR spF))), (xd, .inl (cI, 2, .inl (nR deF))), (xo, .inl (cI, 2, .inl (bR pF))), (xn, .inl (cI, 732, .inl nm1_2)), (xr, .inl (cI, 366, .inl f1_3)), (xi, .inl (cZ, 2, .inl dz1_4)), (xf, .inl (cI, 7, .inl ru))] H locs := hst
        have hF : (ckM seF kF spF deF pF nm1_2 dz1_4) := hF
        have hF0_51 := hF
        refine W.eq (g2 := F0 m 54 ls [.int (ndM seF kF spF deF pF j0 kq)]) rfl ?_
        refine lv_iload_n hx hb dX7_dayOf_54 rfl (lv_at hl 4 rfl) ?_
        refine lv_icmp_ne (tgt := 63) hx hb dX7_dayOf_55 (by decide) (fun c_55 => ?_) (fun c_55 => ?_)
        · skip
          refine lv_iload hx hb dX7_dayOf_63 (lv_at hl 1 rfl) ?_
          refine lv_istore (lv' := [(4, .int (if jd < kq then nI jd else -9)), (5, .int (nI kq)), (0, .ref x), (1, .int (nI j0)), (2, .int p1)]) hx hb dX7_dayOf_65 hl (by decide) rfl (fun ls hl => ?_)
          have hl : lv_has ls 6 [(4, .int (if jd < kq + 1 then nI jd else -9)), (5, .int (nI kq)), (0, .ref x), (1, .int (nI j0)), (2, .int p1)] := by rw [dfo_f (fun z => c_55 (by rw [z]; exact g2))]; exact hl
          refine lv_iinc (v := nI (kq + 1)) (lv' := [(5, .int (nI (kq + 1))), (4, .int (if jd < kq + 1 then nI jd else -9)), (0, .ref x), (1, .int (nI j0)), (2, .int p1)]) hx hb dX7_dayOf_67 hl (k := 1) rfl (nI_next _) (by decide) rfl (fun ls hl => ?_)
          refine lv_goto (tgt := 39) hx hb dX7_dayOf_70 (by decide) ?_
          exact ih zl1_1 nm1_2 f1_3 dz1_4 (kq + 1) jd (hF0_51) (hR) (g1) (g2) (g3) (by omega) (by omega) _ _ _ (hst) (lv_sub hl [0, 1, 2, 3, 4] rfl)
        · skip
          refine lv_iload hx hb dX7_dayOf_58 (lv_at hl 0 rfl) ?_
          refine lv_goto (tgt := 65) hx hb dX7_dayOf_60 (by decide) ?_
          refine lv_istore (lv' := [(4, .int (nI kq)), (5, .int (nI kq)), (0, .ref x), (1, .int (nI j0)), (2, .int p1)]) hx hb dX7_dayOf_65 hl (by decide) rfl (fun ls hl => ?_)
          have hl : lv_has ls 6 [(4, .int (if jd < kq + 1 then nI jd else -9)), (5, .int (nI kq)), (0, .ref x), (1, .int (nI j0)), (2, .int p1)] := by rw [dfo_t (nd_at_ne hj3 hk1 g1 (c_55.trans g2.symm))]; exact hl
          refine lv_iinc (v := nI (kq + 1)) (lv' := [(5, .int (nI (kq + 1))), (4, .int (if jd < kq + 1 then nI jd else -9)), (0, .ref x), (1, .int (nI j0)), (2, .int p1)]) hx hb dX7_dayOf_67 hl (k := 1) rfl (nI_next _) (by decide) rfl (fun ls hl => ?_)
          refine lv_goto (tgt := 39) hx hb dX7_dayOf_70 (by decide) ?_
          exact ih zl1_1 nm1_2 f1_3 dz1_4 (kq + 1) jd (hF0_51) (hR) (g1) (g2) (g3) (by omega) (by omega) _ _ _ (hst) (lv_sub hl [0, 1, 2, 3, 4] rfl)
  refine lv_iload_n hx hb dX7_dayOf_0 rfl (lv_at hl 1 rfl) ?_
  refine q_goI (q_rS hE lk_X7_77 (c_X7_isJar l D cI cJ cZ p0 s.heap.size) hst [] rfl rfl rfl hl.1 ⟨(Nat.le_of_ble_eq_true rfl), (Nat.le_of_ble_eq_true rfl)⟩ (rest := []) rfl (Nat.le_of_ble_eq_true rfl) dX7_dayOf_1 ⟨(Nat.le_of_ble_eq_true rfl), (Nat.le_of_ble_eq_true rfl)⟩) hE hst [] rfl (fun _ => rfl) (fun (_ : Unit) => [(x, .inr (7, [.ref xf, .ref xs, .ref xk, .ref xp, .ref xd, .ref xo, .ref xn, .ref xr, .ref xy, .ref xi, .int zl, .long zu, .long zv, .ref xt, .ref xq, .ref xb, .ref xw, .ref xl, .ref xm, .int zt, .int za, .int zm, .int zc, .int ze, .ref xe, .int zh, .int zi, .int zq])), (xs, .inl (cI, 2, .inl seF)), (xk, .inl (cI, 2, .inl (nR kF))), (xp, .inl (cI, 2, .inl (nR spF))), (xd, .inl (cI, 2, .inl (nR deF))), (xo, .inl (cI, 2, .inl (bR pF))), (xn, .inl (cI, 732, .inl nm)), (xr, .inl (cI, 366, .inl f)), (xi, .inl (cZ, 2, .inl dz)), (xf, .inl (cI, 7, .inl ru))]) (fun _ => rfl) (fun _ H locs hF hst => ?_)
  refine lv_if_ne (tgt := 13) hx hb dX7_dayOf_4 (by decide) (fun c_4 => ?_) (fun c_4 => ?_)
  · skip
    have c_4 := b2i_t c_4
    skip
    have hR : ftf (!isJarB p0) false (!decide (1 ≤ p1)) (!decide (p1 ≤ 366)) = outI p1 1 366 := (ftf_j c_4 _ _ _).trans (ftf_out _ _ _)
    obtain rfl := hsl c_4
    skip
    refine lv_iload_n hx hb dX7_dayOf_13 rfl (lv_at hl 2 rfl) ?_
    refine lv_iconst (v := 1) hx hb dX7_dayOf_14 (by decide) ?_
    refine lv_sipush (v := 366) hx hb dX7_dayOf_15 (by decide) ?_
    refine q_goI (q_rS hE lk_X7_104 (c_X7_out l D cI cJ cZ p1 1 366 H.size) hst [] rfl rfl rfl hl.1 ⟨(Nat.le_of_ble_eq_true rfl), (Nat.le_of_ble_eq_true rfl)⟩ (rest := []) rfl (Nat.le_of_ble_eq_true rfl) dX7_dayOf_18 ⟨(Nat.le_of_ble_eq_true rfl), (Nat.le_of_ble_eq_true rfl)⟩) hE hst [] rfl (fun _ => rfl) (fun (_ : Unit) => [(x, .inr (7, [.ref xf, .ref xs, .ref xk, .ref xp, .ref xd, .ref xo, .ref xn, .ref xr, .ref xy, .ref xi, .int zl, .long zu, .long zv, .ref xt, .ref xq, .ref xb, .ref xw, .ref xl, .ref xm, .int zt, .int za, .int zm, .int zc, .int ze, .ref xe, .int zh, .int zi, .int zq])), (xs, .inl (cI, 2, .inl seF)), (xk, .inl (cI, 2, .inl (nR kF))), (xp, .inl (cI, 2, .inl (nR spF))), (xd, .inl (cI, 2, .inl (nR deF))), (xo, .inl (cI, 2, .inl (bR pF))), (xn, .inl (cI, 732, .inl nm)), (xr, .inl (cI, 366, .inl f)), (xi, .inl (cZ, 2, .inl dz)), (xf, .inl (cI, 7, .inl ru))]) (fun _ => rfl) (fun _ H locs hF hst => ?_)
    refine lv_istore_n (lv' := [(3, .int (outI p1 1 366)), (0, .ref x), (1, .int (nI j0)), (2, .int p1)]) hx hb dX7_dayOf_21 rfl hl (by decide) rfl (fun ls hl => ?_)
    refine lv_iload_n hx hb dX7_dayOf_22 rfl (lv_at hl 0 rfl) ?_
    refine lv_if_eq (tgt := 32) hx hb dX7_dayOf_23 (by decide) (fun c_23 => ?_) (fun c_23 => ?_)
    · skip
      rw [c_23] at hR
      obtain ⟨g1a, g1b⟩ := out_0 c_23
      obtain ⟨jd, g1, g2, g3⟩ := dyo (seF := seF) (kF := kF) (spF := spF) (deF := deF) (pF := pF) (j := j0) hj3 g1a g1b
      refine lv_bipush (v := (-9)) hx hb dX7_dayOf_32 (by decide) ?_
      refine lv_istore (lv' := [(4, .int (-9)), (3, .int (outI p1 1 366)), (0, .ref x), (1, .int (nI j0)), (2, .int p1)]) hx hb dX7_dayOf_34 hl (by decide) rfl (fun ls hl => ?_)
      refine lv_iconst (v := 0) hx hb dX7_dayOf_36 (by decide) ?_
      refine lv_istore (lv' := [(5, .int 0), (4, .int (-9)), (3, .int (outI p1 1 366)), (0, .ref x), (1, .int (nI j0)), (2, .int p1)]) hx hb dX7_dayOf_37 hl (by decide) rfl (fun ls hl => ?_)
      exact loop_39 (367) zl nm f dz 0 jd (hck) (hR) (g1) (g2) (g3) (by decide) (by decide) _ _ _ (hst) (by rw [show (-9 : Int32) = (if jd < 0 then nI jd else -9) from (if_neg (Nat.not_lt_zero _)).symm] at hl; exact lv_sub hl [0, 1, 3, 4, 5] rfl)
    · skip
      have hN := c_23
      rw [← hR] at hN
      refine lv_aload_n hx hb dX7_dayOf_26 rfl (lv_at hl 1 rfl) ?_
      refine lv_iload_n hx hb dX7_dayOf_27 rfl (lv_at hl 0 rfl) ?_
      refine q_goI (q_rV hE lk_X7_81 (c_X7_no l D cI cJ cZ x xf xs xk xp xd xo xn xr xy xi xt xq xb xw xl xm xe zl zt za zm zc ze zh zi zq zu zv ru (outI p1 1 366) (out_in _ _ _) H.size) hst [0, 9] rfl rfl rfl rfl rfl hl.1 ⟨(Nat.le_of_ble_eq_true rfl), (Nat.le_of_ble_eq_true rfl)⟩ (rest := []) rfl (Nat.le_of_ble_eq_true rfl) dX7_dayOf_28 ⟨(Nat.le_of_ble_eq_true rfl), (Nat.le_of_ble_eq_true rfl)⟩) hE hst [0, 9] rfl (fun _ => rfl) (fun (_ : Unit) => [(x, .inr (7, [.ref xf, .ref xs, .ref xk, .ref xp, .ref xd, .ref xo, .ref xn, .ref xr, .ref xy, .ref xi, .int zl, .long zu, .long zv, .ref xt, .ref xq, .ref xb, .ref xw, .ref xl, .ref xm, .int zt, .int za, .int zm, .int zc, .int ze, .ref xe, .int zh, .int zi, .int zq])), (xs, .inl (cI, 2, .inl seF)), (xk, .inl (cI, 2, .inl (nR kF))), (xp, .inl (cI, 2, .inl (nR spF))), (xd, .inl (cI, 2, .inl (nR deF))), (xo, .inl (cI, 2, .inl (bR pF))), (xn, .inl (cI, 732, .inl nm)), (xr, .inl (cI, 366, .inl f)), (xi, .inl (cZ, 2, .inl dz)), (xf, .inl (cI, 7, .inl (bmp ru (outI p1 1 366))))]) (fun _ => rfl) (fun _ H locs hF hst => ?_)
      exact q_retI hQ hE hr hk hst (zl, nm, f, dz) (by rw [if_neg hN]; exact hR.symm) (hck) (by simp only [hR, if_neg c_23]) dX7_dayOf_31
  · skip
    have c_4 := b2i_f c_4
    have hR : ftf (!isJarB p0) false (!decide (1 ≤ p1)) (!decide (p1 ≤ 366)) = -1 := ftf_nj c_4 _ _ _
    refine lv_aload_n hx hb dX7_dayOf_7 rfl (lv_at hl 0 rfl) ?_
    refine lv_iconst (v := (-1)) hx hb dX7_dayOf_8 (by decide) ?_
    refine q_goI (q_rV hE lk_X7_81 (c_X7_no l D cI cJ cZ x xf xs xk xp xd xo xn xr xy xi xt xq xb xw xl xm xe zl zt za zm zc ze zh zi zq zu zv ru (-1) (by rw [vp_in_iff]; decide) H.size) hst [0, 9] rfl rfl rfl rfl rfl hl.1 ⟨(Nat.le_of_ble_eq_true rfl), (Nat.le_of_ble_eq_true rfl)⟩ (rest := []) rfl (Nat.le_of_ble_eq_true rfl) dX7_dayOf_9 ⟨(Nat.le_of_ble_eq_true rfl), (Nat.le_of_ble_eq_true rfl)⟩) hE hst [0, 9] rfl (fun _ => rfl) (fun (_ : Unit) => [(x, .inr (7, [.ref xf, .ref xs, .ref xk, .ref xp, .ref xd, .ref xo, .ref xn, .ref xr, .ref xy, .ref xi, .int zl, .long zu, .long zv, .ref xt, .ref xq, .ref xb, .ref xw, .ref xl, .ref xm, .int zt, .int za, .int zm, .int zc, .int ze, .ref xe, .int zh, .int zi, .int zq])), (xs, .inl (cI, 2, .inl seF)), (xk, .inl (cI, 2, .inl (nR kF))), (xp, .inl (cI, 2, .inl (nR spF))), (xd, .inl (cI, 2, .inl (nR deF))), (xo, .inl (cI, 2, .inl (bR pF))), (xn, .inl (cI, 732, .inl nm)), (xr, .inl (cI, 366, .inl f)), (xi, .inl (cZ, 2, .inl dz)), (xf, .inl (cI, 7, .inl (bmp ru (-1))))]) (fun _ => rfl) (fun _ H locs hF hst => ?_)
    exact q_retI hQ hE hr hk hst (zl, nm, f, dz) (by rw [hR]; rfl) (hck) (by simp only [hR]; rfl) dX7_dayOf_12
set_option maxHeartbeats 4000000 in
set_option maxRecDepth 100000 in
theorem c_X7_lean (l : Launch) (D : va_G) (cI cJ cZ : ClassId) (x : Nat) (xf : Nat) (xs : Nat) (xk : Nat) (xp : Nat) (xd : Nat) (xo : Nat) (xn : Nat) (xr : Nat) (xy : Nat) (xi : Nat) (xt : Nat) (xq : Nat) (xb : Nat) (xw : Nat) (xl : Nat) (xm : Nat) (xe : Nat) (zl : Int32) (zt : Int32) (za : Int32) (zm : Int32) (zc : Int32) (ze : Int32) (zh : Int32) (zi : Int32) (zq : Int32) (zu : Int64) (zv : Int64) (ru : Nat → Int32) (seF : Nat → Int32) (kF : Nat → Nat) (spF : Nat → Nat) (deF : Nat → Nat) (pF : Nat → Bool) (nm : Nat → Int32) (f : Nat → Int32) (dz : Nat → Int32) (j0 : Nat) (p0 : Int32) (hj : j0 < 2) (hsl : isJarB p0 = true → p0 = nI j0) (hjo : joM kF spF deF) (hck : ckM seF kF spF deF pF nm dz) : CtL l D cI cJ cZ yX7_lean cX7_lean 5 (some .long) 3 [.ref x, .int p0] [(x, .inr (7, [.ref xf, .ref xs, .ref xk, .ref xp, .ref xd, .ref xo, .ref xn, .ref xr, .ref xy, .ref xi, .int zl, .long zu, .long zv, .ref xt, .ref xq, .ref xb, .ref xw, .ref xl, .ref xm, .int zt, .int za, .int zm, .int zc, .int ze, .ref xe, .int zh, .int zi, .int zq])), (xs, .inl (cI, 2, .inl seF)), (xk, .inl (cI, 2, .inl (nR kF))), (xp, .inl (cI, 2, .inl (nR spF))), (xd, .inl (cI, 2, .inl (nR deF))), (xo, .inl (cI, 2, .inl (bR pF))), (xn, .inl (cI, 732, .inl nm)), (xr, .inl (cI, 366, .inl f)), (xi, .inl (cZ, 2, .inl dz)), (xf, .inl (cI, 7, .inl ru))] (fun (u : Int32 × (Nat → Int32) × (Nat → Int32) × (Nat → Int32)) => if isJarB p0 = true then leaL (ndM seF kF spF deF pF j0) 366 else lgR (-1)) (fun (u : Int32 × (Nat → Int32) × (Nat → Int32) × (Nat → Int32)) => ckM seF kF spF deF pF u.2.1 u.2.2.2) (fun (u : Int32 × (Nat → Int32) × (Nat → Int32) × (Nat → Int32)) => [(x, .inr (7, [.ref xf, .ref xs, .ref xk, .ref xp, .ref xd, .ref xo, .ref xn, .ref xr, .ref xy, .ref xi, .int u.1, .long zu, .long zv, .ref xt, .ref xq, .ref xb, .ref xw, .ref xl, .ref xm, .int zt, .int za, .int zm, .int zc, .int ze, .ref xe, .int zh, .int zi, .int zq])), (xs, .inl (cI, 2, .inl seF)), (xk, .inl (cI, 2, .inl (nR kF))), (xp, .inl (cI, 2, .inl (nR spF))), (xd, .inl (cI, 2, .inl (nR deF))), (xo, .inl (cI, 2, .inl (bR pF))), (xn, .inl (cI, 732, .inl u.2.1)), (xr, .inl (cI, 366, .inl u.2.2.1)), (xi, .inl (cZ, 2, .inl u.2.2.2)), (xf, .inl (cI, 7, .inl (if isJarB p0 = true then ru else bmp ru (-1))))]) := by
  refine q_entL (own := RX7) rfl rfl (Nat.le_of_ble_eq_true rfl) ?_
  intro p e s m args below meth c A ls QQ hQ hE hx hb hr hk hin hA hl hst
  have hl : lv_has ls 5 [(0, .ref x), (1, .int p0)] := hl
  have loop_18 : ∀ (fu : Nat) (zl2 : Int32) (nm2 : Nat → Int32) (f2 : Nat → Int32) (dz2 : Nat → Int32) (kq : Nat), (ckM seF kF spF deF pF nm2 dz2) → (isJarB p0 = true) → (kq ≤ 366) → (366 - kq) < fu → ∀ (H : Heap) (locs : List Loc) (ls : Array Slot), SS D A s [(x, .inr (7, [.ref xf, .ref xs, .ref xk, .ref xp, .ref xd, .ref xo, .ref xn, .ref xr, .ref xy, .ref xi, .int zl2, .long zu, .long zv, .ref xt, .ref xq, .ref xb, .ref xw, .ref xl, .ref xm, .int zt, .int za, .int zm, .int zc, .int ze, .ref xe, .int zh, .int zi, .int zq])), (xs, .inl (cI, 2, .inl seF)), (xk, .inl (cI, 2, .inl (nR kF))), (xp, .inl (cI, 2, .inl (nR spF))), (xd, .inl (cI, 2, .inl (nR deF))), (xo, .inl (cI, 2, .inl (bR pF))), (xn, .inl (cI, 732, .inl nm2)), (xr, .inl (cI, 366, .inl f2)), (xi, .inl (cZ, 2, .inl dz2)), (xf, .inl (cI, 7, .inl ru))] H locs → lv_has ls 5 [(4, .int (nI kq)), (2, .long (leaL (ndM seF kF spF deF pF j0) kq)), (0, .ref x), (1, .int (nI j0))] → W p l e (rmN 3 0 0) s m args below meth c H locs 0 0 QQ (F0 m 18 ls []) := by
    intro fu
    induction fu with
    | zero =>
      intro zl2 nm2 f2 dz2 kq hck2 hR h1 hn
      exact absurd hn (Nat.not_lt_zero _)
    | succ fu ih =>
      intro zl2 nm2 f2 dz2 kq hck2 hR h1 hn H locs ls hst hl
      refine lv_iload hx hb dX7_lean_18 (lv_at hl 0 rfl) ?_
      refine lv_sipush (v := 366) hx hb dX7_lean_20 (by decide) ?_
      refine lv_icmp_ge (tgt := 63) hx hb dX7_lean_23 (by decide) (fun c_23 => ?_) (fun c_23 => ?_)
      · skip
        have hk1 : kq = 366 := Nat.le_antisymm h1 (Nat.le_of_not_lt (fun z => nI_ge z (by decide) c_23))
        subst hk1
        skip
        refine lv_lload_n hx hb dX7_lean_63 rfl (lv_at hl 1 rfl) ?_
        exact q_retL hQ hE hr hk hst (zl2, nm2, f2, dz2) (by rw [if_pos hR]) (hck2) (by simp only [if_pos hR]) dX7_lean_64
      · skip
        have hk1 : kq < 366 := Nat.lt_of_not_le (fun z => c_23 (nI_le z (by omega)))
        refine lv_lload_n hx hb dX7_lean_26 rfl (lv_at hl 1 rfl) ?_
        refine q_ldc2 hE wk_4_134 dX7_lean_27 ?_
        refine lv_iload hx hb dX7_lean_30 (lv_at hl 0 rfl) ?_
        refine lv_i2l (v := (nI kq).toInt64) hx hb dX7_lean_32 rfl ?_
        refine lv_lmul hx hb dX7_lean_33 ?_
        refine q_ldc2 hE wk_4_135 dX7_lean_34 ?_
        refine lv_lsub hx hb dX7_lean_37 ?_
        refine q_ldc2 hE wk_4_134 dX7_lean_38 ?_
        refine lv_aload_n hx hb dX7_lean_41 rfl (lv_at hl 2 rfl) ?_
        refine lv_iload_n hx hb dX7_lean_42 rfl (lv_at hl 3 rfl) ?_
        refine lv_iload hx hb dX7_lean_43 (lv_at hl 0 rfl) ?_
        refine q_goI (q_rV hE lk_X7_100 (c_X7_numberOf l D cI cJ cZ x xf xs xk xp xd xo xn xr xy xi xt xq xb xw xl xm xe zl2 zt za zm zc ze zh zi zq zu zv seF kF spF deF pF nm2 f2 dz2 j0 kq (by first | assumption | decide | omega) (by first | assumption | decide | omega) (by first | assumption | decide | omega) (by first | assumption | decide | omega) H.size) hst [0, 1, 2, 3, 4, 5, 6, 7, 8] rfl rfl rfl rfl rfl hl.1 ⟨(Nat.le_of_ble_eq_true rfl), (Nat.le_of_ble_eq_true rfl)⟩ (rest := [.long 2, .long ((2 * ((nI kq).toInt64)) - 365), .long (leaL (ndM seF kF spF deF pF j0) kq)]) rfl (Nat.le_of_ble_eq_true rfl) dX7_lean_45 ⟨(Nat.le_of_ble_eq_true rfl), (Nat.le_of_ble_eq_true rfl)⟩) hE hst [0, 1, 2, 3, 4, 5, 6, 7, 8] rfl (fun _ => rfl) (fun (u : Int32 × (Nat → Int32) × (Nat → Int32) × (Nat → Int32)) => [(x, .inr (7, [.ref xf, .ref xs, .ref xk, .ref xp, .ref xd, .ref xo, .ref xn, .ref xr, .ref xy, .ref xi, .int u.1, .long zu, .long zv, .ref xt, .ref xq, .ref xb, .ref xw, .ref xl, .ref xm, .int zt, .int za, .int zm, .int zc, .int ze, .ref xe, .int zh, .int zi, .int zq])), (xs, .inl (cI, 2, .inl seF)), (xk, .inl (cI, 2, .inl (nR kF))), (xp, .inl (cI, 2, .inl (nR spF))), (xd, .inl (cI, 2, .inl (nR deF))), (xo, .inl (cI, 2, .inl (bR pF))), (xn, .inl (cI, 732, .inl u.2.1)), (xr, .inl (cI, 366, .inl u.2.2.1)), (xi, .inl (cZ, 2, .inl u.2.2.2)), (xf, .inl (cI, 7, .inl ru))]) (fun _ => rfl) (fun u H locs hF hst => ?_)
        obtain ⟨zl1_1, nm1_2, f1_3, dz1_4⟩ := u
        have hst : SS D A s [(x, .inr (7, [.ref xf, .ref xs, .ref xk, .ref xp, .ref xd, .ref xo, .ref xn, .ref xr, .ref xy, .ref xi, .int zl1_1, .long zu, .long zv, .ref xt, .ref xq, .ref xb, .ref xw, .ref xl, .ref xm, .int zt, .int za, .int zm, .int zc, .int ze, .ref xe, .int zh, .int zi, .int zq])), (xs, .inl (cI, 2, .inl seF)), (xk, .inl (cI, 2, .inl (nR kF))), (xp, .inl (cI, 2, .inl (nR spF))), (xd, .inl (cI, 2, .inl (nR deF))), (xo, .inl (cI, 2, .inl (bR pF))), (xn, .inl (cI, 732, .inl nm1_2)), (xr, .inl (cI, 366, .inl f1_3)), (xi, .inl (cZ, 2, .inl dz1_4)), (xf, .inl (cI, 7, .inl ru))] H locs := hst
        have hF : (ckM seF kF spF deF pF nm1_2 dz1_4) := hF
        have hF0_45 := hF
        refine W.eq (g2 := F0 m 48 ls [.int (ndM seF kF spF deF pF j0 kq), .long 2, .long ((2 * ((nI kq).toInt64)) - 365), .long (leaL (ndM seF kF spF deF pF j0) kq)]) rfl ?_
        refine lv_i2l (v := (ndM seF kF spF deF pF j0 kq).toInt64) hx hb dX7_lean_48 rfl ?_
        refine lv_lmul hx hb dX7_lean_49 ?_
        refine q_ldc2 hE wk_4_136 dX7_lean_50 ?_
        refine lv_lsub hx hb dX7_lean_53 ?_
        refine lv_lmul hx hb dX7_lean_54 ?_
        refine lv_ladd hx hb dX7_lean_55 ?_
        refine lv_lstore_n (lv' := [(2, .long ((leaL (ndM seF kF spF deF pF j0) kq) + (((2 * ((nI kq).toInt64)) - 365) * ((2 * ((ndM seF kF spF deF pF j0 kq).toInt64)) - 367)))), (4, .int (nI kq)), (0, .ref x), (1, .int (nI j0))]) hx hb dX7_lean_56 rfl hl (by decide) rfl (fun ls hl => ?_)
        refine lv_iinc (v := nI (kq + 1)) (lv' := [(4, .int (nI (kq + 1))), (2, .long ((leaL (ndM seF kF spF deF pF j0) kq) + (((2 * ((nI kq).toInt64)) - 365) * ((2 * ((ndM seF kF spF deF pF j0 kq).toInt64)) - 367)))), (0, .ref x), (1, .int (nI j0))]) hx hb dX7_lean_57 hl (k := 1) rfl (nI_next _) (by decide) rfl (fun ls hl => ?_)
        refine lv_goto (tgt := 18) hx hb dX7_lean_60 (by decide) ?_
        exact ih zl1_1 nm1_2 f1_3 dz1_4 (kq + 1) (hF0_45) (hR) (by omega) (by omega) _ _ _ (hst) (lv_sub hl [0, 1, 2, 3] rfl)
  refine lv_iload_n hx hb dX7_lean_0 rfl (lv_at hl 1 rfl) ?_
  refine q_goI (q_rS hE lk_X7_77 (c_X7_isJar l D cI cJ cZ p0 s.heap.size) hst [] rfl rfl rfl hl.1 ⟨(Nat.le_of_ble_eq_true rfl), (Nat.le_of_ble_eq_true rfl)⟩ (rest := []) rfl (Nat.le_of_ble_eq_true rfl) dX7_lean_1 ⟨(Nat.le_of_ble_eq_true rfl), (Nat.le_of_ble_eq_true rfl)⟩) hE hst [] rfl (fun _ => rfl) (fun (_ : Unit) => [(x, .inr (7, [.ref xf, .ref xs, .ref xk, .ref xp, .ref xd, .ref xo, .ref xn, .ref xr, .ref xy, .ref xi, .int zl, .long zu, .long zv, .ref xt, .ref xq, .ref xb, .ref xw, .ref xl, .ref xm, .int zt, .int za, .int zm, .int zc, .int ze, .ref xe, .int zh, .int zi, .int zq])), (xs, .inl (cI, 2, .inl seF)), (xk, .inl (cI, 2, .inl (nR kF))), (xp, .inl (cI, 2, .inl (nR spF))), (xd, .inl (cI, 2, .inl (nR deF))), (xo, .inl (cI, 2, .inl (bR pF))), (xn, .inl (cI, 732, .inl nm)), (xr, .inl (cI, 366, .inl f)), (xi, .inl (cZ, 2, .inl dz)), (xf, .inl (cI, 7, .inl ru))]) (fun _ => rfl) (fun _ H locs hF hst => ?_)
  refine lv_if_ne (tgt := 13) hx hb dX7_lean_4 (by decide) (fun c_4 => ?_) (fun c_4 => ?_)
  · skip
    have c_4 := b2i_t c_4
    have hR := c_4
    obtain rfl := hsl c_4
    skip
    refine lv_lconst (v := 0) hx hb dX7_lean_13 (by decide) ?_
    refine lv_lstore_n (lv' := [(2, .long 0), (0, .ref x), (1, .int (nI j0))]) hx hb dX7_lean_14 rfl hl (by decide) rfl (fun ls hl => ?_)
    refine lv_iconst (v := 0) hx hb dX7_lean_15 (by decide) ?_
    refine lv_istore (lv' := [(4, .int 0), (2, .long 0), (0, .ref x), (1, .int (nI j0))]) hx hb dX7_lean_16 hl (by decide) rfl (fun ls hl => ?_)
    exact loop_18 (367) zl nm f dz 0 (hck) (hR) (by decide) (by decide) _ _ _ (hst) (lv_sub hl [0, 1, 2, 3] rfl)
  · skip
    have c_4 := b2i_f c_4
    have hR : ¬ isJarB p0 = true := by rw [c_4]; decide
    refine lv_aload_n hx hb dX7_lean_7 rfl (lv_at hl 0 rfl) ?_
    refine lv_iconst (v := (-1)) hx hb dX7_lean_8 (by decide) ?_
    refine q_goL (q_rV hE lk_X7_121 (c_X7_noLong l D cI cJ cZ x xf xs xk xp xd xo xn xr xy xi xt xq xb xw xl xm xe zl zt za zm zc ze zh zi zq zu zv ru (-1) (by rw [vp_in_iff]; decide) H.size) hst [0, 9] rfl rfl rfl rfl rfl hl.1 ⟨(Nat.le_of_ble_eq_true rfl), (Nat.le_of_ble_eq_true rfl)⟩ (rest := []) rfl (Nat.le_of_ble_eq_true rfl) dX7_lean_9 ⟨(Nat.le_of_ble_eq_true rfl), (Nat.le_of_ble_eq_true rfl)⟩) hE hst [0, 9] rfl (fun _ => rfl) (fun (_ : Unit) => [(x, .inr (7, [.ref xf, .ref xs, .ref xk, .ref xp, .ref xd, .ref xo, .ref xn, .ref xr, .ref xy, .ref xi, .int zl, .long zu, .long zv, .ref xt, .ref xq, .ref xb, .ref xw, .ref xl, .ref xm, .int zt, .int za, .int zm, .int zc, .int ze, .ref xe, .int zh, .int zi, .int zq])), (xs, .inl (cI, 2, .inl seF)), (xk, .inl (cI, 2, .inl (nR kF))), (xp, .inl (cI, 2, .inl (nR spF))), (xd, .inl (cI, 2, .inl (nR deF))), (xo, .inl (cI, 2, .inl (bR pF))), (xn, .inl (cI, 732, .inl nm)), (xr, .inl (cI, 366, .inl f)), (xi, .inl (cZ, 2, .inl dz)), (xf, .inl (cI, 7, .inl (bmp ru (-1))))]) (fun _ => rfl) (fun _ H locs hF hst => ?_)
    exact q_retL hQ hE hr hk hst (zl, nm, f, dz) (by rw [if_neg hR]) (hck) (by simp only [if_neg hR]) dX7_lean_12
set_option maxHeartbeats 4000000 in
set_option maxRecDepth 100000 in
theorem c_X7_isCalled (l : Launch) (D : va_G) (cI cJ cZ : ClassId) (x : Nat) (xf : Nat) (xs : Nat) (xk : Nat) (xp : Nat) (xd : Nat) (xo : Nat) (xn : Nat) (xr : Nat) (xy : Nat) (xi : Nat) (xt : Nat) (xq : Nat) (xb : Nat) (xw : Nat) (xl : Nat) (xm : Nat) (xe : Nat) (zl : Int32) (zt : Int32) (za : Int32) (zm : Int32) (zc : Int32) (ze : Int32) (zh : Int32) (zi : Int32) (zq : Int32) (zu : Int64) (zv : Int64) (seF : Nat → Int32) (kF : Nat → Nat) (spF : Nat → Nat) (deF : Nat → Nat) (pF : Nat → Bool) (nm : Nat → Int32) (f : Nat → Int32) (dz : Nat → Int32) (bi : Nat → Int32) (j0 : Nat) (m0 : Nat) (hj : j0 < 2) (hjo : joM kF spF deF) (hck : ckM seF kF spF deF pF nm dz) (hm : m0 < 60) (hbi : vp_in (bi m0) 366) : CtI l D cI cJ cZ yX7_isCalled cX7_isCalled 3 (some .boolean) 3 [.ref x, .int (nI j0), .int (nI m0)] [(x, .inr (7, [.ref xf, .ref xs, .ref xk, .ref xp, .ref xd, .ref xo, .ref xn, .ref xr, .ref xy, .ref xi, .int zl, .long zu, .long zv, .ref xt, .ref xq, .ref xb, .ref xw, .ref xl, .ref xm, .int zt, .int za, .int zm, .int zc, .int ze, .ref xe, .int zh, .int zi, .int zq])), (xs, .inl (cI, 2, .inl seF)), (xk, .inl (cI, 2, .inl (nR kF))), (xp, .inl (cI, 2, .inl (nR spF))), (xd, .inl (cI, 2, .inl (nR deF))), (xo, .inl (cI, 2, .inl (bR pF))), (xn, .inl (cI, 732, .inl nm)), (xr, .inl (cI, 366, .inl f)), (xi, .inl (cZ, 2, .inl dz)), (xb, .inl (cI, 60, .inl bi))] (fun (u : Int32 × (Nat → Int32) × (Nat → Int32) × (Nat → Int32)) => b2i (calF zc (ndM seF kF spF deF pF j0) bi m0)) (fun (u : Int32 × (Nat → Int32) × (Nat → Int32) × (Nat → Int32)) => ckM seF kF spF deF pF u.2.1 u.2.2.2) (fun (u : Int32 × (Nat → Int32) × (Nat → Int32) × (Nat → Int32)) => [(x, .inr (7, [.ref xf, .ref xs, .ref xk, .ref xp, .ref xd, .ref xo, .ref xn, .ref xr, .ref xy, .ref xi, .int u.1, .long zu, .long zv, .ref xt, .ref xq, .ref xb, .ref xw, .ref xl, .ref xm, .int zt, .int za, .int zm, .int zc, .int ze, .ref xe, .int zh, .int zi, .int zq])), (xs, .inl (cI, 2, .inl seF)), (xk, .inl (cI, 2, .inl (nR kF))), (xp, .inl (cI, 2, .inl (nR spF))), (xd, .inl (cI, 2, .inl (nR deF))), (xo, .inl (cI, 2, .inl (bR pF))), (xn, .inl (cI, 732, .inl u.2.1)), (xr, .inl (cI, 366, .inl u.2.2.1)), (xi, .inl (cZ, 2, .inl u.2.2.2)), (xb, .inl (cI, 60, .inl bi))]) := by
  refine q_entI (own := RX7) rfl rfl (Nat.le_of_ble_eq_true rfl) ?_
  intro p e s m args below meth c A ls QQ hQ hE hx hb hr hk hin hA hl hst
  have hl : lv_has ls 3 [(0, .ref x), (1, .int (nI j0)), (2, .int (nI m0))] := hl
  obtain ⟨bd, hbd, ebd⟩ := vp_in_of hbi (by decide)
  refine lv_aload_n hx hb dX7_isCalled_0 rfl (lv_at hl 0 rfl) ?_
  refine lv_iload_n hx hb dX7_isCalled_1 rfl (lv_at hl 1 rfl) ?_
  refine lv_aload_n hx hb dX7_isCalled_2 rfl (lv_at hl 0 rfl) ?_
  refine gf_X7_47 hE hst 0 rfl rfl dX7_isCalled_3 ?_
  refine lv_iload_n hx hb dX7_isCalled_6 rfl (lv_at hl 2 rfl) ?_
  refine q_aldN hE hst 9 rfl m0 (rfl) (hm) (by decide) dX7_isCalled_7 ?_
  refine q_top (x' := nI bd) (ebd) ?_
  refine q_goI (q_rV hE lk_X7_100 (c_X7_numberOf l D cI cJ cZ x xf xs xk xp xd xo xn xr xy xi xt xq xb xw xl xm xe zl zt za zm zc ze zh zi zq zu zv seF kF spF deF pF nm f dz j0 bd (by first | assumption | decide | omega) (by first | assumption | decide | omega) (by first | assumption | decide | omega) (by first | assumption | decide | omega) s.heap.size) hst [0, 1, 2, 3, 4, 5, 6, 7, 8] rfl rfl rfl rfl rfl hl.1 ⟨(Nat.le_of_ble_eq_true rfl), (Nat.le_of_ble_eq_true rfl)⟩ (rest := []) rfl (Nat.le_of_ble_eq_true rfl) dX7_isCalled_8 ⟨(Nat.le_of_ble_eq_true rfl), (Nat.le_of_ble_eq_true rfl)⟩) hE hst [0, 1, 2, 3, 4, 5, 6, 7, 8] rfl (fun _ => rfl) (fun (u : Int32 × (Nat → Int32) × (Nat → Int32) × (Nat → Int32)) => [(x, .inr (7, [.ref xf, .ref xs, .ref xk, .ref xp, .ref xd, .ref xo, .ref xn, .ref xr, .ref xy, .ref xi, .int u.1, .long zu, .long zv, .ref xt, .ref xq, .ref xb, .ref xw, .ref xl, .ref xm, .int zt, .int za, .int zm, .int zc, .int ze, .ref xe, .int zh, .int zi, .int zq])), (xs, .inl (cI, 2, .inl seF)), (xk, .inl (cI, 2, .inl (nR kF))), (xp, .inl (cI, 2, .inl (nR spF))), (xd, .inl (cI, 2, .inl (nR deF))), (xo, .inl (cI, 2, .inl (bR pF))), (xn, .inl (cI, 732, .inl u.2.1)), (xr, .inl (cI, 366, .inl u.2.2.1)), (xi, .inl (cZ, 2, .inl u.2.2.2)), (xb, .inl (cI, 60, .inl bi))]) (fun _ => rfl) (fun u H locs hF hst => ?_)
  obtain ⟨zl1_1, nm1_2, f1_3, dz1_4⟩ := u
  have hst : SS D A s [(x, .inr (7, [.ref xf, .ref xs, .ref xk, .ref xp, .ref xd, .ref xo, .ref xn, .ref xr, .ref xy, .ref xi, .int zl1_1, .long zu, .long zv, .ref xt, .ref xq, .ref xb, .ref xw, .ref xl, .ref xm, .int zt, .int za, .int zm, .int zc, .int ze, .ref xe, .int zh, .int zi, .int zq])), (xs, .inl (cI, 2, .inl seF)), (xk, .inl (cI, 2, .inl (nR kF))), (xp, .inl (cI, 2, .inl (nR spF))), (xd, .inl (cI, 2, .inl (nR deF))), (xo, .inl (cI, 2, .inl (bR pF))), (xn, .inl (cI, 732, .inl nm1_2)), (xr, .inl (cI, 366, .inl f1_3)), (xi, .inl (cZ, 2, .inl dz1_4)), (xb, .inl (cI, 60, .inl bi))] H locs := hst
  have hF : (ckM seF kF spF deF pF nm1_2 dz1_4) := hF
  have hF0_8 := hF
  refine W.eq (g2 := F0 m 11 ls [.int (ndM seF kF spF deF pF j0 bd)]) rfl ?_
  refine q_top (x' := mnum (ndM seF kF spF deF pF j0) bi m0) (by rw [mnum, ebd, nI_clamp (by omega)]) ?_
  refine lv_aload_n hx hb dX7_isCalled_11 rfl (lv_at hl 0 rfl) ?_
  refine gf_X7_59 hE hst 0 rfl rfl dX7_isCalled_12 ?_
  refine lv_icmp_gt (tgt := 22) hx hb dX7_isCalled_15 (by decide) (fun c_15 => ?_) (fun c_15 => ?_)
  · skip
    refine lv_iconst (v := 0) hx hb dX7_isCalled_22 (by decide) ?_
    exact q_retZ hQ hE hr hk hst (zl1_1, nm1_2, f1_3, dz1_4) (rfl) (by rw [calF, clB, decide_eq_false (Int32.not_le.mpr c_15)]; rfl) (hF0_8) (rfl) dX7_isCalled_23
  · skip
    refine lv_iconst (v := 1) hx hb dX7_isCalled_18 (by decide) ?_
    refine lv_goto (tgt := 23) hx hb dX7_isCalled_19 (by decide) ?_
    exact q_retZ hQ hE hr hk hst (zl1_1, nm1_2, f1_3, dz1_4) (rfl) (by rw [calF, clB, decide_eq_true (Int32.not_lt.mp c_15)]; rfl) (hF0_8) (rfl) dX7_isCalled_23
set_option maxHeartbeats 4000000 in
set_option maxRecDepth 100000 in
theorem c_X7_servedAs (l : Launch) (D : va_G) (cI cJ cZ : ClassId) (x : Nat) (xf : Nat) (xs : Nat) (xk : Nat) (xp : Nat) (xd : Nat) (xo : Nat) (xn : Nat) (xr : Nat) (xy : Nat) (xi : Nat) (xt : Nat) (xq : Nat) (xb : Nat) (xw : Nat) (xl : Nat) (xm : Nat) (xe : Nat) (zl : Int32) (zt : Int32) (za : Int32) (zm : Int32) (zc : Int32) (ze : Int32) (zh : Int32) (zi : Int32) (zq : Int32) (zu : Int64) (zv : Int64) (seF : Nat → Int32) (kF : Nat → Nat) (spF : Nat → Nat) (deF : Nat → Nat) (pF : Nat → Bool) (nm : Nat → Int32) (f : Nat → Int32) (dz : Nat → Int32) (ki : Nat → Int32) (bi : Nat → Int32) (j0 : Nat) (m0 : Nat) (hj : j0 < 2) (hjo : joM kF spF deF) (hck : ckM seF kF spF deF pF nm dz) (hm : m0 < 60) (hbi : vp_in (bi m0) 366) (hki : vp_in (ki m0) 6) : CtI l D cI cJ cZ yX7_servedAs cX7_servedAs 4 (some .int) 4 [.ref x, .int (nI j0), .int (nI m0)] [(x, .inr (7, [.ref xf, .ref xs, .ref xk, .ref xp, .ref xd, .ref xo, .ref xn, .ref xr, .ref xy, .ref xi, .int zl, .long zu, .long zv, .ref xt, .ref xq, .ref xb, .ref xw, .ref xl, .ref xm, .int zt, .int za, .int zm, .int zc, .int ze, .ref xe, .int zh, .int zi, .int zq])), (xs, .inl (cI, 2, .inl seF)), (xk, .inl (cI, 2, .inl (nR kF))), (xp, .inl (cI, 2, .inl (nR spF))), (xd, .inl (cI, 2, .inl (nR deF))), (xo, .inl (cI, 2, .inl (bR pF))), (xn, .inl (cI, 732, .inl nm)), (xr, .inl (cI, 366, .inl f)), (xi, .inl (cZ, 2, .inl dz)), (xq, .inl (cI, 60, .inl ki)), (xb, .inl (cI, 60, .inl bi))] (fun (u : Int32 × (Nat → Int32) × (Nat → Int32) × (Nat → Int32)) => svF zc (ndM seF kF spF deF pF j0) ki bi m0) (fun (u : Int32 × (Nat → Int32) × (Nat → Int32) × (Nat → Int32)) => ckM seF kF spF deF pF u.2.1 u.2.2.2) (fun (u : Int32 × (Nat → Int32) × (Nat → Int32) × (Nat → Int32)) => [(x, .inr (7, [.ref xf, .ref xs, .ref xk, .ref xp, .ref xd, .ref xo, .ref xn, .ref xr, .ref xy, .ref xi, .int u.1, .long zu, .long zv, .ref xt, .ref xq, .ref xb, .ref xw, .ref xl, .ref xm, .int zt, .int za, .int zm, .int zc, .int ze, .ref xe, .int zh, .int zi, .int zq])), (xs, .inl (cI, 2, .inl seF)), (xk, .inl (cI, 2, .inl (nR kF))), (xp, .inl (cI, 2, .inl (nR spF))), (xd, .inl (cI, 2, .inl (nR deF))), (xo, .inl (cI, 2, .inl (bR pF))), (xn, .inl (cI, 732, .inl u.2.1)), (xr, .inl (cI, 366, .inl u.2.2.1)), (xi, .inl (cZ, 2, .inl u.2.2.2)), (xq, .inl (cI, 60, .inl ki)), (xb, .inl (cI, 60, .inl bi))]) := by
  refine q_entI (own := RX7) rfl rfl (Nat.le_of_ble_eq_true rfl) ?_
  intro p e s m args below meth c A ls QQ hQ hE hx hb hr hk hin hA hl hst
  have hl : lv_has ls 4 [(0, .ref x), (1, .int (nI j0)), (2, .int (nI m0))] := hl
  obtain ⟨bd, hbd, ebd⟩ := vp_in_of hbi (by decide)
  refine lv_aload_n hx hb dX7_servedAs_0 rfl (lv_at hl 0 rfl) ?_
  refine lv_iload_n hx hb dX7_servedAs_1 rfl (lv_at hl 1 rfl) ?_
  refine lv_iload_n hx hb dX7_servedAs_2 rfl (lv_at hl 2 rfl) ?_
  refine q_goI (q_rV hE lk_X7_173 (c_X7_isCalled l D cI cJ cZ x xf xs xk xp xd xo xn xr xy xi xt xq xb xw xl xm xe zl zt za zm zc ze zh zi zq zu zv seF kF spF deF pF nm f dz bi j0 m0 (by first | assumption | decide | omega) (by first | assumption | decide | omega) (by first | assumption | decide | omega) (by first | assumption | decide | omega) (by first | assumption | decide | omega) s.heap.size) hst [0, 1, 2, 3, 4, 5, 6, 7, 8, 10] rfl rfl rfl rfl rfl hl.1 ⟨(Nat.le_of_ble_eq_true rfl), (Nat.le_of_ble_eq_true rfl)⟩ (rest := []) rfl (Nat.le_of_ble_eq_true rfl) dX7_servedAs_3 ⟨(Nat.le_of_ble_eq_true rfl), (Nat.le_of_ble_eq_true rfl)⟩) hE hst [0, 1, 2, 3, 4, 5, 6, 7, 8, 10] rfl (fun _ => rfl) (fun (u : Int32 × (Nat → Int32) × (Nat → Int32) × (Nat → Int32)) => [(x, .inr (7, [.ref xf, .ref xs, .ref xk, .ref xp, .ref xd, .ref xo, .ref xn, .ref xr, .ref xy, .ref xi, .int u.1, .long zu, .long zv, .ref xt, .ref xq, .ref xb, .ref xw, .ref xl, .ref xm, .int zt, .int za, .int zm, .int zc, .int ze, .ref xe, .int zh, .int zi, .int zq])), (xs, .inl (cI, 2, .inl seF)), (xk, .inl (cI, 2, .inl (nR kF))), (xp, .inl (cI, 2, .inl (nR spF))), (xd, .inl (cI, 2, .inl (nR deF))), (xo, .inl (cI, 2, .inl (bR pF))), (xn, .inl (cI, 732, .inl u.2.1)), (xr, .inl (cI, 366, .inl u.2.2.1)), (xi, .inl (cZ, 2, .inl u.2.2.2)), (xq, .inl (cI, 60, .inl ki)), (xb, .inl (cI, 60, .inl bi))]) (fun _ => rfl) (fun u H locs hF hst => ?_)
  obtain ⟨zl1_1, nm1_2, f1_3, dz1_4⟩ := u
  have hst : SS D A s [(x, .inr (7, [.ref xf, .ref xs, .ref xk, .ref xp, .ref xd, .ref xo, .ref xn, .ref xr, .ref xy, .ref xi, .int zl1_1, .long zu, .long zv, .ref xt, .ref xq, .ref xb, .ref xw, .ref xl, .ref xm, .int zt, .int za, .int zm, .int zc, .int ze, .ref xe, .int zh, .int zi, .int zq])), (xs, .inl (cI, 2, .inl seF)), (xk, .inl (cI, 2, .inl (nR kF))), (xp, .inl (cI, 2, .inl (nR spF))), (xd, .inl (cI, 2, .inl (nR deF))), (xo, .inl (cI, 2, .inl (bR pF))), (xn, .inl (cI, 732, .inl nm1_2)), (xr, .inl (cI, 366, .inl f1_3)), (xi, .inl (cZ, 2, .inl dz1_4)), (xq, .inl (cI, 60, .inl ki)), (xb, .inl (cI, 60, .inl bi))] H locs := hst
  have hF : (ckM seF kF spF deF pF nm1_2 dz1_4) := hF
  have hF0_3 := hF
  refine W.eq (g2 := F0 m 6 ls [.int (b2i (calF zc (ndM seF kF spF deF pF j0) bi m0))]) rfl ?_
  refine lv_istore_n (lv' := [(3, .int (b2i (calF zc (ndM seF kF spF deF pF j0) bi m0))), (0, .ref x), (1, .int (nI j0)), (2, .int (nI m0))]) hx hb dX7_servedAs_6 rfl hl (by decide) rfl (fun ls hl => ?_)
  refine lv_aload_n hx hb dX7_servedAs_7 rfl (lv_at hl 1 rfl) ?_
  refine gf_X7_44 hE hst 0 rfl rfl dX7_servedAs_8 ?_
  refine lv_iload_n hx hb dX7_servedAs_11 rfl (lv_at hl 3 rfl) ?_
  refine q_aldN hE hst 9 rfl m0 (rfl) (hm) (by decide) dX7_servedAs_12 ?_
  by_cases c_13_0 : ki m0 = 0
  · skip
    refine lv_tableIn (off := 35) (tgt := 48) hx hb dX7_servedAs_13 (by rw [c_13_0]; decide) (by rw [c_13_0]; decide) (by rw [c_13_0]; rfl) (by decide) ?_
    refine lv_iload_n hx hb dX7_servedAs_48 rfl (lv_at hl 0 rfl) ?_
    refine lv_if_eq (tgt := 56) hx hb dX7_servedAs_49 (by decide) (fun c_49 => ?_) (fun c_49 => ?_)
    · skip
      have c_49 := b2i_f c_49
      refine lv_iconst (v := 0) hx hb dX7_servedAs_56 (by decide) ?_
      exact q_retI hQ hE hr hk hst (zl1_1, nm1_2, f1_3, dz1_4) (by have hc : clB zc (mnum (ndM seF kF spF deF pF j0) bi m0) = false := c_49; simp [svF, sevI, c_13_0, hc]) (hF0_3) (rfl) dX7_servedAs_57
    · skip
      have c_49 := b2i_t c_49
      refine lv_iconst (v := 1) hx hb dX7_servedAs_52 (by decide) ?_
      refine lv_goto (tgt := 57) hx hb dX7_servedAs_53 (by decide) ?_
      exact q_retI hQ hE hr hk hst (zl1_1, nm1_2, f1_3, dz1_4) (by have hc : clB zc (mnum (ndM seF kF spF deF pF j0) bi m0) = true := c_49; simp [svF, sevI, c_13_0, hc]) (hF0_3) (rfl) dX7_servedAs_57
  by_cases c_13_1 : ki m0 = 1
  · skip
    refine lv_tableIn (off := 45) (tgt := 58) hx hb dX7_servedAs_13 (by rw [c_13_1]; decide) (by rw [c_13_1]; decide) (by rw [c_13_1]; rfl) (by decide) ?_
    refine lv_iconst (v := 1) hx hb dX7_servedAs_58 (by decide) ?_
    exact q_retI hQ hE hr hk hst (zl1_1, nm1_2, f1_3, dz1_4) (by simp [svF, sevI, c_13_1]) (hF0_3) (rfl) dX7_servedAs_59
  by_cases c_13_2 : ki m0 = 2
  · skip
    refine lv_tableIn (off := 47) (tgt := 60) hx hb dX7_servedAs_13 (by rw [c_13_2]; decide) (by rw [c_13_2]; decide) (by rw [c_13_2]; rfl) (by decide) ?_
    refine lv_iconst (v := 0) hx hb dX7_servedAs_60 (by decide) ?_
    exact q_retI hQ hE hr hk hst (zl1_1, nm1_2, f1_3, dz1_4) (by simp [svF, sevI, c_13_2]) (hF0_3) (rfl) dX7_servedAs_61
  by_cases c_13_3 : ki m0 = 3
  · skip
    refine lv_tableIn (off := 49) (tgt := 62) hx hb dX7_servedAs_13 (by rw [c_13_3]; decide) (by rw [c_13_3]; decide) (by rw [c_13_3]; rfl) (by decide) ?_
    refine lv_iload_n hx hb dX7_servedAs_62 rfl (lv_at hl 0 rfl) ?_
    refine lv_if_eq (tgt := 70) hx hb dX7_servedAs_63 (by decide) (fun c_63 => ?_) (fun c_63 => ?_)
    · skip
      have c_63 := b2i_f c_63
      refine lv_iconst (v := 0) hx hb dX7_servedAs_70 (by decide) ?_
      exact q_retI hQ hE hr hk hst (zl1_1, nm1_2, f1_3, dz1_4) (by have hc : clB zc (mnum (ndM seF kF spF deF pF j0) bi m0) = false := c_63; simp [svF, sevI, c_13_3, hc]) (hF0_3) (rfl) dX7_servedAs_71
    · skip
      have c_63 := b2i_t c_63
      refine lv_iconst (v := 3) hx hb dX7_servedAs_66 (by decide) ?_
      refine lv_goto (tgt := 71) hx hb dX7_servedAs_67 (by decide) ?_
      exact q_retI hQ hE hr hk hst (zl1_1, nm1_2, f1_3, dz1_4) (by have hc : clB zc (mnum (ndM seF kF spF deF pF j0) bi m0) = true := c_63; simp [svF, sevI, c_13_3, hc]) (hF0_3) (rfl) dX7_servedAs_71
  by_cases c_13_4 : ki m0 = 4
  · skip
    refine lv_tableIn (off := 59) (tgt := 72) hx hb dX7_servedAs_13 (by rw [c_13_4]; decide) (by rw [c_13_4]; decide) (by rw [c_13_4]; rfl) (by decide) ?_
    refine lv_iload_n hx hb dX7_servedAs_72 rfl (lv_at hl 0 rfl) ?_
    refine lv_if_eq (tgt := 80) hx hb dX7_servedAs_73 (by decide) (fun c_73 => ?_) (fun c_73 => ?_)
    · skip
      have c_73 := b2i_f c_73
      refine lv_iconst (v := 1) hx hb dX7_servedAs_80 (by decide) ?_
      exact q_retI hQ hE hr hk hst (zl1_1, nm1_2, f1_3, dz1_4) (by have hc : clB zc (mnum (ndM seF kF spF deF pF j0) bi m0) = false := c_73; simp [svF, sevI, c_13_4, hc]) (hF0_3) (rfl) dX7_servedAs_81
    · skip
      have c_73 := b2i_t c_73
      refine lv_iconst (v := 2) hx hb dX7_servedAs_76 (by decide) ?_
      refine lv_goto (tgt := 81) hx hb dX7_servedAs_77 (by decide) ?_
      exact q_retI hQ hE hr hk hst (zl1_1, nm1_2, f1_3, dz1_4) (by have hc : clB zc (mnum (ndM seF kF spF deF pF j0) bi m0) = true := c_73; simp [svF, sevI, c_13_4, hc]) (hF0_3) (rfl) dX7_servedAs_81
  refine lv_tableOut (tgt := 82) hx hb dX7_servedAs_13 (by have q0 := lv_neT c_13_0 (a := 0) (by decide); have q1 := lv_neT c_13_1 (a := 1) (by decide); have q2 := lv_neT c_13_2 (a := 2) (by decide); have q3 := lv_neT c_13_3 (a := 3) (by decide); have q4 := lv_neT c_13_4 (a := 4) (by decide); omega) (by decide) ?_
  have hk5 := five hki c_13_0 c_13_1 c_13_2 c_13_3 c_13_4
  refine lv_iload_n hx hb dX7_servedAs_82 rfl (lv_at hl 0 rfl) ?_
  refine lv_if_eq (tgt := 106) hx hb dX7_servedAs_83 (by decide) (fun c_83 => ?_) (fun c_83 => ?_)
  · skip
    have c_83 := b2i_f c_83
    refine lv_iconst (v := 0) hx hb dX7_servedAs_106 (by decide) ?_
    exact q_retI hQ hE hr hk hst (zl1_1, nm1_2, f1_3, dz1_4) (by have hc : clB zc (mnum (ndM seF kF spF deF pF j0) bi m0) = false := c_83; simp [svF, sevI, hk5, hc]) (hF0_3) (rfl) dX7_servedAs_107
  · skip
    have c_83 := b2i_t c_83
    refine lv_aload_n hx hb dX7_servedAs_86 rfl (lv_at hl 1 rfl) ?_
    refine lv_iload_n hx hb dX7_servedAs_87 rfl (lv_at hl 2 rfl) ?_
    refine lv_aload_n hx hb dX7_servedAs_88 rfl (lv_at hl 1 rfl) ?_
    refine gf_X7_47 hE hst 0 rfl rfl dX7_servedAs_89 ?_
    refine lv_iload_n hx hb dX7_servedAs_92 rfl (lv_at hl 3 rfl) ?_
    refine q_aldN hE hst 10 rfl m0 (rfl) (hm) (by decide) dX7_servedAs_93 ?_
    refine q_top (x' := nI bd) (ebd) ?_
    refine q_goI (q_rV hE lk_X7_100 (c_X7_numberOf l D cI cJ cZ x xf xs xk xp xd xo xn xr xy xi xt xq xb xw xl xm xe zl1_1 zt za zm zc ze zh zi zq zu zv seF kF spF deF pF nm1_2 f1_3 dz1_4 j0 bd (by first | assumption | decide | omega) (by first | assumption | decide | omega) (by first | assumption | decide | omega) (by first | assumption | decide | omega) H.size) hst [0, 1, 2, 3, 4, 5, 6, 7, 8] rfl rfl rfl rfl rfl hl.1 ⟨(Nat.le_of_ble_eq_true rfl), (Nat.le_of_ble_eq_true rfl)⟩ (rest := []) rfl (Nat.le_of_ble_eq_true rfl) dX7_servedAs_94 ⟨(Nat.le_of_ble_eq_true rfl), (Nat.le_of_ble_eq_true rfl)⟩) hE hst [0, 1, 2, 3, 4, 5, 6, 7, 8] rfl (fun _ => rfl) (fun (u : Int32 × (Nat → Int32) × (Nat → Int32) × (Nat → Int32)) => [(x, .inr (7, [.ref xf, .ref xs, .ref xk, .ref xp, .ref xd, .ref xo, .ref xn, .ref xr, .ref xy, .ref xi, .int u.1, .long zu, .long zv, .ref xt, .ref xq, .ref xb, .ref xw, .ref xl, .ref xm, .int zt, .int za, .int zm, .int zc, .int ze, .ref xe, .int zh, .int zi, .int zq])), (xs, .inl (cI, 2, .inl seF)), (xk, .inl (cI, 2, .inl (nR kF))), (xp, .inl (cI, 2, .inl (nR spF))), (xd, .inl (cI, 2, .inl (nR deF))), (xo, .inl (cI, 2, .inl (bR pF))), (xn, .inl (cI, 732, .inl u.2.1)), (xr, .inl (cI, 366, .inl u.2.2.1)), (xi, .inl (cZ, 2, .inl u.2.2.2)), (xq, .inl (cI, 60, .inl ki)), (xb, .inl (cI, 60, .inl bi))]) (fun _ => rfl) (fun u H locs hF hst => ?_)
    obtain ⟨zl1_5, nm1_6, f1_7, dz1_8⟩ := u
    have hst : SS D A s [(x, .inr (7, [.ref xf, .ref xs, .ref xk, .ref xp, .ref xd, .ref xo, .ref xn, .ref xr, .ref xy, .ref xi, .int zl1_5, .long zu, .long zv, .ref xt, .ref xq, .ref xb, .ref xw, .ref xl, .ref xm, .int zt, .int za, .int zm, .int zc, .int ze, .ref xe, .int zh, .int zi, .int zq])), (xs, .inl (cI, 2, .inl seF)), (xk, .inl (cI, 2, .inl (nR kF))), (xp, .inl (cI, 2, .inl (nR spF))), (xd, .inl (cI, 2, .inl (nR deF))), (xo, .inl (cI, 2, .inl (bR pF))), (xn, .inl (cI, 732, .inl nm1_6)), (xr, .inl (cI, 366, .inl f1_7)), (xi, .inl (cZ, 2, .inl dz1_8)), (xq, .inl (cI, 60, .inl ki)), (xb, .inl (cI, 60, .inl bi))] H locs := hst
    have hF : (ckM seF kF spF deF pF nm1_6 dz1_8) := hF
    have hF0_94 := hF
    refine W.eq (g2 := F0 m 97 ls [.int (ndM seF kF spF deF pF j0 bd)]) rfl ?_
    refine q_top (x' := mnum (ndM seF kF spF deF pF j0) bi m0) (by rw [mnum, ebd, nI_clamp (by omega)]) ?_
    refine lv_iconst (v := 2) hx hb dX7_servedAs_97 (by decide) ?_
    refine lv_irem hx hb dX7_servedAs_98 (by decide) ?_
    refine lv_if_ne (tgt := 106) hx hb dX7_servedAs_99 (by decide) (fun c_99 => ?_) (fun c_99 => ?_)
    · skip
      refine lv_iconst (v := 0) hx hb dX7_servedAs_106 (by decide) ?_
      exact q_retI hQ hE hr hk hst (zl1_5, nm1_6, f1_7, dz1_8) (by have hc : clB zc (mnum (ndM seF kF spF deF pF j0) bi m0) = true := c_83; simp [svF, sevI, hk5, hc, evB, c_99]) (hF0_94) (rfl) dX7_servedAs_107
    · skip
      refine lv_iconst (v := 1) hx hb dX7_servedAs_102 (by decide) ?_
      refine lv_goto (tgt := 107) hx hb dX7_servedAs_103 (by decide) ?_
      exact q_retI hQ hE hr hk hst (zl1_5, nm1_6, f1_7, dz1_8) (by have hc : clB zc (mnum (ndM seF kF spF deF pF j0) bi m0) = true := c_83; simp [svF, sevI, hk5, hc, evB, c_99]) (hF0_94) (rfl) dX7_servedAs_107
set_option maxHeartbeats 4000000 in
set_option maxRecDepth 100000 in
theorem c_X7_hasServed (l : Launch) (D : va_G) (cI cJ cZ : ClassId) (x : Nat) (xf : Nat) (xs : Nat) (xk : Nat) (xp : Nat) (xd : Nat) (xo : Nat) (xn : Nat) (xr : Nat) (xy : Nat) (xi : Nat) (xt : Nat) (xq : Nat) (xb : Nat) (xw : Nat) (xl : Nat) (xm : Nat) (xe : Nat) (zl : Int32) (zt : Int32) (za : Int32) (zm : Int32) (zc : Int32) (ze : Int32) (zh : Int32) (zi : Int32) (zq : Int32) (zu : Int64) (zv : Int64) (seF : Nat → Int32) (kF : Nat → Nat) (spF : Nat → Nat) (deF : Nat → Nat) (pF : Nat → Bool) (nm : Nat → Int32) (f : Nat → Int32) (dz : Nat → Int32) (ki : Nat → Int32) (bi : Nat → Int32) (j0 : Nat) (m0 : Nat) (hj : j0 < 2) (hjo : joM kF spF deF) (hck : ckM seF kF spF deF pF nm dz) (hm : m0 < 60) (hbi : vp_in (bi m0) 366) (hki : vp_in (ki m0) 6) : CtI l D cI cJ cZ yX7_hasServed cX7_hasServed 3 (some .boolean) 5 [.ref x, .int (nI j0), .int (nI m0)] [(x, .inr (7, [.ref xf, .ref xs, .ref xk, .ref xp, .ref xd, .ref xo, .ref xn, .ref xr, .ref xy, .ref xi, .int zl, .long zu, .long zv, .ref xt, .ref xq, .ref xb, .ref xw, .ref xl, .ref xm, .int zt, .int za, .int zm, .int zc, .int ze, .ref xe, .int zh, .int zi, .int zq])), (xs, .inl (cI, 2, .inl seF)), (xk, .inl (cI, 2, .inl (nR kF))), (xp, .inl (cI, 2, .inl (nR spF))), (xd, .inl (cI, 2, .inl (nR deF))), (xo, .inl (cI, 2, .inl (bR pF))), (xn, .inl (cI, 732, .inl nm)), (xr, .inl (cI, 366, .inl f)), (xi, .inl (cZ, 2, .inl dz)), (xq, .inl (cI, 60, .inl ki)), (xb, .inl (cI, 60, .inl bi))] (fun (u : Int32 × (Nat → Int32) × (Nat → Int32) × (Nat → Int32)) => b2i (hsB (svF zc (ndM seF kF spF deF pF j0) ki bi m0))) (fun (u : Int32 × (Nat → Int32) × (Nat → Int32) × (Nat → Int32)) => ckM seF kF spF deF pF u.2.1 u.2.2.2) (fun (u : Int32 × (Nat → Int32) × (Nat → Int32) × (Nat → Int32)) => [(x, .inr (7, [.ref xf, .ref xs, .ref xk, .ref xp, .ref xd, .ref xo, .ref xn, .ref xr, .ref xy, .ref xi, .int u.1, .long zu, .long zv, .ref xt, .ref xq, .ref xb, .ref xw, .ref xl, .ref xm, .int zt, .int za, .int zm, .int zc, .int ze, .ref xe, .int zh, .int zi, .int zq])), (xs, .inl (cI, 2, .inl seF)), (xk, .inl (cI, 2, .inl (nR kF))), (xp, .inl (cI, 2, .inl (nR spF))), (xd, .inl (cI, 2, .inl (nR deF))), (xo, .inl (cI, 2, .inl (bR pF))), (xn, .inl (cI, 732, .inl u.2.1)), (xr, .inl (cI, 366, .inl u.2.2.1)), (xi, .inl (cZ, 2, .inl u.2.2.2)), (xq, .inl (cI, 60, .inl ki)), (xb, .inl (cI, 60, .inl bi))]) := by
  refine q_entI (own := RX7) rfl rfl (Nat.le_of_ble_eq_true rfl) ?_
  intro p e s m args below meth c A ls QQ hQ hE hx hb hr hk hin hA hl hst
  have hl : lv_has ls 3 [(0, .ref x), (1, .int (nI j0)), (2, .int (nI m0))] := hl
  refine lv_aload_n hx hb dX7_hasServed_0 rfl (lv_at hl 0 rfl) ?_
  refine lv_iload_n hx hb dX7_hasServed_1 rfl (lv_at hl 1 rfl) ?_
  refine lv_iload_n hx hb dX7_hasServed_2 rfl (lv_at hl 2 rfl) ?_
  refine q_goI (q_rV hE lk_X7_177 (c_X7_servedAs l D cI cJ cZ x xf xs xk xp xd xo xn xr xy xi xt xq xb xw xl xm xe zl zt za zm zc ze zh zi zq zu zv seF kF spF deF pF nm f dz ki bi j0 m0 (by first | assumption | decide | omega) (by first | assumption | decide | omega) (by first | assumption | decide | omega) (by first | assumption | decide | omega) (by first | assumption | decide | omega) (by first | assumption | decide | omega) s.heap.size) hst [0, 1, 2, 3, 4, 5, 6, 7, 8, 9, 10] rfl rfl rfl rfl rfl hl.1 ⟨(Nat.le_of_ble_eq_true rfl), (Nat.le_of_ble_eq_true rfl)⟩ (rest := []) rfl (Nat.le_of_ble_eq_true rfl) dX7_hasServed_3 ⟨(Nat.le_of_ble_eq_true rfl), (Nat.le_of_ble_eq_true rfl)⟩) hE hst [0, 1, 2, 3, 4, 5, 6, 7, 8, 9, 10] rfl (fun _ => rfl) (fun (u : Int32 × (Nat → Int32) × (Nat → Int32) × (Nat → Int32)) => [(x, .inr (7, [.ref xf, .ref xs, .ref xk, .ref xp, .ref xd, .ref xo, .ref xn, .ref xr, .ref xy, .ref xi, .int u.1, .long zu, .long zv, .ref xt, .ref xq, .ref xb, .ref xw, .ref xl, .ref xm, .int zt, .int za, .int zm, .int zc, .int ze, .ref xe, .int zh, .int zi, .int zq])), (xs, .inl (cI, 2, .inl seF)), (xk, .inl (cI, 2, .inl (nR kF))), (xp, .inl (cI, 2, .inl (nR spF))), (xd, .inl (cI, 2, .inl (nR deF))), (xo, .inl (cI, 2, .inl (bR pF))), (xn, .inl (cI, 732, .inl u.2.1)), (xr, .inl (cI, 366, .inl u.2.2.1)), (xi, .inl (cZ, 2, .inl u.2.2.2)), (xq, .inl (cI, 60, .inl ki)), (xb, .inl (cI, 60, .inl bi))]) (fun _ => rfl) (fun u H locs hF hst => ?_)
  obtain ⟨zl1_1, nm1_2, f1_3, dz1_4⟩ := u
  have hst : SS D A s [(x, .inr (7, [.ref xf, .ref xs, .ref xk, .ref xp, .ref xd, .ref xo, .ref xn, .ref xr, .ref xy, .ref xi, .int zl1_1, .long zu, .long zv, .ref xt, .ref xq, .ref xb, .ref xw, .ref xl, .ref xm, .int zt, .int za, .int zm, .int zc, .int ze, .ref xe, .int zh, .int zi, .int zq])), (xs, .inl (cI, 2, .inl seF)), (xk, .inl (cI, 2, .inl (nR kF))), (xp, .inl (cI, 2, .inl (nR spF))), (xd, .inl (cI, 2, .inl (nR deF))), (xo, .inl (cI, 2, .inl (bR pF))), (xn, .inl (cI, 732, .inl nm1_2)), (xr, .inl (cI, 366, .inl f1_3)), (xi, .inl (cZ, 2, .inl dz1_4)), (xq, .inl (cI, 60, .inl ki)), (xb, .inl (cI, 60, .inl bi))] H locs := hst
  have hF : (ckM seF kF spF deF pF nm1_2 dz1_4) := hF
  have hF0_3 := hF
  refine W.eq (g2 := F0 m 6 ls [.int (svF zc (ndM seF kF spF deF pF j0) ki bi m0)]) rfl ?_
  refine lv_iconst (v := 1) hx hb dX7_hasServed_6 (by decide) ?_
  refine lv_icmp_eq (tgt := 20) hx hb dX7_hasServed_7 (by decide) (fun c_7 => ?_) (fun c_7 => ?_)
  · skip
    refine lv_iconst (v := 1) hx hb dX7_hasServed_20 (by decide) ?_
    refine lv_goto (tgt := 25) hx hb dX7_hasServed_21 (by decide) ?_
    exact q_retZ hQ hE hr hk hst (zl1_1, nm1_2, f1_3, dz1_4) (rfl) (by simp [hsB, b2i, c_7]) (hF0_3) (rfl) dX7_hasServed_25
  · skip
    refine lv_aload_n hx hb dX7_hasServed_10 rfl (lv_at hl 0 rfl) ?_
    refine lv_iload_n hx hb dX7_hasServed_11 rfl (lv_at hl 1 rfl) ?_
    refine lv_iload_n hx hb dX7_hasServed_12 rfl (lv_at hl 2 rfl) ?_
    refine q_goI (q_rV hE lk_X7_177 (c_X7_servedAs l D cI cJ cZ x xf xs xk xp xd xo xn xr xy xi xt xq xb xw xl xm xe zl1_1 zt za zm zc ze zh zi zq zu zv seF kF spF deF pF nm1_2 f1_3 dz1_4 ki bi j0 m0 (by first | assumption | decide | omega) (by first | assumption | decide | omega) (by first | assumption | decide | omega) (by first | assumption | decide | omega) (by first | assumption | decide | omega) (by first | assumption | decide | omega) H.size) hst [0, 1, 2, 3, 4, 5, 6, 7, 8, 9, 10] rfl rfl rfl rfl rfl hl.1 ⟨(Nat.le_of_ble_eq_true rfl), (Nat.le_of_ble_eq_true rfl)⟩ (rest := []) rfl (Nat.le_of_ble_eq_true rfl) dX7_hasServed_13 ⟨(Nat.le_of_ble_eq_true rfl), (Nat.le_of_ble_eq_true rfl)⟩) hE hst [0, 1, 2, 3, 4, 5, 6, 7, 8, 9, 10] rfl (fun _ => rfl) (fun (u : Int32 × (Nat → Int32) × (Nat → Int32) × (Nat → Int32)) => [(x, .inr (7, [.ref xf, .ref xs, .ref xk, .ref xp, .ref xd, .ref xo, .ref xn, .ref xr, .ref xy, .ref xi, .int u.1, .long zu, .long zv, .ref xt, .ref xq, .ref xb, .ref xw, .ref xl, .ref xm, .int zt, .int za, .int zm, .int zc, .int ze, .ref xe, .int zh, .int zi, .int zq])), (xs, .inl (cI, 2, .inl seF)), (xk, .inl (cI, 2, .inl (nR kF))), (xp, .inl (cI, 2, .inl (nR spF))), (xd, .inl (cI, 2, .inl (nR deF))), (xo, .inl (cI, 2, .inl (bR pF))), (xn, .inl (cI, 732, .inl u.2.1)), (xr, .inl (cI, 366, .inl u.2.2.1)), (xi, .inl (cZ, 2, .inl u.2.2.2)), (xq, .inl (cI, 60, .inl ki)), (xb, .inl (cI, 60, .inl bi))]) (fun _ => rfl) (fun u H locs hF hst => ?_)
    obtain ⟨zl1_5, nm1_6, f1_7, dz1_8⟩ := u
    have hst : SS D A s [(x, .inr (7, [.ref xf, .ref xs, .ref xk, .ref xp, .ref xd, .ref xo, .ref xn, .ref xr, .ref xy, .ref xi, .int zl1_5, .long zu, .long zv, .ref xt, .ref xq, .ref xb, .ref xw, .ref xl, .ref xm, .int zt, .int za, .int zm, .int zc, .int ze, .ref xe, .int zh, .int zi, .int zq])), (xs, .inl (cI, 2, .inl seF)), (xk, .inl (cI, 2, .inl (nR kF))), (xp, .inl (cI, 2, .inl (nR spF))), (xd, .inl (cI, 2, .inl (nR deF))), (xo, .inl (cI, 2, .inl (bR pF))), (xn, .inl (cI, 732, .inl nm1_6)), (xr, .inl (cI, 366, .inl f1_7)), (xi, .inl (cZ, 2, .inl dz1_8)), (xq, .inl (cI, 60, .inl ki)), (xb, .inl (cI, 60, .inl bi))] H locs := hst
    have hF : (ckM seF kF spF deF pF nm1_6 dz1_8) := hF
    have hF0_13 := hF
    refine W.eq (g2 := F0 m 16 ls [.int (svF zc (ndM seF kF spF deF pF j0) ki bi m0)]) rfl ?_
    refine lv_iconst (v := 2) hx hb dX7_hasServed_16 (by decide) ?_
    refine lv_icmp_ne (tgt := 24) hx hb dX7_hasServed_17 (by decide) (fun c_17 => ?_) (fun c_17 => ?_)
    · skip
      refine lv_iconst (v := 0) hx hb dX7_hasServed_24 (by decide) ?_
      exact q_retZ hQ hE hr hk hst (zl1_5, nm1_6, f1_7, dz1_8) (rfl) (by simp [hsB, b2i, c_7, c_17]) (hF0_13) (rfl) dX7_hasServed_25
    · skip
      refine lv_iconst (v := 1) hx hb dX7_hasServed_20 (by decide) ?_
      refine lv_goto (tgt := 25) hx hb dX7_hasServed_21 (by decide) ?_
      exact q_retZ hQ hE hr hk hst (zl1_5, nm1_6, f1_7, dz1_8) (rfl) (by simp [hsB, b2i, c_7, c_17]) (hF0_13) (rfl) dX7_hasServed_25
set_option maxHeartbeats 4000000 in
set_option maxRecDepth 100000 in
theorem c_X7_called (l : Launch) (D : va_G) (cI cJ cZ : ClassId) (x : Nat) (xf : Nat) (xs : Nat) (xk : Nat) (xp : Nat) (xd : Nat) (xo : Nat) (xn : Nat) (xr : Nat) (xy : Nat) (xi : Nat) (xt : Nat) (xq : Nat) (xb : Nat) (xw : Nat) (xl : Nat) (xm : Nat) (xe : Nat) (zl : Int32) (zt : Int32) (za : Int32) (zc : Int32) (ze : Int32) (zh : Int32) (zi : Int32) (zq : Int32) (zu : Int64) (zv : Int64) (ru : Nat → Int32) (seF : Nat → Int32) (kF : Nat → Nat) (spF : Nat → Nat) (deF : Nat → Nat) (pF : Nat → Bool) (nm : Nat → Int32) (f : Nat → Int32) (dz : Nat → Int32) (bi : Nat → Int32) (j0 : Nat) (nq : Nat) (p0 : Int32) (p1 : Int32) (hj : j0 < 2) (hsl : isJarB p0 = true → p0 = nI j0) (hjo : joM kF spF deF) (hck : ckM seF kF spF deF pF nm dz) (hn : nq ≤ 60) (hbi : ∀ j, j < nq → vp_in (bi j) 366) : CtI l D cI cJ cZ yX7_called cX7_called 3 (some .int) 4 [.ref x, .int p0, .int p1] [(x, .inr (7, [.ref xf, .ref xs, .ref xk, .ref xp, .ref xd, .ref xo, .ref xn, .ref xr, .ref xy, .ref xi, .int zl, .long zu, .long zv, .ref xt, .ref xq, .ref xb, .ref xw, .ref xl, .ref xm, .int zt, .int za, .int (nI nq), .int zc, .int ze, .ref xe, .int zh, .int zi, .int zq])), (xs, .inl (cI, 2, .inl seF)), (xk, .inl (cI, 2, .inl (nR kF))), (xp, .inl (cI, 2, .inl (nR spF))), (xd, .inl (cI, 2, .inl (nR deF))), (xo, .inl (cI, 2, .inl (bR pF))), (xn, .inl (cI, 732, .inl nm)), (xr, .inl (cI, 366, .inl f)), (xi, .inl (cZ, 2, .inl dz)), (xb, .inl (cI, 60, .inl bi)), (xf, .inl (cI, 7, .inl ru))] (fun (u : Int32 × (Nat → Int32) × (Nat → Int32) × (Nat → Int32)) => if (isJarB p0 && manB (nI nq) p1) = true then b2i (calF zc (ndM seF kF spF deF pF j0) bi p1.toNatClampNeg) else -1) (fun (u : Int32 × (Nat → Int32) × (Nat → Int32) × (Nat → Int32)) => ckM seF kF spF deF pF u.2.1 u.2.2.2) (fun (u : Int32 × (Nat → Int32) × (Nat → Int32) × (Nat → Int32)) => [(x, .inr (7, [.ref xf, .ref xs, .ref xk, .ref xp, .ref xd, .ref xo, .ref xn, .ref xr, .ref xy, .ref xi, .int u.1, .long zu, .long zv, .ref xt, .ref xq, .ref xb, .ref xw, .ref xl, .ref xm, .int zt, .int za, .int (nI nq), .int zc, .int ze, .ref xe, .int zh, .int zi, .int zq])), (xs, .inl (cI, 2, .inl seF)), (xk, .inl (cI, 2, .inl (nR kF))), (xp, .inl (cI, 2, .inl (nR spF))), (xd, .inl (cI, 2, .inl (nR deF))), (xo, .inl (cI, 2, .inl (bR pF))), (xn, .inl (cI, 732, .inl u.2.1)), (xr, .inl (cI, 366, .inl u.2.2.1)), (xi, .inl (cZ, 2, .inl u.2.2.2)), (xb, .inl (cI, 60, .inl bi)), (xf, .inl (cI, 7, .inl (if (isJarB p0 && manB (nI nq) p1) = true then ru else bmp ru (-1))))]) := by
  refine q_entI (own := RX7) rfl rfl (Nat.le_of_ble_eq_true rfl) ?_
  intro p e s m args below meth c A ls QQ hQ hE hx hb hr hk hin hA hl hst
  have hl : lv_has ls 3 [(0, .ref x), (1, .int p0), (2, .int p1)] := hl
  refine lv_iload_n hx hb dX7_called_0 rfl (lv_at hl 1 rfl) ?_
  refine q_goI (q_rS hE lk_X7_77 (c_X7_isJar l D cI cJ cZ p0 s.heap.size) hst [] rfl rfl rfl hl.1 ⟨(Nat.le_of_ble_eq_true rfl), (Nat.le_of_ble_eq_true rfl)⟩ (rest := []) rfl (Nat.le_of_ble_eq_true rfl) dX7_called_1 ⟨(Nat.le_of_ble_eq_true rfl), (Nat.le_of_ble_eq_true rfl)⟩) hE hst [] rfl (fun _ => rfl) (fun (_ : Unit) => [(x, .inr (7, [.ref xf, .ref xs, .ref xk, .ref xp, .ref xd, .ref xo, .ref xn, .ref xr, .ref xy, .ref xi, .int zl, .long zu, .long zv, .ref xt, .ref xq, .ref xb, .ref xw, .ref xl, .ref xm, .int zt, .int za, .int (nI nq), .int zc, .int ze, .ref xe, .int zh, .int zi, .int zq])), (xs, .inl (cI, 2, .inl seF)), (xk, .inl (cI, 2, .inl (nR kF))), (xp, .inl (cI, 2, .inl (nR spF))), (xd, .inl (cI, 2, .inl (nR deF))), (xo, .inl (cI, 2, .inl (bR pF))), (xn, .inl (cI, 732, .inl nm)), (xr, .inl (cI, 366, .inl f)), (xi, .inl (cZ, 2, .inl dz)), (xb, .inl (cI, 60, .inl bi)), (xf, .inl (cI, 7, .inl ru))]) (fun _ => rfl) (fun _ H locs hF hst => ?_)
  refine lv_if_eq (tgt := 15) hx hb dX7_called_4 (by decide) (fun c_4 => ?_) (fun c_4 => ?_)
  · skip
    have c_4 := b2i_f c_4
    refine lv_aload_n hx hb dX7_called_15 rfl (lv_at hl 0 rfl) ?_
    refine lv_iconst (v := (-1)) hx hb dX7_called_16 (by decide) ?_
    refine q_goI (q_rV hE lk_X7_81 (c_X7_no l D cI cJ cZ x xf xs xk xp xd xo xn xr xy xi xt xq xb xw xl xm xe zl zt za (nI nq) zc ze zh zi zq zu zv ru (-1) (by rw [vp_in_iff]; decide) H.size) hst [0, 10] rfl rfl rfl rfl rfl hl.1 ⟨(Nat.le_of_ble_eq_true rfl), (Nat.le_of_ble_eq_true rfl)⟩ (rest := []) rfl (Nat.le_of_ble_eq_true rfl) dX7_called_17 ⟨(Nat.le_of_ble_eq_true rfl), (Nat.le_of_ble_eq_true rfl)⟩) hE hst [0, 10] rfl (fun _ => rfl) (fun (_ : Unit) => [(x, .inr (7, [.ref xf, .ref xs, .ref xk, .ref xp, .ref xd, .ref xo, .ref xn, .ref xr, .ref xy, .ref xi, .int zl, .long zu, .long zv, .ref xt, .ref xq, .ref xb, .ref xw, .ref xl, .ref xm, .int zt, .int za, .int (nI nq), .int zc, .int ze, .ref xe, .int zh, .int zi, .int zq])), (xs, .inl (cI, 2, .inl seF)), (xk, .inl (cI, 2, .inl (nR kF))), (xp, .inl (cI, 2, .inl (nR spF))), (xd, .inl (cI, 2, .inl (nR deF))), (xo, .inl (cI, 2, .inl (bR pF))), (xn, .inl (cI, 732, .inl nm)), (xr, .inl (cI, 366, .inl f)), (xi, .inl (cZ, 2, .inl dz)), (xb, .inl (cI, 60, .inl bi)), (xf, .inl (cI, 7, .inl (bmp ru (-1))))]) (fun _ => rfl) (fun _ H locs hF hst => ?_)
    exact q_retI hQ hE hr hk hst (zl, nm, f, dz) (by simp only [c_4, Bool.false_and]; rfl) (hck) (by simp only [c_4, Bool.false_and]; rfl) dX7_called_20
  · skip
    have c_4 := b2i_t c_4
    refine lv_aload_n hx hb dX7_called_7 rfl (lv_at hl 0 rfl) ?_
    refine lv_iload_n hx hb dX7_called_8 rfl (lv_at hl 2 rfl) ?_
    refine q_goI (q_rV hE lk_X7_170 (c_X7_isMan l D cI cJ cZ x xf xs xk xp xd xo xn xr xy xi xt xq xb xw xl xm xe zl zt za (nI nq) zc ze zh zi zq zu zv p1 H.size) hst [0] rfl rfl rfl rfl rfl hl.1 ⟨(Nat.le_of_ble_eq_true rfl), (Nat.le_of_ble_eq_true rfl)⟩ (rest := []) rfl (Nat.le_of_ble_eq_true rfl) dX7_called_9 ⟨(Nat.le_of_ble_eq_true rfl), (Nat.le_of_ble_eq_true rfl)⟩) hE hst [0] rfl (fun _ => rfl) (fun (_ : Unit) => [(x, .inr (7, [.ref xf, .ref xs, .ref xk, .ref xp, .ref xd, .ref xo, .ref xn, .ref xr, .ref xy, .ref xi, .int zl, .long zu, .long zv, .ref xt, .ref xq, .ref xb, .ref xw, .ref xl, .ref xm, .int zt, .int za, .int (nI nq), .int zc, .int ze, .ref xe, .int zh, .int zi, .int zq])), (xs, .inl (cI, 2, .inl seF)), (xk, .inl (cI, 2, .inl (nR kF))), (xp, .inl (cI, 2, .inl (nR spF))), (xd, .inl (cI, 2, .inl (nR deF))), (xo, .inl (cI, 2, .inl (bR pF))), (xn, .inl (cI, 732, .inl nm)), (xr, .inl (cI, 366, .inl f)), (xi, .inl (cZ, 2, .inl dz)), (xb, .inl (cI, 60, .inl bi)), (xf, .inl (cI, 7, .inl ru))]) (fun _ => rfl) (fun _ H locs hF hst => ?_)
    refine lv_if_ne (tgt := 21) hx hb dX7_called_12 (by decide) (fun c_12 => ?_) (fun c_12 => ?_)
    · skip
      have c_12 := b2i_t c_12
      have hjm : (isJarB p0 && manB (nI nq) p1) = true := by rw [c_4, c_12]; rfl
      obtain ⟨m1, hm1, rfl⟩ := man_of hn c_12
      skip
      obtain rfl := hsl c_4
      skip
      refine lv_aload_n hx hb dX7_called_21 rfl (lv_at hl 0 rfl) ?_
      refine lv_iload_n hx hb dX7_called_22 rfl (lv_at hl 1 rfl) ?_
      refine lv_iload_n hx hb dX7_called_23 rfl (lv_at hl 2 rfl) ?_
      refine q_goI (q_rV hE lk_X7_173 (c_X7_isCalled l D cI cJ cZ x xf xs xk xp xd xo xn xr xy xi xt xq xb xw xl xm xe zl zt za (nI nq) zc ze zh zi zq zu zv seF kF spF deF pF nm f dz bi j0 m1 (hj) (hjo) (hck) (by omega) (hbi m1 hm1) H.size) hst [0, 1, 2, 3, 4, 5, 6, 7, 8, 9] rfl rfl rfl rfl rfl hl.1 ⟨(Nat.le_of_ble_eq_true rfl), (Nat.le_of_ble_eq_true rfl)⟩ (rest := []) rfl (Nat.le_of_ble_eq_true rfl) dX7_called_24 ⟨(Nat.le_of_ble_eq_true rfl), (Nat.le_of_ble_eq_true rfl)⟩) hE hst [0, 1, 2, 3, 4, 5, 6, 7, 8, 9] rfl (fun _ => rfl) (fun (u : Int32 × (Nat → Int32) × (Nat → Int32) × (Nat → Int32)) => [(x, .inr (7, [.ref xf, .ref xs, .ref xk, .ref xp, .ref xd, .ref xo, .ref xn, .ref xr, .ref xy, .ref xi, .int u.1, .long zu, .long zv, .ref xt, .ref xq, .ref xb, .ref xw, .ref xl, .ref xm, .int zt, .int za, .int (nI nq), .int zc, .int ze, .ref xe, .int zh, .int zi, .int zq])), (xs, .inl (cI, 2, .inl seF)), (xk, .inl (cI, 2, .inl (nR kF))), (xp, .inl (cI, 2, .inl (nR spF))), (xd, .inl (cI, 2, .inl (nR deF))), (xo, .inl (cI, 2, .inl (bR pF))), (xn, .inl (cI, 732, .inl u.2.1)), (xr, .inl (cI, 366, .inl u.2.2.1)), (xi, .inl (cZ, 2, .inl u.2.2.2)), (xb, .inl (cI, 60, .inl bi)), (xf, .inl (cI, 7, .inl ru))]) (fun _ => rfl) (fun u H locs hF hst => ?_)
      obtain ⟨zl1_1, nm1_2, f1_3, dz1_4⟩ := u
      have hst : SS D A s [(x, .inr (7, [.ref xf, .ref xs, .ref xk, .ref xp, .ref xd, .ref xo, .ref xn, .ref xr, .ref xy, .ref xi, .int zl1_1, .long zu, .long zv, .ref xt, .ref xq, .ref xb, .ref xw, .ref xl, .ref xm, .int zt, .int za, .int (nI nq), .int zc, .int ze, .ref xe, .int zh, .int zi, .int zq])), (xs, .inl (cI, 2, .inl seF)), (xk, .inl (cI, 2, .inl (nR kF))), (xp, .inl (cI, 2, .inl (nR spF))), (xd, .inl (cI, 2, .inl (nR deF))), (xo, .inl (cI, 2, .inl (bR pF))), (xn, .inl (cI, 732, .inl nm1_2)), (xr, .inl (cI, 366, .inl f1_3)), (xi, .inl (cZ, 2, .inl dz1_4)), (xb, .inl (cI, 60, .inl bi)), (xf, .inl (cI, 7, .inl ru))] H locs := hst
      have hF : (ckM seF kF spF deF pF nm1_2 dz1_4) := hF
      have hF0_24 := hF
      refine W.eq (g2 := F0 m 27 ls [.int (b2i (calF zc (ndM seF kF spF deF pF j0) bi m1))]) rfl ?_
      refine lv_if_eq (tgt := 34) hx hb dX7_called_27 (by decide) (fun c_27 => ?_) (fun c_27 => ?_)
      · skip
        have c_27 := b2i_f c_27
        refine lv_iconst (v := 0) hx hb dX7_called_34 (by decide) ?_
        exact q_retI hQ hE hr hk hst (zl1_1, nm1_2, f1_3, dz1_4) (by simp only [if_pos hjm, nI_clamp (show m1 < 2147483648 by omega)]; rw [c_27]; rfl) (hF0_24) (by simp only [if_pos hjm]) dX7_called_35
      · skip
        have c_27 := b2i_t c_27
        refine lv_iconst (v := 1) hx hb dX7_called_30 (by decide) ?_
        refine lv_goto (tgt := 35) hx hb dX7_called_31 (by decide) ?_
        exact q_retI hQ hE hr hk hst (zl1_1, nm1_2, f1_3, dz1_4) (by simp only [if_pos hjm, nI_clamp (show m1 < 2147483648 by omega)]; rw [c_27]; rfl) (hF0_24) (by simp only [if_pos hjm]) dX7_called_35
    · skip
      have c_12 := b2i_f c_12
      refine lv_aload_n hx hb dX7_called_15 rfl (lv_at hl 0 rfl) ?_
      refine lv_iconst (v := (-1)) hx hb dX7_called_16 (by decide) ?_
      refine q_goI (q_rV hE lk_X7_81 (c_X7_no l D cI cJ cZ x xf xs xk xp xd xo xn xr xy xi xt xq xb xw xl xm xe zl zt za (nI nq) zc ze zh zi zq zu zv ru (-1) (by rw [vp_in_iff]; decide) H.size) hst [0, 10] rfl rfl rfl rfl rfl hl.1 ⟨(Nat.le_of_ble_eq_true rfl), (Nat.le_of_ble_eq_true rfl)⟩ (rest := []) rfl (Nat.le_of_ble_eq_true rfl) dX7_called_17 ⟨(Nat.le_of_ble_eq_true rfl), (Nat.le_of_ble_eq_true rfl)⟩) hE hst [0, 10] rfl (fun _ => rfl) (fun (_ : Unit) => [(x, .inr (7, [.ref xf, .ref xs, .ref xk, .ref xp, .ref xd, .ref xo, .ref xn, .ref xr, .ref xy, .ref xi, .int zl, .long zu, .long zv, .ref xt, .ref xq, .ref xb, .ref xw, .ref xl, .ref xm, .int zt, .int za, .int (nI nq), .int zc, .int ze, .ref xe, .int zh, .int zi, .int zq])), (xs, .inl (cI, 2, .inl seF)), (xk, .inl (cI, 2, .inl (nR kF))), (xp, .inl (cI, 2, .inl (nR spF))), (xd, .inl (cI, 2, .inl (nR deF))), (xo, .inl (cI, 2, .inl (bR pF))), (xn, .inl (cI, 732, .inl nm)), (xr, .inl (cI, 366, .inl f)), (xi, .inl (cZ, 2, .inl dz)), (xb, .inl (cI, 60, .inl bi)), (xf, .inl (cI, 7, .inl (bmp ru (-1))))]) (fun _ => rfl) (fun _ H locs hF hst => ?_)
      exact q_retI hQ hE hr hk hst (zl, nm, f, dz) (by simp only [c_4, c_12]; rfl) (hck) (by simp only [c_4, c_12]; rfl) dX7_called_20
set_option maxHeartbeats 4000000 in
set_option maxRecDepth 100000 in
theorem c_X7_served (l : Launch) (D : va_G) (cI cJ cZ : ClassId) (x : Nat) (xf : Nat) (xs : Nat) (xk : Nat) (xp : Nat) (xd : Nat) (xo : Nat) (xn : Nat) (xr : Nat) (xy : Nat) (xi : Nat) (xt : Nat) (xq : Nat) (xb : Nat) (xw : Nat) (xl : Nat) (xm : Nat) (xe : Nat) (zl : Int32) (zt : Int32) (za : Int32) (zc : Int32) (ze : Int32) (zh : Int32) (zi : Int32) (zq : Int32) (zu : Int64) (zv : Int64) (ru : Nat → Int32) (seF : Nat → Int32) (kF : Nat → Nat) (spF : Nat → Nat) (deF : Nat → Nat) (pF : Nat → Bool) (nm : Nat → Int32) (f : Nat → Int32) (dz : Nat → Int32) (ki : Nat → Int32) (bi : Nat → Int32) (j0 : Nat) (nq : Nat) (p0 : Int32) (p1 : Int32) (hj : j0 < 2) (hsl : isJarB p0 = true → p0 = nI j0) (hjo : joM kF spF deF) (hck : ckM seF kF spF deF pF nm dz) (hn : nq ≤ 60) (hbi : ∀ j, j < nq → vp_in (bi j) 366) (hki : ∀ j, j < nq → vp_in (ki j) 6) : CtI l D cI cJ cZ yX7_served cX7_served 3 (some .int) 5 [.ref x, .int p0, .int p1] [(x, .inr (7, [.ref xf, .ref xs, .ref xk, .ref xp, .ref xd, .ref xo, .ref xn, .ref xr, .ref xy, .ref xi, .int zl, .long zu, .long zv, .ref xt, .ref xq, .ref xb, .ref xw, .ref xl, .ref xm, .int zt, .int za, .int (nI nq), .int zc, .int ze, .ref xe, .int zh, .int zi, .int zq])), (xs, .inl (cI, 2, .inl seF)), (xk, .inl (cI, 2, .inl (nR kF))), (xp, .inl (cI, 2, .inl (nR spF))), (xd, .inl (cI, 2, .inl (nR deF))), (xo, .inl (cI, 2, .inl (bR pF))), (xn, .inl (cI, 732, .inl nm)), (xr, .inl (cI, 366, .inl f)), (xi, .inl (cZ, 2, .inl dz)), (xq, .inl (cI, 60, .inl ki)), (xb, .inl (cI, 60, .inl bi)), (xf, .inl (cI, 7, .inl ru))] (fun (u : Int32 × (Nat → Int32) × (Nat → Int32) × (Nat → Int32)) => if (isJarB p0 && manB (nI nq) p1) = true then svF zc (ndM seF kF spF deF pF j0) ki bi p1.toNatClampNeg else -1) (fun (u : Int32 × (Nat → Int32) × (Nat → Int32) × (Nat → Int32)) => ckM seF kF spF deF pF u.2.1 u.2.2.2) (fun (u : Int32 × (Nat → Int32) × (Nat → Int32) × (Nat → Int32)) => [(x, .inr (7, [.ref xf, .ref xs, .ref xk, .ref xp, .ref xd, .ref xo, .ref xn, .ref xr, .ref xy, .ref xi, .int u.1, .long zu, .long zv, .ref xt, .ref xq, .ref xb, .ref xw, .ref xl, .ref xm, .int zt, .int za, .int (nI nq), .int zc, .int ze, .ref xe, .int zh, .int zi, .int zq])), (xs, .inl (cI, 2, .inl seF)), (xk, .inl (cI, 2, .inl (nR kF))), (xp, .inl (cI, 2, .inl (nR spF))), (xd, .inl (cI, 2, .inl (nR deF))), (xo, .inl (cI, 2, .inl (bR pF))), (xn, .inl (cI, 732, .inl u.2.1)), (xr, .inl (cI, 366, .inl u.2.2.1)), (xi, .inl (cZ, 2, .inl u.2.2.2)), (xq, .inl (cI, 60, .inl ki)), (xb, .inl (cI, 60, .inl bi)), (xf, .inl (cI, 7, .inl (if (isJarB p0 && manB (nI nq) p1) = true then ru else bmp ru (-1))))]) := by
  refine q_entI (own := RX7) rfl rfl (Nat.le_of_ble_eq_true rfl) ?_
  intro p e s m args below meth c A ls QQ hQ hE hx hb hr hk hin hA hl hst
  have hl : lv_has ls 3 [(0, .ref x), (1, .int p0), (2, .int p1)] := hl
  refine lv_iload_n hx hb dX7_served_0 rfl (lv_at hl 1 rfl) ?_
  refine q_goI (q_rS hE lk_X7_77 (c_X7_isJar l D cI cJ cZ p0 s.heap.size) hst [] rfl rfl rfl hl.1 ⟨(Nat.le_of_ble_eq_true rfl), (Nat.le_of_ble_eq_true rfl)⟩ (rest := []) rfl (Nat.le_of_ble_eq_true rfl) dX7_served_1 ⟨(Nat.le_of_ble_eq_true rfl), (Nat.le_of_ble_eq_true rfl)⟩) hE hst [] rfl (fun _ => rfl) (fun (_ : Unit) => [(x, .inr (7, [.ref xf, .ref xs, .ref xk, .ref xp, .ref xd, .ref xo, .ref xn, .ref xr, .ref xy, .ref xi, .int zl, .long zu, .long zv, .ref xt, .ref xq, .ref xb, .ref xw, .ref xl, .ref xm, .int zt, .int za, .int (nI nq), .int zc, .int ze, .ref xe, .int zh, .int zi, .int zq])), (xs, .inl (cI, 2, .inl seF)), (xk, .inl (cI, 2, .inl (nR kF))), (xp, .inl (cI, 2, .inl (nR spF))), (xd, .inl (cI, 2, .inl (nR deF))), (xo, .inl (cI, 2, .inl (bR pF))), (xn, .inl (cI, 732, .inl nm)), (xr, .inl (cI, 366, .inl f)), (xi, .inl (cZ, 2, .inl dz)), (xq, .inl (cI, 60, .inl ki)), (xb, .inl (cI, 60, .inl bi)), (xf, .inl (cI, 7, .inl ru))]) (fun _ => rfl) (fun _ H locs hF hst => ?_)
  refine lv_if_eq (tgt := 24) hx hb dX7_served_4 (by decide) (fun c_4 => ?_) (fun c_4 => ?_)
  · skip
    have c_4 := b2i_f c_4
    refine lv_aload_n hx hb dX7_served_24 rfl (lv_at hl 0 rfl) ?_
    refine lv_iconst (v := (-1)) hx hb dX7_served_25 (by decide) ?_
    refine q_goI (q_rV hE lk_X7_81 (c_X7_no l D cI cJ cZ x xf xs xk xp xd xo xn xr xy xi xt xq xb xw xl xm xe zl zt za (nI nq) zc ze zh zi zq zu zv ru (-1) (by rw [vp_in_iff]; decide) H.size) hst [0, 11] rfl rfl rfl rfl rfl hl.1 ⟨(Nat.le_of_ble_eq_true rfl), (Nat.le_of_ble_eq_true rfl)⟩ (rest := []) rfl (Nat.le_of_ble_eq_true rfl) dX7_served_26 ⟨(Nat.le_of_ble_eq_true rfl), (Nat.le_of_ble_eq_true rfl)⟩) hE hst [0, 11] rfl (fun _ => rfl) (fun (_ : Unit) => [(x, .inr (7, [.ref xf, .ref xs, .ref xk, .ref xp, .ref xd, .ref xo, .ref xn, .ref xr, .ref xy, .ref xi, .int zl, .long zu, .long zv, .ref xt, .ref xq, .ref xb, .ref xw, .ref xl, .ref xm, .int zt, .int za, .int (nI nq), .int zc, .int ze, .ref xe, .int zh, .int zi, .int zq])), (xs, .inl (cI, 2, .inl seF)), (xk, .inl (cI, 2, .inl (nR kF))), (xp, .inl (cI, 2, .inl (nR spF))), (xd, .inl (cI, 2, .inl (nR deF))), (xo, .inl (cI, 2, .inl (bR pF))), (xn, .inl (cI, 732, .inl nm)), (xr, .inl (cI, 366, .inl f)), (xi, .inl (cZ, 2, .inl dz)), (xq, .inl (cI, 60, .inl ki)), (xb, .inl (cI, 60, .inl bi)), (xf, .inl (cI, 7, .inl (bmp ru (-1))))]) (fun _ => rfl) (fun _ H locs hF hst => ?_)
    exact q_retI hQ hE hr hk hst (zl, nm, f, dz) (by simp only [c_4, Bool.false_and]; rfl) (hck) (by simp only [c_4, Bool.false_and]; rfl) dX7_served_29
  · skip
    have c_4 := b2i_t c_4
    refine lv_aload_n hx hb dX7_served_7 rfl (lv_at hl 0 rfl) ?_
    refine lv_iload_n hx hb dX7_served_8 rfl (lv_at hl 2 rfl) ?_
    refine q_goI (q_rV hE lk_X7_170 (c_X7_isMan l D cI cJ cZ x xf xs xk xp xd xo xn xr xy xi xt xq xb xw xl xm xe zl zt za (nI nq) zc ze zh zi zq zu zv p1 H.size) hst [0] rfl rfl rfl rfl rfl hl.1 ⟨(Nat.le_of_ble_eq_true rfl), (Nat.le_of_ble_eq_true rfl)⟩ (rest := []) rfl (Nat.le_of_ble_eq_true rfl) dX7_served_9 ⟨(Nat.le_of_ble_eq_true rfl), (Nat.le_of_ble_eq_true rfl)⟩) hE hst [0] rfl (fun _ => rfl) (fun (_ : Unit) => [(x, .inr (7, [.ref xf, .ref xs, .ref xk, .ref xp, .ref xd, .ref xo, .ref xn, .ref xr, .ref xy, .ref xi, .int zl, .long zu, .long zv, .ref xt, .ref xq, .ref xb, .ref xw, .ref xl, .ref xm, .int zt, .int za, .int (nI nq), .int zc, .int ze, .ref xe, .int zh, .int zi, .int zq])), (xs, .inl (cI, 2, .inl seF)), (xk, .inl (cI, 2, .inl (nR kF))), (xp, .inl (cI, 2, .inl (nR spF))), (xd, .inl (cI, 2, .inl (nR deF))), (xo, .inl (cI, 2, .inl (bR pF))), (xn, .inl (cI, 732, .inl nm)), (xr, .inl (cI, 366, .inl f)), (xi, .inl (cZ, 2, .inl dz)), (xq, .inl (cI, 60, .inl ki)), (xb, .inl (cI, 60, .inl bi)), (xf, .inl (cI, 7, .inl ru))]) (fun _ => rfl) (fun _ H locs hF hst => ?_)
    refine lv_if_eq (tgt := 24) hx hb dX7_served_12 (by decide) (fun c_12 => ?_) (fun c_12 => ?_)
    · skip
      have c_12 := b2i_f c_12
      refine lv_aload_n hx hb dX7_served_24 rfl (lv_at hl 0 rfl) ?_
      refine lv_iconst (v := (-1)) hx hb dX7_served_25 (by decide) ?_
      refine q_goI (q_rV hE lk_X7_81 (c_X7_no l D cI cJ cZ x xf xs xk xp xd xo xn xr xy xi xt xq xb xw xl xm xe zl zt za (nI nq) zc ze zh zi zq zu zv ru (-1) (by rw [vp_in_iff]; decide) H.size) hst [0, 11] rfl rfl rfl rfl rfl hl.1 ⟨(Nat.le_of_ble_eq_true rfl), (Nat.le_of_ble_eq_true rfl)⟩ (rest := []) rfl (Nat.le_of_ble_eq_true rfl) dX7_served_26 ⟨(Nat.le_of_ble_eq_true rfl), (Nat.le_of_ble_eq_true rfl)⟩) hE hst [0, 11] rfl (fun _ => rfl) (fun (_ : Unit) => [(x, .inr (7, [.ref xf, .ref xs, .ref xk, .ref xp, .ref xd, .ref xo, .ref xn, .ref xr, .ref xy, .ref xi, .int zl, .long zu, .long zv, .ref xt, .ref xq, .ref xb, .ref xw, .ref xl, .ref xm, .int zt, .int za, .int (nI nq), .int zc, .int ze, .ref xe, .int zh, .int zi, .int zq])), (xs, .inl (cI, 2, .inl seF)), (xk, .inl (cI, 2, .inl (nR kF))), (xp, .inl (cI, 2, .inl (nR spF))), (xd, .inl (cI, 2, .inl (nR deF))), (xo, .inl (cI, 2, .inl (bR pF))), (xn, .inl (cI, 732, .inl nm)), (xr, .inl (cI, 366, .inl f)), (xi, .inl (cZ, 2, .inl dz)), (xq, .inl (cI, 60, .inl ki)), (xb, .inl (cI, 60, .inl bi)), (xf, .inl (cI, 7, .inl (bmp ru (-1))))]) (fun _ => rfl) (fun _ H locs hF hst => ?_)
      exact q_retI hQ hE hr hk hst (zl, nm, f, dz) (by simp only [c_4, c_12]; rfl) (hck) (by simp only [c_4, c_12]; rfl) dX7_served_29
    · skip
      have c_12 := b2i_t c_12
      have hjm : (isJarB p0 && manB (nI nq) p1) = true := by rw [c_4, c_12]; rfl
      obtain ⟨m1, hm1, rfl⟩ := man_of hn c_12
      skip
      obtain rfl := hsl c_4
      skip
      refine lv_aload_n hx hb dX7_served_15 rfl (lv_at hl 0 rfl) ?_
      refine lv_iload_n hx hb dX7_served_16 rfl (lv_at hl 1 rfl) ?_
      refine lv_iload_n hx hb dX7_served_17 rfl (lv_at hl 2 rfl) ?_
      refine q_goI (q_rV hE lk_X7_177 (c_X7_servedAs l D cI cJ cZ x xf xs xk xp xd xo xn xr xy xi xt xq xb xw xl xm xe zl zt za (nI nq) zc ze zh zi zq zu zv seF kF spF deF pF nm f dz ki bi j0 m1 (hj) (hjo) (hck) (by omega) (hbi m1 hm1) (hki m1 hm1) H.size) hst [0, 1, 2, 3, 4, 5, 6, 7, 8, 9, 10] rfl rfl rfl rfl rfl hl.1 ⟨(Nat.le_of_ble_eq_true rfl), (Nat.le_of_ble_eq_true rfl)⟩ (rest := []) rfl (Nat.le_of_ble_eq_true rfl) dX7_served_18 ⟨(Nat.le_of_ble_eq_true rfl), (Nat.le_of_ble_eq_true rfl)⟩) hE hst [0, 1, 2, 3, 4, 5, 6, 7, 8, 9, 10] rfl (fun _ => rfl) (fun (u : Int32 × (Nat → Int32) × (Nat → Int32) × (Nat → Int32)) => [(x, .inr (7, [.ref xf, .ref xs, .ref xk, .ref xp, .ref xd, .ref xo, .ref xn, .ref xr, .ref xy, .ref xi, .int u.1, .long zu, .long zv, .ref xt, .ref xq, .ref xb, .ref xw, .ref xl, .ref xm, .int zt, .int za, .int (nI nq), .int zc, .int ze, .ref xe, .int zh, .int zi, .int zq])), (xs, .inl (cI, 2, .inl seF)), (xk, .inl (cI, 2, .inl (nR kF))), (xp, .inl (cI, 2, .inl (nR spF))), (xd, .inl (cI, 2, .inl (nR deF))), (xo, .inl (cI, 2, .inl (bR pF))), (xn, .inl (cI, 732, .inl u.2.1)), (xr, .inl (cI, 366, .inl u.2.2.1)), (xi, .inl (cZ, 2, .inl u.2.2.2)), (xq, .inl (cI, 60, .inl ki)), (xb, .inl (cI, 60, .inl bi)), (xf, .inl (cI, 7, .inl ru))]) (fun _ => rfl) (fun u H locs hF hst => ?_)
      obtain ⟨zl1_1, nm1_2, f1_3, dz1_4⟩ := u
      have hst : SS D A s [(x, .inr (7, [.ref xf, .ref xs, .ref xk, .ref xp, .ref xd, .ref xo, .ref xn, .ref xr, .ref xy, .ref xi, .int zl1_1, .long zu, .long zv, .ref xt, .ref xq, .ref xb, .ref xw, .ref xl, .ref xm, .int zt, .int za, .int (nI nq), .int zc, .int ze, .ref xe, .int zh, .int zi, .int zq])), (xs, .inl (cI, 2, .inl seF)), (xk, .inl (cI, 2, .inl (nR kF))), (xp, .inl (cI, 2, .inl (nR spF))), (xd, .inl (cI, 2, .inl (nR deF))), (xo, .inl (cI, 2, .inl (bR pF))), (xn, .inl (cI, 732, .inl nm1_2)), (xr, .inl (cI, 366, .inl f1_3)), (xi, .inl (cZ, 2, .inl dz1_4)), (xq, .inl (cI, 60, .inl ki)), (xb, .inl (cI, 60, .inl bi)), (xf, .inl (cI, 7, .inl ru))] H locs := hst
      have hF : (ckM seF kF spF deF pF nm1_2 dz1_4) := hF
      have hF0_18 := hF
      refine W.eq (g2 := F0 m 21 ls [.int (svF zc (ndM seF kF spF deF pF j0) ki bi m1)]) rfl ?_
      refine lv_goto (tgt := 29) hx hb dX7_served_21 (by decide) ?_
      exact q_retI hQ hE hr hk hst (zl1_1, nm1_2, f1_3, dz1_4) (by simp only [if_pos hjm, nI_clamp (show m1 < 2147483648 by omega)]) (hF0_18) (by simp only [if_pos hjm]) dX7_served_29
