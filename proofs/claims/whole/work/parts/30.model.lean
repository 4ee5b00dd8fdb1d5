/-! the reference -/
def bR (r : Nat → Bool) : Nat → Int32 := fun x => b2i (r x)
def inB (v a b : Int32) : Bool := decide (a ≤ v) && decide (v ≤ b)
def outI (v a b : Int32) : Int32 := if a ≤ v then (if v ≤ b then 0 else -6) else -4
theorem ftf_out (v a b : Int32) : ftf false false (!decide (a ≤ v)) (!decide (v ≤ b)) = outI v a b := by
  unfold ftf outI
  by_cases h1 : a ≤ v <;> by_cases h2 : v ≤ b <;> simp [h1, h2]
theorem ftf_nj {p : Int32} (h : isJarB p = false) (b c d : Bool) : ftf (!isJarB p) b c d = -1 := by rw [h]; rfl
theorem ftf_j {p : Int32} (h : isJarB p = true) (b c d : Bool) : ftf (!isJarB p) b c d = ftf false b c d := by rw [h]; rfl
def ndM (seF : Nat → Int32) (kF spF deF : Nat → Nat) (pF : Nat → Bool) (j : Nat) : Nat → Int32 := numF (seF j) (kF j) (spF j) (deF j) (pF j)
def ckM (seF : Nat → Int32) (kF spF deF : Nat → Nat) (pF : Nat → Bool) (nm dz : Nat → Int32) : Prop := ∀ j, j < 2 → (dz j = 0 ∨ dz j = 1) ∧ (dz j = 1 → ∀ d, d < 366 → nm (366 * j + d) = ndM seF kF spF deF pF j d)
def joM (kF spF deF : Nat → Nat) : Prop := ∀ j, j < 2 → kF j ≤ 2000 ∧ spF j ≤ 365 ∧ 1 ≤ deF j ∧ deF j ≤ 366
theorem clm_0 {a l sp : Nat} (ha : a < 366) (hl : l < 732) (hs : sp < 366) (h : ¬ 0 ≤ nI a + nI l - nI sp) : nI (min (a + l - sp) 365) = 0 := by
  have ht := pk_sub_toInt (a := a + l) (b := sp) (by omega) (by omega)
  have h00 : (0 : Int32).toInt = 0 := by decide
  rw [nI_add, Int32.le_iff_toInt_le, ht, h00] at h
  rw [show min (a + l - sp) 365 = 0 by omega]
  rfl
theorem clm_1 {a l sp : Nat} (ha : a < 366) (hl : l < 732) (hs : sp < 366) (h : 0 ≤ nI a + nI l - nI sp) (h2 : nI a + nI l - nI sp < 366) : nI (min (a + l - sp) 365) = nI a + nI l - nI sp := by
  have ht := pk_sub_toInt (a := a + l) (b := sp) (by omega) (by omega)
  have h00 : (0 : Int32).toInt = 0 := by decide
  have h36 : (366 : Int32).toInt = 366 := by decide
  rw [nI_add, Int32.le_iff_toInt_le, ht, h00] at h
  rw [nI_add, Int32.lt_iff_toInt_lt, ht, h36] at h2
  rw [nI_add, pk_sub (by omega)]
  congr 1
  omega
theorem clm_2 {a l sp : Nat} (ha : a < 366) (hl : l < 732) (hs : sp < 366) (h2 : ¬ nI a + nI l - nI sp < 366) : nI (min (a + l - sp) 365) = 365 := by
  have ht := pk_sub_toInt (a := a + l) (b := sp) (by omega) (by omega)
  have h36 : (366 : Int32).toInt = 366 := by decide
  rw [nI_add, Int32.lt_iff_toInt_lt, ht, h36] at h2
  rw [show min (a + l - sp) 365 = 365 by omega]
  rfl
theorem sw_up (r : Nat → Nat) (i j : Nat) : upd (upd (nR r) i (nR r j)) j (nR r i) = nR (swN r i j) := by
  funext x
  unfold upd nR swN
  by_cases h1 : x = j
  · rw [if_pos h1, if_pos h1]
  · rw [if_neg h1, if_neg h1]
    by_cases h2 : x = i
    · rw [if_pos h2, if_pos h2]
    · rw [if_neg h2, if_neg h2]
theorem lay_up (f : Nat → Int32) {k : Nat} (hk : k < 366) : upd (layK f k) k (nI k) = layK f (k + 1) := (putI_n hk (by decide)).symm.trans (layK_s f hk)
theorem trJ {se : Int32} {kS sp k : Nat} {po : Bool} (h : po = true → k = 183) (h2 : po = false → k = 0) : nR (trN k (shN sp kS (fun x => x, se)).1) = nR (jrX se kS sp po).1 := by
  cases po with
  | false => rw [h2 rfl, jr_f]; rfl
  | true => rw [h rfl, jr_t]
def mgN (nm : Nat → Int32) (j de : Nat) (x : (Nat → Nat) × Int32) (k : Nat) : Nat → Int32 := fun i => if 366 * j ≤ i ∧ i < 366 * j + 366 then ndN de x (fun d => nm (366 * j + d)) k (i - 366 * j) else nm i
theorem mg_0 (nm : Nat → Int32) (j de : Nat) (x : (Nat → Nat) × Int32) : mgN nm j de x 0 = nm := by
  funext i
  unfold mgN ndN
  by_cases h : 366 * j ≤ i ∧ i < 366 * j + 366
  · rw [if_pos h, show 366 * j + (i - 366 * j) = i by omega]
  · rw [if_neg h]
theorem mg_s (nm : Nat → Int32) (j : Nat) {de k : Nat} {x : (Nat → Nat) × Int32} (h : dayN de x k < 366) : upd (mgN nm j de x k) (366 * j + dayN de x k) (nI (k + 1)) = mgN nm j de x (k + 1) := by
  funext i
  unfold upd mgN
  rw [ndN, upd]
  by_cases e : i = 366 * j + dayN de x k
  · rw [if_pos e, if_pos (by omega), if_pos (by omega)]
  · rw [if_neg e]
    by_cases g : 366 * j ≤ i ∧ i < 366 * j + 366
    · rw [if_pos g, if_pos g, if_neg (by omega)]
    · rw [if_neg g, if_neg g]
theorem cl_0 (r : Nat → Nat) (p : Nat) : clN r p 0 = r := by funext x; unfold clN; rw [if_neg (by omega)]
theorem cl_s (r : Nat → Nat) (p i : Nat) : upd (nR (clN r p i)) (p + i) (nR (clN r p i) (p + i + 1)) = nR (clN r p (i + 1)) := by
  funext x
  unfold upd nR clN
  by_cases e : x = p + i
  · rw [if_pos e, if_neg (by omega), if_pos (by omega), e]
  · rw [if_neg e]
    by_cases g : p ≤ x ∧ x < p + i
    · rw [if_pos g, if_pos (by omega)]
    · rw [if_neg g, if_neg (by omega)]
theorem ck_dr {seF : Nat → Int32} {kF spF deF : Nat → Nat} {pF : Nat → Bool} {nm dz : Nat → Int32} {j0 : Nat} (hj : j0 < 2) (hd : 1 ≤ deF j0) (h : ckM seF kF spF deF pF nm dz) : ckM seF kF spF deF pF (mgN nm j0 (deF j0) (jrX (seF j0) (kF j0) (spF j0) (pF j0)) 366) (upd dz j0 1) ∧ upd dz j0 1 j0 = 1 := by
  refine ⟨fun j hjj => ?_, by unfold upd; rw [if_pos rfl]⟩
  by_cases e : j = j0
  · subst e
    refine ⟨Or.inr (by unfold upd; rw [if_pos rfl]), fun _ d hdd => ?_⟩
    unfold mgN ndM
    rw [if_pos (by omega), show 366 * j + d - 366 * j = d by omega]
    exact nd_any hd _ d hdd
  · obtain ⟨g1, g2⟩ := h j hjj
    unfold upd
    rw [if_neg e]
    refine ⟨g1, fun z d hdd => ?_⟩
    unfold mgN
    rw [if_neg (by omega)]
    exact g2 z d hdd
set_option maxHeartbeats 4000000 in
set_option maxRecDepth 100000 in
theorem c_X7_isJar (l : Launch) (D : va_G) (cI cJ cZ : ClassId) (p0 : Int32) : CtI l D cI cJ cZ yX7_isJar cX7_isJar 1 (some .boolean) 0 [.int p0] [] (fun (_ : Unit) => b2i (isJarB p0)) (fun (_ : Unit) => True) (fun (_ : Unit) => []) := by
  refine q_entI (own := RX7) rfl rfl (Nat.le_of_ble_eq_true rfl) ?_
  intro p e s m args below meth c A ls QQ hQ hE hx hb hr hk hin hA hl hst
  have hl : lv_has ls 1 [(0, .int p0)] := hl
  refine lv_iload_n hx hb dX7_isJar_0 rfl (lv_at hl 0 rfl) ?_
  refine lv_if_eq (tgt := 9) hx hb dX7_isJar_1 (by decide) (fun c_1 => ?_) (fun c_1 => ?_)
  · skip
    refine lv_iconst (v := 1) hx hb dX7_isJar_9 (by decide) ?_
    refine lv_goto (tgt := 14) hx hb dX7_isJar_10 (by decide) ?_
    exact q_retZ hQ hE hr hk hst () (rfl) (by simp [isJarB, b2i, c_1]) (trivial) (rfl) dX7_isJar_14
  · skip
    refine lv_iload_n hx hb dX7_isJar_4 rfl (lv_at hl 0 rfl) ?_
    refine lv_iconst (v := 1) hx hb dX7_isJar_5 (by decide) ?_
    refine lv_icmp_ne (tgt := 13) hx hb dX7_isJar_6 (by decide) (fun c_6 => ?_) (fun c_6 => ?_)
    · skip
      refine lv_iconst (v := 0) hx hb dX7_isJar_13 (by decide) ?_
      exact q_retZ hQ hE hr hk hst () (rfl) (by simp [isJarB, b2i, c_1, c_6]) (trivial) (rfl) dX7_isJar_14
    · skip
      refine lv_iconst (v := 1) hx hb dX7_isJar_9 (by decide) ?_
      refine lv_goto (tgt := 14) hx hb dX7_isJar_10 (by decide) ?_
      exact q_retZ hQ hE hr hk hst () (rfl) (by simp [isJarB, b2i, c_1, c_6]) (trivial) (rfl) dX7_isJar_14
set_option maxHeartbeats 4000000 in
set_option maxRecDepth 100000 in
theorem c_X7_isPart (l : Launch) (D : va_G) (cI cJ cZ : ClassId) (p0 : Int32) : CtI l D cI cJ cZ yX7_isPart cX7_isPart 1 (some .boolean) 0 [.int p0] [] (fun (_ : Unit) => b2i (isJarB p0)) (fun (_ : Unit) => True) (fun (_ : Unit) => []) := by
  refine q_entI (own := RX7) rfl rfl (Nat.le_of_ble_eq_true rfl) ?_
  intro p e s m args below meth c A ls QQ hQ hE hx hb hr hk hin hA hl hst
  have hl : lv_has ls 1 [(0, .int p0)] := hl
  refine lv_iload_n hx hb dX7_isPart_0 rfl (lv_at hl 0 rfl) ?_
  refine lv_if_eq (tgt := 9) hx hb dX7_isPart_1 (by decide) (fun c_1 => ?_) (fun c_1 => ?_)
  · skip
    refine lv_iconst (v := 1) hx hb dX7_isPart_9 (by decide) ?_
    refine lv_goto (tgt := 14) hx hb dX7_isPart_10 (by decide) ?_
    exact q_retZ hQ hE hr hk hst () (rfl) (by simp [isJarB, b2i, c_1]) (trivial) (rfl) dX7_isPart_14
  · skip
    refine lv_iload_n hx hb dX7_isPart_4 rfl (lv_at hl 0 rfl) ?_
    refine lv_iconst (v := 1) hx hb dX7_isPart_5 (by decide) ?_
    refine lv_icmp_ne (tgt := 13) hx hb dX7_isPart_6 (by decide) (fun c_6 => ?_) (fun c_6 => ?_)
    · skip
      refine lv_iconst (v := 0) hx hb dX7_isPart_13 (by decide) ?_
      exact q_retZ hQ hE hr hk hst () (rfl) (by simp [isJarB, b2i, c_1, c_6]) (trivial) (rfl) dX7_isPart_14
    · skip
      refine lv_iconst (v := 1) hx hb dX7_isPart_9 (by decide) ?_
      refine lv_goto (tgt := 14) hx hb dX7_isPart_10 (by decide) ?_
      exact q_retZ hQ hE hr hk hst () (rfl) (by simp [isJarB, b2i, c_1, c_6]) (trivial) (rfl) dX7_isPart_14
set_option maxHeartbeats 4000000 in
set_option maxRecDepth 100000 in
theorem c_X7_isMonth (l : Launch) (D : va_G) (cI cJ cZ : ClassId) (p0 : Int32) : CtI l D cI cJ cZ yX7_isMonth cX7_isMonth 1 (some .boolean) 0 [.int p0] [] (fun (_ : Unit) => b2i (isMonthB p0)) (fun (_ : Unit) => True) (fun (_ : Unit) => []) := by
  refine q_entI (own := RX7) rfl rfl (Nat.le_of_ble_eq_true rfl) ?_
  intro p e s m args below meth c A ls QQ hQ hE hx hb hr hk hin hA hl hst
  have hl : lv_has ls 1 [(0, .int p0)] := hl
  refine lv_iload_n hx hb dX7_isMonth_0 rfl (lv_at hl 0 rfl) ?_
  refine lv_if_lt (tgt := 14) hx hb dX7_isMonth_1 (by decide) (fun c_1 => ?_) (fun c_1 => ?_)
  · skip
    refine lv_iconst (v := 0) hx hb dX7_isMonth_14 (by decide) ?_
    exact q_retZ hQ hE hr hk hst () (rfl) (by rw [isMonthB, decide_eq_true c_1]; rfl) (trivial) (rfl) dX7_isMonth_15
  · skip
    refine lv_iload_n hx hb dX7_isMonth_4 rfl (lv_at hl 0 rfl) ?_
    refine lv_bipush (v := 12) hx hb dX7_isMonth_5 (by decide) ?_
    refine lv_icmp_ge (tgt := 14) hx hb dX7_isMonth_7 (by decide) (fun c_7 => ?_) (fun c_7 => ?_)
    · skip
      refine lv_iconst (v := 0) hx hb dX7_isMonth_14 (by decide) ?_
      exact q_retZ hQ hE hr hk hst () (rfl) (by rw [isMonthB, decide_eq_false c_1, decide_eq_true c_7]; rfl) (trivial) (rfl) dX7_isMonth_15
    · skip
      refine lv_iconst (v := 1) hx hb dX7_isMonth_10 (by decide) ?_
      refine lv_goto (tgt := 15) hx hb dX7_isMonth_11 (by decide) ?_
      exact q_retZ hQ hE hr hk hst () (rfl) (by rw [isMonthB, decide_eq_false c_1, decide_eq_false c_7]; rfl) (trivial) (rfl) dX7_isMonth_15
set_option maxHeartbeats 4000000 in
set_option maxRecDepth 100000 in
theorem c_X7_isIn (l : Launch) (D : va_G) (cI cJ cZ : ClassId) (p0 : Int32) (p1 : Int32) (p2 : Int32) : CtI l D cI cJ cZ yX7_isIn cX7_isIn 3 (some .boolean) 0 [.int p0, .int p1, .int p2] [] (fun (_ : Unit) => b2i (inB p0 p1 p2)) (fun (_ : Unit) => True) (fun (_ : Unit) => []) := by
  refine q_entI (own := RX7) rfl rfl (Nat.le_of_ble_eq_true rfl) ?_
  intro p e s m args below meth c A ls QQ hQ hE hx hb hr hk hin hA hl hst
  have hl : lv_has ls 3 [(0, .int p0), (1, .int p1), (2, .int p2)] := hl
  refine lv_iload_n hx hb dX7_isIn_0 rfl (lv_at hl 0 rfl) ?_
  refine lv_iload_n hx hb dX7_isIn_1 rfl (lv_at hl 1 rfl) ?_
  refine lv_icmp_lt (tgt := 14) hx hb dX7_isIn_2 (by decide) (fun c_2 => ?_) (fun c_2 => ?_)
  · skip
    refine lv_iconst (v := 0) hx hb dX7_isIn_14 (by decide) ?_
    exact q_retZ hQ hE hr hk hst () (rfl) (by rw [inB, decide_eq_false (Int32.not_le.mpr c_2), Bool.false_and]; rfl) (trivial) (rfl) dX7_isIn_15
  · skip
    refine lv_iload_n hx hb dX7_isIn_5 rfl (lv_at hl 0 rfl) ?_
    refine lv_iload_n hx hb dX7_isIn_6 rfl (lv_at hl 2 rfl) ?_
    refine lv_icmp_gt (tgt := 14) hx hb dX7_isIn_7 (by decide) (fun c_7 => ?_) (fun c_7 => ?_)
    · skip
      refine lv_iconst (v := 0) hx hb dX7_isIn_14 (by decide) ?_
      exact q_retZ hQ hE hr hk hst () (rfl) (by rw [inB, decide_eq_true (Int32.not_lt.mp c_2), decide_eq_false (Int32.not_le.mpr c_7)]; rfl) (trivial) (rfl) dX7_isIn_15
    · skip
      refine lv_iconst (v := 1) hx hb dX7_isIn_10 (by decide) ?_
      refine lv_goto (tgt := 15) hx hb dX7_isIn_11 (by decide) ?_
      exact q_retZ hQ hE hr hk hst () (rfl) (by rw [inB, decide_eq_true (Int32.not_lt.mp c_2), decide_eq_true (Int32.not_lt.mp c_7)]; rfl) (trivial) (rfl) dX7_isIn_15
set_option maxHeartbeats 4000000 in
set_option maxRecDepth 100000 in
theorem c_X7_out (l : Launch) (D : va_G) (cI cJ cZ : ClassId) (p0 : Int32) (p1 : Int32) (p2 : Int32) : CtI l D cI cJ cZ yX7_out cX7_out 3 (some .int) 0 [.int p0, .int p1, .int p2] [] (fun (_ : Unit) => outI p0 p1 p2) (fun (_ : Unit) => True) (fun (_ : Unit) => []) := by
  refine q_entI (own := RX7) rfl rfl (Nat.le_of_ble_eq_true rfl) ?_
  intro p e s m args below meth c A ls QQ hQ hE hx hb hr hk hin hA hl hst
  have hl : lv_has ls 3 [(0, .int p0), (1, .int p1), (2, .int p2)] := hl
  refine lv_iload_n hx hb dX7_out_0 rfl (lv_at hl 0 rfl) ?_
  refine lv_iload_n hx hb dX7_out_1 rfl (lv_at hl 1 rfl) ?_
  refine lv_icmp_ge (tgt := 10) hx hb dX7_out_2 (by decide) (fun c_2 => ?_) (fun c_2 => ?_)
  · skip
    refine lv_iload_n hx hb dX7_out_10 rfl (lv_at hl 0 rfl) ?_
    refine lv_iload_n hx hb dX7_out_11 rfl (lv_at hl 2 rfl) ?_
    refine lv_icmp_le (tgt := 20) hx hb dX7_out_12 (by decide) (fun c_12 => ?_) (fun c_12 => ?_)
    · skip
      refine lv_iconst (v := 0) hx hb dX7_out_20 (by decide) ?_
      exact q_retI hQ hE hr hk hst () (by rw [outI, if_pos c_2, if_pos c_12]) (trivial) (rfl) dX7_out_21
    · skip
      refine lv_bipush (v := (-6)) hx hb dX7_out_15 (by decide) ?_
      refine lv_goto (tgt := 21) hx hb dX7_out_17 (by decide) ?_
      exact q_retI hQ hE hr hk hst () (by rw [outI, if_pos c_2, if_neg c_12]) (trivial) (rfl) dX7_out_21
  · skip
    refine lv_bipush (v := (-4)) hx hb dX7_out_5 (by decide) ?_
    refine lv_goto (tgt := 21) hx hb dX7_out_7 (by decide) ?_
    exact q_retI hQ hE hr hk hst () (by rw [outI, if_neg c_2]) (trivial) (rfl) dX7_out_21
set_option maxHeartbeats 4000000 in
set_option maxRecDepth 100000 in
theorem c_X7_no (l : Launch) (D : va_G) (cI cJ cZ : ClassId) (x : Nat) (xf : Nat) (xs : Nat) (xk : Nat) (xp : Nat) (xd : Nat) (xo : Nat) (xn : Nat) (xr : Nat) (xy : Nat) (xi : Nat) (xt : Nat) (xq : Nat) (xb : Nat) (xw : Nat) (xl : Nat) (xm : Nat) (xe : Nat) (zl : Int32) (zt : Int32) (za : Int32) (zm : Int32) (zc : Int32) (ze : Int32) (zh : Int32) (zi : Int32) (zq : Int32) (zu : Int64) (zv : Int64) (ru : Nat → Int32) (p0 : Int32) (hr7 : vp_in (-p0) 7) : CtI l D cI cJ cZ yX7_no cX7_no 2 (some .int) 0 [.ref x, .int p0] [(x, .inr (7, [.ref xf, .ref xs, .ref xk, .ref xp, .ref xd, .ref xo, .ref xn, .ref xr, .ref xy, .ref xi, .int zl, .long zu, .long zv, .ref xt, .ref xq, .ref xb, .ref xw, .ref xl, .ref xm, .int zt, .int za, .int zm, .int zc, .int ze, .ref xe, .int zh, .int zi, .int zq])), (xf, .inl (cI, 7, .inl ru))] (fun (_ : Unit) => p0) (fun (_ : Unit) => True) (fun (_ : Unit) => [(x, .inr (7, [.ref xf, .ref xs, .ref xk, .ref xp, .ref xd, .ref xo, .ref xn, .ref xr, .ref xy, .ref xi, .int zl, .long zu, .long zv, .ref xt, .ref xq, .ref xb, .ref xw, .ref xl, .ref xm, .int zt, .int za, .int zm, .int zc, .int ze, .ref xe, .int zh, .int zi, .int zq])), (xf, .inl (cI, 7, .inl (bmp ru p0)))]) := by
  refine q_entI (own := RX7) rfl rfl (Nat.le_of_ble_eq_true rfl) ?_
  intro p e s m args below meth c A ls QQ hQ hE hx hb hr hk hin hA hl hst
  have hl : lv_has ls 2 [(0, .ref x), (1, .int p0)] := hl
  refine lv_aload_n hx hb dX7_no_0 rfl (lv_at hl 0 rfl) ?_
  refine gf_X7_7 hE hst 0 rfl rfl dX7_no_1 ?_
  refine lv_iload_n hx hb dX7_no_4 rfl (lv_at hl 1 rfl) ?_
  refine lv_ineg hx hb dX7_no_5 ?_
  refine lv_dup2_11 hx hb dX7_no_6 rfl rfl ?_
  refine q_ald hE hst 1 rfl (hr7) dX7_no_7 ?_
  refine lv_iconst (v := 1) hx hb dX7_no_8 (by decide) ?_
  refine lv_iadd hx hb dX7_no_9 ?_
  refine q_ast hE hst 1 rfl (hr7) [(x, .inr (7, [.ref xf, .ref xs, .ref xk, .ref xp, .ref xd, .ref xo, .ref xn, .ref xr, .ref xy, .ref xi, .int zl, .long zu, .long zv, .ref xt, .ref xq, .ref xb, .ref xw, .ref xl, .ref xm, .int zt, .int za, .int zm, .int zc, .int ze, .ref xe, .int zh, .int zi, .int zq])), (xf, .inl (cI, 7, .inl (upd ru (-p0).toNatClampNeg ((ru (-p0).toNatClampNeg) + 1))))] rfl dX7_no_10 (fun H locs hst => ?_)
  refine lv_iload_n hx hb dX7_no_11 rfl (lv_at hl 1 rfl) ?_
  exact q_retI hQ hE hr hk hst () (rfl) (trivial) (rfl) dX7_no_12
set_option maxHeartbeats 4000000 in
set_option maxRecDepth 100000 in
theorem c_X7_noLong (l : Launch) (D : va_G) (cI cJ cZ : ClassId) (x : Nat) (xf : Nat) (xs : Nat) (xk : Nat) (xp : Nat) (xd : Nat) (xo : Nat) (xn : Nat) (xr : Nat) (xy : Nat) (xi : Nat) (xt : Nat) (xq : Nat) (xb : Nat) (xw : Nat) (xl : Nat) (xm : Nat) (xe : Nat) (zl : Int32) (zt : Int32) (za : Int32) (zm : Int32) (zc : Int32) (ze : Int32) (zh : Int32) (zi : Int32) (zq : Int32) (zu : Int64) (zv : Int64) (ru : Nat → Int32) (p0 : Int32) (hr7 : vp_in (-p0) 7) : CtL l D cI cJ cZ yX7_noLong cX7_noLong 2 (some .long) 0 [.ref x, .int p0] [(x, .inr (7, [.ref xf, .ref xs, .ref xk, .ref xp, .ref xd, .ref xo, .ref xn, .ref xr, .ref xy, .ref xi, .int zl, .long zu, .long zv, .ref xt, .ref xq, .ref xb, .ref xw, .ref xl, .ref xm, .int zt, .int za, .int zm, .int zc, .int ze, .ref xe, .int zh, .int zi, .int zq])), (xf, .inl (cI, 7, .inl ru))] (fun (_ : Unit) => lgR p0) (fun (_ : Unit) => True) (fun (_ : Unit) => [(x, .inr (7, [.ref xf, .ref xs, .ref xk, .ref xp, .ref xd, .ref xo, .ref xn, .ref xr, .ref xy, .ref xi, .int zl, .long zu, .long zv, .ref xt, .ref xq, .ref xb, .ref xw, .ref xl, .ref xm, .int zt, .int za, .int zm, .int zc, .int ze, .ref xe, .int zh, .int zi, .int zq])), (xf, .inl (cI, 7, .inl (bmp ru p0)))]) := by
  refine q_entL (own := RX7) rfl rfl (Nat.le_of_ble_eq_true rfl) ?_
  intro p e s m args below meth c A ls QQ hQ hE hx hb hr hk hin hA hl hst
  have hl : lv_has ls 2 [(0, .ref x), (1, .int p0)] := hl
  refine lv_aload_n hx hb dX7_noLong_0 rfl (lv_at hl 0 rfl) ?_
  refine gf_X7_7 hE hst 0 rfl rfl dX7_noLong_1 ?_
  refine lv_iload_n hx hb dX7_noLong_4 rfl (lv_at hl 1 rfl) ?_
  refine lv_ineg hx hb dX7_noLong_5 ?_
  refine lv_dup2_11 hx hb dX7_noLong_6 rfl rfl ?_
  refine q_ald hE hst 1 rfl (hr7) dX7_noLong_7 ?_
  refine lv_iconst (v := 1) hx hb dX7_noLong_8 (by decide) ?_
  refine lv_iadd hx hb dX7_noLong_9 ?_
  refine q_ast hE hst 1 rfl (hr7) [(x, .inr (7, [.ref xf, .ref xs, .ref xk, .ref xp, .ref xd, .ref xo, .ref xn, .ref xr, .ref xy, .ref xi, .int zl, .long zu, .long zv, .ref xt, .ref xq, .ref xb, .ref xw, .ref xl, .ref xm, .int zt, .int za, .int zm, .int zc, .int ze, .ref xe, .int zh, .int zi, .int zq])), (xf, .inl (cI, 7, .inl (upd ru (-p0).toNatClampNeg ((ru (-p0).toNatClampNeg) + 1))))] rfl dX7_noLong_10 (fun H locs hst => ?_)
  refine q_ldc2 hE wk_4_110 dX7_noLong_11 ?_
  refine lv_iload_n hx hb dX7_noLong_14 rfl (lv_at hl 1 rfl) ?_
  refine lv_i2l (v := p0.toInt64) hx hb dX7_noLong_15 rfl ?_
  refine lv_lsub hx hb dX7_noLong_16 ?_
  exact q_retL hQ hE hr hk hst () (rfl) (trivial) (rfl) dX7_noLong_17
set_option maxHeartbeats 4000000 in
set_option maxRecDepth 100000 in
theorem c_X7_lot (l : Launch) (D : va_G) (cI cJ cZ : ClassId) (x : Nat) (xf : Nat) (xs : Nat) (xk : Nat) (xp : Nat) (xd : Nat) (xo : Nat) (xn : Nat) (xr : Nat) (xy : Nat) (xi : Nat) (xt : Nat) (xq : Nat) (xb : Nat) (xw : Nat) (xl : Nat) (xm : Nat) (xe : Nat) (zl : Int32) (zt : Int32) (za : Int32) (zm : Int32) (zc : Int32) (ze : Int32) (zh : Int32) (zi : Int32) (zq : Int32) (zu : Int64) (zv : Int64) (n0 : Nat) (h1 : 1 ≤ n0) (h2 : n0 < 2147483648) : CtI l D cI cJ cZ yX7_lot cX7_lot 2 (some .int) 0 [.ref x, .int (nI n0)] [(x, .inr (7, [.ref xf, .ref xs, .ref xk, .ref xp, .ref xd, .ref xo, .ref xn, .ref xr, .ref xy, .ref xi, .int zl, .long zu, .long zv, .ref xt, .ref xq, .ref xb, .ref xw, .ref xl, .ref xm, .int zt, .int za, .int zm, .int zc, .int ze, .ref xe, .int zh, .int zi, .int zq]))] (fun (_ : Unit) => nI (lotN (nxt zl) n0)) (fun (_ : Unit) => True) (fun (_ : Unit) => [(x, .inr (7, [.ref xf, .ref xs, .ref xk, .ref xp, .ref xd, .ref xo, .ref xn, .ref xr, .ref xy, .ref xi, .int (nxt zl), .long zu, .long zv, .ref xt, .ref xq, .ref xb, .ref xw, .ref xl, .ref xm, .int zt, .int za, .int zm, .int zc, .int ze, .ref xe, .int zh, .int zi, .int zq]))]) := by
  refine q_entI (own := RX7) rfl rfl (Nat.le_of_ble_eq_true rfl) ?_
  intro p e s m args below meth c A ls QQ hQ hE hx hb hr hk hin hA hl hst
  have hl : lv_has ls 2 [(0, .ref x), (1, .int (nI n0))] := hl
  refine lv_aload_n hx hb dX7_lot_0 rfl (lv_at hl 0 rfl) ?_
  refine lv_aload_n hx hb dX7_lot_1 rfl (lv_at hl 0 rfl) ?_
  refine gf_X7_71 hE hst 0 rfl rfl dX7_lot_2 ?_
  refine q_ldc hE wk_4_85 dX7_lot_5 ?_
  refine lv_imul hx hb dX7_lot_7 ?_
  refine q_ldc hE wk_4_86 dX7_lot_8 ?_
  refine lv_iadd hx hb dX7_lot_10 ?_
  refine pf_X7_71 hE hst 0 rfl (rfl) (rfl) (Nat.le_of_ble_eq_true rfl) [(x, .inr (7, [.ref xf, .ref xs, .ref xk, .ref xp, .ref xd, .ref xo, .ref xn, .ref xr, .ref xy, .ref xi, .int ((zl * 1664525) + 1013904223), .long zu, .long zv, .ref xt, .ref xq, .ref xb, .ref xw, .ref xl, .ref xm, .int zt, .int za, .int zm, .int zc, .int ze, .ref xe, .int zh, .int zi, .int zq]))] rfl dX7_lot_11 (fun H locs hst => ?_)
  refine lv_aload_n hx hb dX7_lot_14 rfl (lv_at hl 0 rfl) ?_
  refine gf_X7_71 hE hst 0 rfl rfl dX7_lot_15 ?_
  refine q_ldc hE wk_4_87 dX7_lot_18 ?_
  refine lv_iand hx hb dX7_lot_20 ?_
  refine lv_sipush (v := 256) hx hb dX7_lot_21 (by decide) ?_
  refine lv_idiv hx hb dX7_lot_24 (by decide) ?_
  refine lv_iload_n hx hb dX7_lot_25 rfl (lv_at hl 1 rfl) ?_
  refine lv_irem hx hb dX7_lot_26 (nI_ne0 h1 h2) ?_
  exact q_retI hQ hE hr hk hst () (lot_ok _ h1 h2) (trivial) (rfl) dX7_lot_27
set_option maxHeartbeats 4000000 in
set_option maxRecDepth 100000 in
theorem c_X7_changes (l : Launch) (D : va_G) (cI cJ cZ : ClassId) (x : Nat) (xf : Nat) (xs : Nat) (xk : Nat) (xp : Nat) (xd : Nat) (xo : Nat) (xn : Nat) (xr : Nat) (xy : Nat) (xi : Nat) (xt : Nat) (xq : Nat) (xb : Nat) (xw : Nat) (xl : Nat) (xm : Nat) (xe : Nat) (zl : Int32) (zt : Int32) (za : Int32) (zm : Int32) (zc : Int32) (ze : Int32) (zh : Int32) (zi : Int32) (zq : Int32) (zu : Int64) (zv : Int64) (r : Nat → Nat) (i0 : Nat) (j0 : Nat) (hi : i0 < 366) (hj : j0 < 366) : CtV l D cI cJ cZ yX7_changes cX7_changes 4 none 0 0 0 [.ref x, .int (nI i0), .int (nI j0)] [(x, .inr (7, [.ref xf, .ref xs, .ref xk, .ref xp, .ref xd, .ref xo, .ref xn, .ref xr, .ref xy, .ref xi, .int zl, .long zu, .long zv, .ref xt, .ref xq, .ref xb, .ref xw, .ref xl, .ref xm, .int zt, .int za, .int zm, .int zc, .int ze, .ref xe, .int zh, .int zi, .int zq])), (xr, .inl (cI, 366, .inl (nR r)))] (fun (_ : Unit) => True) (fun (_ : Unit) => [(x, .inr (7, [.ref xf, .ref xs, .ref xk, .ref xp, .ref xd, .ref xo, .ref xn, .ref xr, .ref xy, .ref xi, .int zl, .long zu, .long zv, .ref xt, .ref xq, .ref xb, .ref xw, .ref xl, .ref xm, .int zt, .int za, .int zm, .int zc, .int ze, .ref xe, .int zh, .int zi, .int zq])), (xr, .inl (cI, 366, .inl (nR (swN r i0 j0))))]) := by
  refine q_entV (own := RX7) rfl rfl (Nat.le_of_ble_eq_true rfl) ?_
  intro p e s m args below meth c A ls QQ hQ hE hx hb hr hk hin hA hl hst
  have hl : lv_has ls 4 [(0, .ref x), (1, .int (nI i0)), (2, .int (nI j0))] := hl
  refine lv_aload_n hx hb dX7_changes_0 rfl (lv_at hl 0 rfl) ?_
  refine gf_X7_31 hE hst 0 rfl rfl dX7_changes_1 ?_
  refine lv_iload_n hx hb dX7_changes_4 rfl (lv_at hl 1 rfl) ?_
  refine q_aldN hE hst 1 rfl i0 (rfl) (hi) (by decide) dX7_changes_5 ?_
  refine lv_istore_n (lv' := [(3, .int ((nR r) i0)), (0, .ref x), (1, .int (nI i0)), (2, .int (nI j0))]) hx hb dX7_changes_6 rfl hl (by decide) rfl (fun ls hl => ?_)
  refine lv_aload_n hx hb dX7_changes_7 rfl (lv_at hl 1 rfl) ?_
  refine gf_X7_31 hE hst 0 rfl rfl dX7_changes_8 ?_
  refine lv_iload_n hx hb dX7_changes_11 rfl (lv_at hl 2 rfl) ?_
  refine lv_aload_n hx hb dX7_changes_12 rfl (lv_at hl 1 rfl) ?_
  refine gf_X7_31 hE hst 0 rfl rfl dX7_changes_13 ?_
  refine lv_iload_n hx hb dX7_changes_16 rfl (lv_at hl 3 rfl) ?_
  refine q_aldN hE hst 1 rfl j0 (rfl) (hj) (by decide) dX7_changes_17 ?_
  refine q_astN hE hst 1 rfl i0 (rfl) (hi) (by decide) [(x, .inr (7, [.ref xf, .ref xs, .ref xk, .ref xp, .ref xd, .ref xo, .ref xn, .ref xr, .ref xy, .ref xi, .int zl, .long zu, .long zv, .ref xt, .ref xq, .ref xb, .ref xw, .ref xl, .ref xm, .int zt, .int za, .int zm, .int zc, .int ze, .ref xe, .int zh, .int zi, .int zq])), (xr, .inl (cI, 366, .inl (upd (nR r) i0 ((nR r) j0))))] rfl dX7_changes_18 (fun H locs hst => ?_)
  refine lv_aload_n hx hb dX7_changes_19 rfl (lv_at hl 1 rfl) ?_
  refine gf_X7_31 hE hst 0 rfl rfl dX7_changes_20 ?_
  refine lv_iload_n hx hb dX7_changes_23 rfl (lv_at hl 3 rfl) ?_
  refine lv_iload_n hx hb dX7_changes_24 rfl (lv_at hl 0 rfl) ?_
  refine q_astN hE hst 1 rfl j0 (rfl) (hj) (by decide) [(x, .inr (7, [.ref xf, .ref xs, .ref xk, .ref xp, .ref xd, .ref xo, .ref xn, .ref xr, .ref xy, .ref xi, .int zl, .long zu, .long zv, .ref xt, .ref xq, .ref xb, .ref xw, .ref xl, .ref xm, .int zt, .int za, .int zm, .int zc, .int ze, .ref xe, .int zh, .int zi, .int zq])), (xr, .inl (cI, 366, .inl (upd (upd (nR r) i0 ((nR r) j0)) j0 ((nR r) i0))))] rfl dX7_changes_25 (fun H locs hst => ?_)
  have hst : SS D A s [(x, .inr (7, [.ref xf, .ref xs, .ref xk, .ref xp, .ref xd, .ref xo, .ref xn, .ref xr, .ref xy, .ref xi, .int zl, .long zu, .long zv, .ref xt, .ref xq, .ref xb, .ref xw, .ref xl, .ref xm, .int zt, .int za, .int zm, .int zc, .int ze, .ref xe, .int zh, .int zi, .int zq])), (xr, .inl (cI, 366, .inl (nR (swN r i0 j0))))] H locs := by have h := hst; rw [sw_up] at h; exact h
  exact q_retV hQ hE hr hk hst () (trivial) (rfl) dX7_changes_26
set_option maxHeartbeats 4000000 in
set_option maxRecDepth 100000 in
theorem c_X7_draws (l : Launch) (D : va_G) (cI cJ cZ : ClassId) (x : Nat) (xf : Nat) (xs : Nat) (xk : Nat) (xp : Nat) (xd : Nat) (xo : Nat) (xn : Nat) (xr : Nat) (xy : Nat) (xi : Nat) (xt : Nat) (xq : Nat) (xb : Nat) (xw : Nat) (xl : Nat) (xm : Nat) (xe : Nat) (zl : Int32) (zt : Int32) (za : Int32) (zm : Int32) (zc : Int32) (ze : Int32) (zh : Int32) (zi : Int32) (zq : Int32) (zu : Int64) (zv : Int64) (seF : Nat → Int32) (kF : Nat → Nat) (spF : Nat → Nat) (deF : Nat → Nat) (pF : Nat → Bool) (nm : Nat → Int32) (f : Nat → Int32) (dz : Nat → Int32) (j0 : Nat) (hj : j0 < 2) (hjo : joM kF spF deF) (hck : ckM seF kF spF deF pF nm dz) : CtV l D cI cJ cZ yX7_draws cX7_draws 6 none 1 0 0 [.ref x, .int (nI j0)] [(x, .inr (7, [.ref xf, .ref xs, .ref xk, .ref xp, .ref xd, .ref xo, .ref xn, .ref xr, .ref xy, .ref xi, .int zl, .long zu, .long zv, .ref xt, .ref xq, .ref xb, .ref xw, .ref xl, .ref xm, .int zt, .int za, .int zm, .int zc, .int ze, .ref xe, .int zh, .int zi, .int zq])), (xs, .inl (cI, 2, .inl seF)), (xk, .inl (cI, 2, .inl (nR kF))), (xp, .inl (cI, 2, .inl (nR spF))), (xd, .inl (cI, 2, .inl (nR deF))), (xo, .inl (cI, 2, .inl (bR pF))), (xn, .inl (cI, 732, .inl nm)), (xr, .inl (cI, 366, .inl f)), (xi, .inl (cZ, 2, .inl dz))] (fun (u : Int32 × (Nat → Int32) × (Nat → Int32) × (Nat → Int32)) => ckM seF kF spF deF pF u.2.1 u.2.2.2 ∧ u.2.2.2 j0 = 1) (fun (u : Int32 × (Nat → Int32) × (Nat → Int32) × (Nat → Int32)) => [(x, .inr (7, [.ref xf, .ref xs, .ref xk, .ref xp, .ref xd, .ref xo, .ref xn, .ref xr, .ref xy, .ref xi, .int u.1, .long zu, .long zv, .ref xt, .ref xq, .ref xb, .ref xw, .ref xl, .ref xm, .int zt, .int za, .int zm, .int zc, .int ze, .ref xe, .int zh, .int zi, .int zq])), (xs, .inl (cI, 2, .inl seF)), (xk, .inl (cI, 2, .inl (nR kF))), (xp, .inl (cI, 2, .inl (nR spF))), (xd, .inl (cI, 2, .inl (nR deF))), (xo, .inl (cI, 2, .inl (bR pF))), (xn, .inl (cI, 732, .inl u.2.1)), (xr, .inl (cI, 366, .inl u.2.2.1)), (xi, .inl (cZ, 2, .inl u.2.2.2))]) := by
  refine q_entV (own := RX7) rfl rfl (Nat.le_of_ble_eq_true rfl) ?_
  intro p e s m args below meth c A ls QQ hQ hE hx hb hr hk hin hA hl hst
  have hl : lv_has ls 6 [(0, .ref x), (1, .int (nI j0))] := hl
  obtain ⟨hj1, hj2, hj3, hj4⟩ := hjo j0 hj
  have loop_235 : ∀ (fu : Nat) (kq : Nat) (pl : Nat) (ab : Nat) (i : Nat), (kq < 366) → (pl + ab = 365 - kq) → (i ≤ ab) → (ab - i) < fu → ∀ (H : Heap) (locs : List Loc) (ls : Array Slot), SS D A s [(x, .inr (7, [.ref xf, .ref xs, .ref xk, .ref xp, .ref xd, .ref xo, .ref xn, .ref xr, .ref xy, .ref xi, .int ((drN (deF j0) (kq + 1) (jrX (seF j0) (kF j0) (spF j0) (pF j0))).2), .long zu, .long zv, .ref xt, .ref xq, .ref xb, .ref xw, .ref xl, .ref xm, .int zt, .int za, .int zm, .int zc, .int ze, .ref xe, .int zh, .int zi, .int zq])), (xs, .inl (cI, 2, .inl seF)), (xk, .inl (cI, 2, .inl (nR kF))), (xp, .inl (cI, 2, .inl (nR spF))), (xd, .inl (cI, 2, .inl (nR deF))), (xo, .inl (cI, 2, .inl (bR pF))), (xn, .inl (cI, 732, .inl (mgN nm j0 (deF j0) (jrX (seF j0) (kF j0) (spF j0) (pF j0)) (kq + 1)))), (xr, .inl (cI, 366, .inl (nR (clN (drN (deF j0) kq (jrX (seF j0) (kF j0) (spF j0) (pF j0))).1 pl i)))), (xi, .inl (cZ, 2, .inl (upd dz j0 1)))] H locs → lv_has ls 6 [(5, .int (nI (pl + i))), (3, .int (nI (366 - kq))), (2, .int (nI (kq + 1))), (0, .ref x), (1, .int (nI j0))] → (∀ (H : Heap) (locs : List Loc) (ls : Array Slot), SS D A s [(x, .inr (7, [.ref xf, .ref xs, .ref xk, .ref xp, .ref xd, .ref xo, .ref xn, .ref xr, .ref xy, .ref xi, .int ((drN (deF j0) (kq + 1) (jrX (seF j0) (kF j0) (spF j0) (pF j0))).2), .long zu, .long zv, .ref xt, .ref xq, .ref xb, .ref xw, .ref xl, .ref xm, .int zt, .int za, .int zm, .int zc, .int ze, .ref xe, .int zh, .int zi, .int zq])), (xs, .inl (cI, 2, .inl seF)), (xk, .inl (cI, 2, .inl (nR kF))), (xp, .inl (cI, 2, .inl (nR spF))), (xd, .inl (cI, 2, .inl (nR deF))), (xo, .inl (cI, 2, .inl (bR pF))), (xn, .inl (cI, 732, .inl (mgN nm j0 (deF j0) (jrX (seF j0) (kF j0) (spF j0) (pF j0)) (kq + 1)))), (xr, .inl (cI, 366, .inl (nR (clN (drN (deF j0) kq (jrX (seF j0) (kF j0) (spF j0) (pF j0))).1 pl ab)))), (xi, .inl (cZ, 2, .inl (upd dz j0 1)))] H locs → lv_has ls 6 [(2, .int (nI (kq + 1))), (0, .ref x), (1, .int (nI j0))] → W p l e (rmN 1 0 0) s m args below meth c H locs 0 0 QQ (F0 m 265 ls [])) → W p l e (rmN 1 0 0) s m args below meth c H locs 0 0 QQ (F0 m 235 ls []) := by
    intro fu
    induction fu with
    | zero =>
      intro kq pl ab i hk1 hab h1 hn
      exact absurd hn (Nat.not_lt_zero _)
    | succ fu ih =>
      intro kq pl ab i hk1 hab h1 hn H locs ls hst hl kk
      refine lv_iload hx hb dX7_draws_235 (lv_at hl 0 rfl) ?_
      refine lv_iload_n hx hb dX7_draws_237 rfl (lv_at hl 1 rfl) ?_
      refine lv_iconst (v := 1) hx hb dX7_draws_238 (by decide) ?_
      refine lv_isub hx hb dX7_draws_239 ?_
      refine q_top (x' := nI (365 - kq)) (by rw [show (1 : Int32) = nI 1 from rfl, pk_sub (by omega)]; congr 1; omega) ?_
      refine lv_icmp_ge (tgt := 265) hx hb dX7_draws_240 (by decide) (fun c_240 => ?_) (fun c_240 => ?_)
      · skip
        have hk2 : i = ab := by have := Nat.le_of_not_lt (fun z => nI_ge (a := pl + i) (b := 365 - kq) z (by omega) c_240); omega
        subst hk2
        exact kk _ _ _ (hst) (lv_sub hl [2, 3, 4] rfl)
      · skip
        have hk2 : i < ab := by have := Nat.lt_of_not_le (fun z => c_240 (nI_le (a := 365 - kq) (b := pl + i) z (by omega))); omega
        refine lv_aload_n hx hb dX7_draws_243 rfl (lv_at hl 3 rfl) ?_
        refine gf_X7_31 hE hst 0 rfl rfl dX7_draws_244 ?_
        refine lv_iload hx hb dX7_draws_247 (lv_at hl 0 rfl) ?_
        refine lv_aload_n hx hb dX7_draws_249 rfl (lv_at hl 3 rfl) ?_
        refine gf_X7_31 hE hst 0 rfl rfl dX7_draws_250 ?_
        refine lv_iload hx hb dX7_draws_253 (lv_at hl 0 rfl) ?_
        refine lv_iconst (v := 1) hx hb dX7_draws_255 (by decide) ?_
        refine lv_iadd hx hb dX7_draws_256 ?_
        refine q_aldN hE hst 7 rfl (pl + i + 1) (nI_1 _) (by omega) (by decide) dX7_draws_257 ?_
        refine q_astN hE hst 7 rfl (pl + i) (rfl) (by omega) (by decide) [(x, .inr (7, [.ref xf, .ref xs, .ref xk, .ref xp, .ref xd, .ref xo, .ref xn, .ref xr, .ref xy, .ref xi, .int ((drN (deF j0) (kq + 1) (jrX (seF j0) (kF j0) (spF j0) (pF j0))).2), .long zu, .long zv, .ref xt, .ref xq, .ref xb, .ref xw, .ref xl, .ref xm, .int zt, .int za, .int zm, .int zc, .int ze, .ref xe, .int zh, .int zi, .int zq])), (xs, .inl (cI, 2, .inl seF)), (xk, .inl (cI, 2, .inl (nR kF))), (xp, .inl (cI, 2, .inl (nR spF))), (xd, .inl (cI, 2, .inl (nR deF))), (xo, .inl (cI, 2, .inl (bR pF))), (xn, .inl (cI, 732, .inl (mgN nm j0 (deF j0) (jrX (seF j0) (kF j0) (spF j0) (pF j0)) (kq + 1)))), (xr, .inl (cI, 366, .inl (upd (nR (clN (drN (deF j0) kq (jrX (seF j0) (kF j0) (spF j0) (pF j0))).1 pl i)) (pl + i) ((nR (clN (drN (deF j0) kq (jrX (seF j0) (kF j0) (spF j0) (pF j0))).1 pl i)) (pl + i + 1))))), (xi, .inl (cZ, 2, .inl (upd dz j0 1)))] rfl dX7_draws_258 (fun H locs hst => ?_)
        have hst : SS D A s [(x, .inr (7, [.ref xf, .ref xs, .ref xk, .ref xp, .ref xd, .ref xo, .ref xn, .ref xr, .ref xy, .ref xi, .int ((drN (deF j0) (kq + 1) (jrX (seF j0) (kF j0) (spF j0) (pF j0))).2), .long zu, .long zv, .ref xt, .ref xq, .ref xb, .ref xw, .ref xl, .ref xm, .int zt, .int za, .int zm, .int zc, .int ze, .ref xe, .int zh, .int zi, .int zq])), (xs, .inl (cI, 2, .inl seF)), (xk, .inl (cI, 2, .inl (nR kF))), (xp, .inl (cI, 2, .inl (nR spF))), (xd, .inl (cI, 2, .inl (nR deF))), (xo, .inl (cI, 2, .inl (bR pF))), (xn, .inl (cI, 732, .inl (mgN nm j0 (deF j0) (jrX (seF j0) (kF j0) (spF j0) (pF j0)) (kq + 1)))), (xr, .inl (cI, 366, .inl (nR (clN (drN (deF j0) kq (jrX (seF j0) (kF j0) (spF j0) (pF j0))).1 pl (i + 1))))), (xi, .inl (cZ, 2, .inl (upd dz j0 1)))] H locs := by have h := hst; rw [cl_s] at h; exact h
        refine lv_iinc (v := nI (pl + (i + 1))) (lv' := [(5, .int (nI (pl + (i + 1)))), (3, .int (nI (366 - kq))), (2, .int (nI (kq + 1))), (0, .ref x), (1, .int (nI j0))]) hx hb dX7_draws_259 hl (k := 0) rfl (by rw [← Nat.add_assoc]; exact nI_next _) (by decide) rfl (fun ls hl => ?_)
        refine lv_goto (tgt := 235) hx hb dX7_draws_262 (by decide) ?_
        exact ih kq pl ab (i + 1) (hk1) (hab) (by omega) (by omega) _ _ _ (hst) (lv_sub hl [0, 1, 2, 3, 4] rfl) (kk)
  have loop_167 : ∀ (fu : Nat) (kq : Nat), (kq ≤ 366) → (366 - kq) < fu → ∀ (H : Heap) (locs : List Loc) (ls : Array Slot), SS D A s [(x, .inr (7, [.ref xf, .ref xs, .ref xk, .ref xp, .ref xd, .ref xo, .ref xn, .ref xr, .ref xy, .ref xi, .int ((drN (deF j0) kq (jrX (seF j0) (kF j0) (spF j0) (pF j0))).2), .long zu, .long zv, .ref xt, .ref xq, .ref xb, .ref xw, .ref xl, .ref xm, .int zt, .int za, .int zm, .int zc, .int ze, .ref xe, .int zh, .int zi, .int zq])), (xs, .inl (cI, 2, .inl seF)), (xk, .inl (cI, 2, .inl (nR kF))), (xp, .inl (cI, 2, .inl (nR spF))), (xd, .inl (cI, 2, .inl (nR deF))), (xo, .inl (cI, 2, .inl (bR pF))), (xn, .inl (cI, 732, .inl (mgN nm j0 (deF j0) (jrX (seF j0) (kF j0) (spF j0) (pF j0)) kq))), (xr, .inl (cI, 366, .inl (nR (drN (deF j0) kq (jrX (seF j0) (kF j0) (spF j0) (pF j0))).1))), (xi, .inl (cZ, 2, .inl (upd dz j0 1)))] H locs → lv_has ls 6 [(2, .int (nI (kq + 1))), (0, .ref x), (1, .int (nI j0))] → W p l e (rmN 1 0 0) s m args below meth c H locs 0 0 QQ (F0 m 167 ls []) := by
    intro fu
    induction fu with
    | zero =>
      intro kq h1 hn
      exact absurd hn (Nat.not_lt_zero _)
    | succ fu ih =>
      intro kq h1 hn H locs ls hst hl
      have hab : kq < 366 → abN (deF j0) kq (drN (deF j0) kq (jrX (seF j0) (kF j0) (spF j0) (pF j0))).2 < 366 - kq := fun q => (abN_lt _ hj3 q).1
      have hday : kq < 366 → dayN (deF j0) (jrX (seF j0) (kF j0) (spF j0) (pF j0)) kq < 366 := fun q => day_lt hj3 (rowOk_jr _ _ _ _) q
      refine lv_iload_n hx hb dX7_draws_167 rfl (lv_at hl 0 rfl) ?_
      refine lv_sipush (v := 366) hx hb dX7_draws_168 (by decide) ?_
      refine lv_icmp_gt (tgt := 271) hx hb dX7_draws_171 (by decide) (fun c_171 => ?_) (fun c_171 => ?_)
      · skip
        have hk1 : kq = 366 := by have := (nI_ltI (a := 366) (b := kq + 1) (by decide) (by omega)).mp c_171; omega
        subst hk1
        skip
        exact q_retV hQ hE hr hk hst ((drN (deF j0) 366 (jrX (seF j0) (kF j0) (spF j0) (pF j0))).2, mgN nm j0 (deF j0) (jrX (seF j0) (kF j0) (spF j0) (pF j0)) 366, nR (drN (deF j0) 366 (jrX (seF j0) (kF j0) (spF j0) (pF j0))).1, upd dz j0 1) (ck_dr hj hj3 hck) (rfl) dX7_draws_271
      · skip
        have hk1 : kq < 366 := by have := Nat.le_of_not_lt (fun z => c_171 (nI_lt (a := 366) (b := kq + 1) z (by omega))); omega
        replace hab := hab hk1
        replace hday := hday hk1
        refine lv_sipush (v := 366) hx hb dX7_draws_174 (by decide) ?_
        refine lv_iload_n hx hb dX7_draws_177 rfl (lv_at hl 0 rfl) ?_
        refine lv_isub hx hb dX7_draws_178 ?_
        refine lv_iconst (v := 1) hx hb dX7_draws_179 (by decide) ?_
        refine lv_iadd hx hb dX7_draws_180 ?_
        refine q_top (x' := nI (366 - kq)) (by rw [show (366 : Int32) = nI 366 from rfl, pk_sub (by omega), nI_1]; congr 1; omega) ?_
        refine lv_istore_n (lv' := [(3, .int (nI (366 - kq))), (2, .int (nI (kq + 1))), (0, .ref x), (1, .int (nI j0))]) hx hb dX7_draws_181 rfl hl (by decide) rfl (fun ls hl => ?_)
        refine lv_iload_n hx hb dX7_draws_182 rfl (lv_at hl 0 rfl) ?_
        refine lv_iconst (v := 1) hx hb dX7_draws_183 (by decide) ?_
        refine lv_isub hx hb dX7_draws_184 ?_
        refine lv_aload_n hx hb dX7_draws_185 rfl (lv_at hl 2 rfl) ?_
        suffices kJ : ∀ (H : Heap) (locs : List Loc), SS D A s [(x, .inr (7, [.ref xf, .ref xs, .ref xk, .ref xp, .ref xd, .ref xo, .ref xn, .ref xr, .ref xy, .ref xi, .int ((drN (deF j0) kq (jrX (seF j0) (kF j0) (spF j0) (pF j0))).2), .long zu, .long zv, .ref xt, .ref xq, .ref xb, .ref xw, .ref xl, .ref xm, .int zt, .int za, .int zm, .int zc, .int ze, .ref xe, .int zh, .int zi, .int zq])), (xs, .inl (cI, 2, .inl seF)), (xk, .inl (cI, 2, .inl (nR kF))), (xp, .inl (cI, 2, .inl (nR spF))), (xd, .inl (cI, 2, .inl (nR deF))), (xo, .inl (cI, 2, .inl (bR pF))), (xn, .inl (cI, 732, .inl (mgN nm j0 (deF j0) (jrX (seF j0) (kF j0) (spF j0) (pF j0)) kq))), (xr, .inl (cI, 366, .inl (nR (drN (deF j0) kq (jrX (seF j0) (kF j0) (spF j0) (pF j0))).1))), (xi, .inl (cZ, 2, .inl (upd dz j0 1)))] H locs → W p l e (rmN 1 0 0) s m args below meth c H locs 0 0 QQ (F0 m 206 ls [.int (nI (min (deF j0) (366 - kq))), .ref x, .int ((nI (366 - kq)) - 1)]) by
          refine lv_aload_n hx hb dX7_draws_186 rfl (lv_at hl 2 rfl) ?_
          refine gf_X7_22 hE hst 0 rfl rfl dX7_draws_187 ?_
          refine lv_iload_n hx hb dX7_draws_190 rfl (lv_at hl 3 rfl) ?_
          refine q_aldN hE hst 4 rfl j0 (rfl) (hj) (by decide) dX7_draws_191 ?_
          refine q_top (x' := nI (deF j0)) (rfl) ?_
          refine lv_iload_n hx hb dX7_draws_192 rfl (lv_at hl 0 rfl) ?_
          refine lv_icmp_ge (tgt := 205) hx hb dX7_draws_193 (by decide) (fun c_193 => ?_) (fun c_193 => ?_)
          · skip
            refine lv_iload_n hx hb dX7_draws_205 rfl (lv_at hl 0 rfl) ?_
            have kJ := kJ _ _ hst
            rw [show (nI (min (deF j0) (366 - kq))) = nI (366 - kq) from by rw [show min (deF j0) (366 - kq) = 366 - kq by have := (nI_leI (a := 366 - kq) (b := deF j0) (by omega) (by omega)).mp c_193; omega]] at kJ
            exact kJ
          · skip
            refine lv_aload_n hx hb dX7_draws_196 rfl (lv_at hl 2 rfl) ?_
            refine gf_X7_22 hE hst 0 rfl rfl dX7_draws_197 ?_
            refine lv_iload_n hx hb dX7_draws_200 rfl (lv_at hl 3 rfl) ?_
            refine q_aldN hE hst 4 rfl j0 (rfl) (hj) (by decide) dX7_draws_201 ?_
            refine lv_goto (tgt := 206) hx hb dX7_draws_202 (by decide) ?_
            have kJ := kJ _ _ hst
            rw [show (nI (min (deF j0) (366 - kq))) = (nR deF) j0 from by rw [show min (deF j0) (366 - kq) = deF j0 by have := Nat.lt_of_not_le (fun z => c_193 (nI_le (a := 366 - kq) (b := deF j0) z (by omega))); omega]; rfl] at kJ
            exact kJ
        intro H locs hst
        refine q_goI (q_rV hE lk_X7_85 (c_X7_lot l D cI cJ cZ x xf xs xk xp xd xo xn xr xy xi xt xq xb xw xl xm xe ((drN (deF j0) kq (jrX (seF j0) (kF j0) (spF j0) (pF j0))).2) zt za zm zc ze zh zi zq zu zv (min (deF j0) (366 - kq)) (by omega) (by omega) H.size) hst [0] rfl rfl rfl rfl rfl hl.1 ⟨(Nat.le_of_ble_eq_true rfl), (Nat.le_of_ble_eq_true rfl)⟩ (rest := [.int ((nI (366 - kq)) - 1)]) rfl (Nat.le_of_ble_eq_true rfl) dX7_draws_206 ⟨(Nat.le_of_ble_eq_true rfl), (Nat.le_of_ble_eq_true rfl)⟩) hE hst [0] rfl (fun _ => rfl) (fun (_ : Unit) => [(x, .inr (7, [.ref xf, .ref xs, .ref xk, .ref xp, .ref xd, .ref xo, .ref xn, .ref xr, .ref xy, .ref xi, .int (nxt ((drN (deF j0) kq (jrX (seF j0) (kF j0) (spF j0) (pF j0))).2)), .long zu, .long zv, .ref xt, .ref xq, .ref xb, .ref xw, .ref xl, .ref xm, .int zt, .int za, .int zm, .int zc, .int ze, .ref xe, .int zh, .int zi, .int zq])), (xs, .inl (cI, 2, .inl seF)), (xk, .inl (cI, 2, .inl (nR kF))), (xp, .inl (cI, 2, .inl (nR spF))), (xd, .inl (cI, 2, .inl (nR deF))), (xo, .inl (cI, 2, .inl (bR pF))), (xn, .inl (cI, 732, .inl (mgN nm j0 (deF j0) (jrX (seF j0) (kF j0) (spF j0) (pF j0)) kq))), (xr, .inl (cI, 366, .inl (nR (drN (deF j0) kq (jrX (seF j0) (kF j0) (spF j0) (pF j0))).1))), (xi, .inl (cZ, 2, .inl (upd dz j0 1)))]) (fun _ => rfl) (fun _ H locs hF hst => ?_)
        refine q_top (x' := nI (abN (deF j0) kq (drN (deF j0) kq (jrX (seF j0) (kF j0) (spF j0) (pF j0))).2)) (rfl) ?_
        refine lv_isub hx hb dX7_draws_209 ?_
        refine q_top (x' := nI (365 - kq - abN (deF j0) kq (drN (deF j0) kq (jrX (seF j0) (kF j0) (spF j0) (pF j0))).2)) (by rw [show (1 : Int32) = nI 1 from rfl, pk_sub (by omega), pk_sub (by omega)]; congr 1; omega) ?_
        refine lv_istore (lv' := [(4, .int (nI (365 - kq - abN (deF j0) kq (drN (deF j0) kq (jrX (seF j0) (kF j0) (spF j0) (pF j0))).2))), (3, .int (nI (366 - kq))), (2, .int (nI (kq + 1))), (0, .ref x), (1, .int (nI j0))]) hx hb dX7_draws_210 hl (by decide) rfl (fun ls hl => ?_)
        refine lv_aload_n hx hb dX7_draws_212 rfl (lv_at hl 3 rfl) ?_
        refine gf_X7_28 hE hst 0 rfl rfl dX7_draws_213 ?_
        refine lv_sipush (v := 366) hx hb dX7_draws_216 (by decide) ?_
        refine lv_iload_n hx hb dX7_draws_219 rfl (lv_at hl 4 rfl) ?_
        refine lv_imul hx hb dX7_draws_220 ?_
        refine lv_aload_n hx hb dX7_draws_221 rfl (lv_at hl 3 rfl) ?_
        refine gf_X7_31 hE hst 0 rfl rfl dX7_draws_222 ?_
        refine lv_iload hx hb dX7_draws_225 (lv_at hl 0 rfl) ?_
        refine q_aldN hE hst 7 rfl (365 - kq - abN (deF j0) kq (drN (deF j0) kq (jrX (seF j0) (kF j0) (spF j0) (pF j0))).2) (rfl) (by omega) (by decide) dX7_draws_227 ?_
        refine q_top (x' := nI (dayN (deF j0) (jrX (seF j0) (kF j0) (spF j0) (pF j0)) kq)) (rfl) ?_
        refine lv_iadd hx hb dX7_draws_228 ?_
        refine q_top (x' := nI (366 * j0 + dayN (deF j0) (jrX (seF j0) (kF j0) (spF j0) (pF j0)) kq)) (by rw [show (366 : Int32) = nI 366 from rfl, pk_mul, nI_add]) ?_
        refine lv_iload_n hx hb dX7_draws_229 rfl (lv_at hl 2 rfl) ?_
        refine q_astN hE hst 6 rfl (366 * j0 + dayN (deF j0) (jrX (seF j0) (kF j0) (spF j0) (pF j0)) kq) (rfl) (by omega) (by decide) [(x, .inr (7, [.ref xf, .ref xs, .ref xk, .ref xp, .ref xd, .ref xo, .ref xn, .ref xr, .ref xy, .ref xi, .int (nxt ((drN (deF j0) kq (jrX (seF j0) (kF j0) (spF j0) (pF j0))).2)), .long zu, .long zv, .ref xt, .ref xq, .ref xb, .ref xw, .ref xl, .ref xm, .int zt, .int za, .int zm, .int zc, .int ze, .ref xe, .int zh, .int zi, .int zq])), (xs, .inl (cI, 2, .inl seF)), (xk, .inl (cI, 2, .inl (nR kF))), (xp, .inl (cI, 2, .inl (nR spF))), (xd, .inl (cI, 2, .inl (nR deF))), (xo, .inl (cI, 2, .inl (bR pF))), (xn, .inl (cI, 732, .inl (upd (mgN nm j0 (deF j0) (jrX (seF j0) (kF j0) (spF j0) (pF j0)) kq) (366 * j0 + dayN (deF j0) (jrX (seF j0) (kF j0) (spF j0) (pF j0)) kq) (nI (kq + 1))))), (xr, .inl (cI, 366, .inl (nR (drN (deF j0) kq (jrX (seF j0) (kF j0) (spF j0) (pF j0))).1))), (xi, .inl (cZ, 2, .inl (upd dz j0 1)))] rfl dX7_draws_230 (fun H locs hst => ?_)
        have hst : SS D A s [(x, .inr (7, [.ref xf, .ref xs, .ref xk, .ref xp, .ref xd, .ref xo, .ref xn, .ref xr, .ref xy, .ref xi, .int (nxt (drN (deF j0) kq (jrX (seF j0) (kF j0) (spF j0) (pF j0))).2), .long zu, .long zv, .ref xt, .ref xq, .ref xb, .ref xw, .ref xl, .ref xm, .int zt, .int za, .int zm, .int zc, .int ze, .ref xe, .int zh, .int zi, .int zq])), (xs, .inl (cI, 2, .inl seF)), (xk, .inl (cI, 2, .inl (nR kF))), (xp, .inl (cI, 2, .inl (nR spF))), (xd, .inl (cI, 2, .inl (nR deF))), (xo, .inl (cI, 2, .inl (bR pF))), (xn, .inl (cI, 732, .inl (mgN nm j0 (deF j0) (jrX (seF j0) (kF j0) (spF j0) (pF j0)) (kq + 1)))), (xr, .inl (cI, 366, .inl (nR (drN (deF j0) kq (jrX (seF j0) (kF j0) (spF j0) (pF j0))).1))), (xi, .inl (cZ, 2, .inl (upd dz j0 1)))] H locs := by have h := hst; rw [mg_s nm j0 hday] at h; exact h
        refine lv_iload hx hb dX7_draws_231 (lv_at hl 0 rfl) ?_
        refine q_top (x' := nI (365 - kq - abN (deF j0) kq (drN (deF j0) kq (jrX (seF j0) (kF j0) (spF j0) (pF j0))).2 + 0)) (by rw [Nat.add_zero]) ?_
        refine lv_istore (lv' := [(5, .int (nI (365 - kq - abN (deF j0) kq (drN (deF j0) kq (jrX (seF j0) (kF j0) (spF j0) (pF j0))).2 + 0))), (4, .int (nI (365 - kq - abN (deF j0) kq (drN (deF j0) kq (jrX (seF j0) (kF j0) (spF j0) (pF j0))).2))), (3, .int (nI (366 - kq))), (2, .int (nI (kq + 1))), (0, .ref x), (1, .int (nI j0))]) hx hb dX7_draws_233 hl (by decide) rfl (fun ls hl => ?_)
        refine loop_235 (366) kq (365 - kq - abN (deF j0) kq (drN (deF j0) kq (jrX (seF j0) (kF j0) (spF j0) (pF j0))).2) (abN (deF j0) kq (drN (deF j0) kq (jrX (seF j0) (kF j0) (spF j0) (pF j0))).2) 0 (hk1) (by omega) (Nat.zero_le _) (by omega) _ _ _ (by rw [cl_0]; exact hst) (lv_sub hl [0, 2, 3, 4, 5] rfl) (fun H locs ls hst hl => ?_)
        refine lv_iinc (v := nI ((kq + 1) + 1)) (lv' := [(2, .int (nI ((kq + 1) + 1))), (0, .ref x), (1, .int (nI j0))]) hx hb dX7_draws_265 hl (k := 0) rfl (nI_next _) (by decide) rfl (fun ls hl => ?_)
        refine lv_goto (tgt := 167) hx hb dX7_draws_268 (by decide) ?_
        exact ih (kq + 1) (by omega) (by omega) _ _ _ (hst) (lv_sub hl [0, 1, 2] rfl)
  have loop_132 : ∀ (fu : Nat) (kq : Nat), (kq ≤ 183) → (pF j0 = false → kq = 0) → (183 - kq) < fu → ∀ (H : Heap) (locs : List Loc) (ls : Array Slot), SS D A s [(x, .inr (7, [.ref xf, .ref xs, .ref xk, .ref xp, .ref xd, .ref xo, .ref xn, .ref xr, .ref xy, .ref xi, .int ((shN (spF j0) (kF j0) (fun x => x, seF j0)).2), .long zu, .long zv, .ref xt, .ref xq, .ref xb, .ref xw, .ref xl, .ref xm, .int zt, .int za, .int zm, .int zc, .int ze, .ref xe, .int zh, .int zi, .int zq])), (xs, .inl (cI, 2, .inl seF)), (xk, .inl (cI, 2, .inl (nR kF))), (xp, .inl (cI, 2, .inl (nR spF))), (xd, .inl (cI, 2, .inl (nR deF))), (xo, .inl (cI, 2, .inl (bR pF))), (xn, .inl (cI, 732, .inl nm)), (xr, .inl (cI, 366, .inl (nR (trN kq (shN (spF j0) (kF j0) (fun x => x, seF j0)).1)))), (xi, .inl (cZ, 2, .inl (upd dz j0 1)))] H locs → lv_has ls 6 [(2, .int (nI kq)), (0, .ref x), (1, .int (nI j0))] → W p l e (rmN 1 0 0) s m args below meth c H locs 0 0 QQ (F0 m 132 ls []) := by
    intro fu
    induction fu with
    | zero =>
      intro kq h1 hpo hn
      exact absurd hn (Nat.not_lt_zero _)
    | succ fu ih =>
      intro kq h1 hpo hn H locs ls hst hl
      refine lv_iload_n hx hb dX7_draws_132 rfl (lv_at hl 0 rfl) ?_
      refine lv_sipush (v := 183) hx hb dX7_draws_133 (by decide) ?_
      refine lv_icmp_ge (tgt := 165) hx hb dX7_draws_136 (by decide) (fun c_136 => ?_) (fun c_136 => ?_)
      · skip
        have hk1 : kq = 183 := Nat.le_antisymm h1 (Nat.le_of_not_lt (fun z => nI_ge z (by decide) c_136))
        have hst : SS D A s [(x, .inr (7, [.ref xf, .ref xs, .ref xk, .ref xp, .ref xd, .ref xo, .ref xn, .ref xr, .ref xy, .ref xi, .int ((jrX (seF j0) (kF j0) (spF j0) (pF j0)).2), .long zu, .long zv, .ref xt, .ref xq, .ref xb, .ref xw, .ref xl, .ref xm, .int zt, .int za, .int zm, .int zc, .int ze, .ref xe, .int zh, .int zi, .int zq])), (xs, .inl (cI, 2, .inl seF)), (xk, .inl (cI, 2, .inl (nR kF))), (xp, .inl (cI, 2, .inl (nR spF))), (xd, .inl (cI, 2, .inl (nR deF))), (xo, .inl (cI, 2, .inl (bR pF))), (xn, .inl (cI, 732, .inl nm)), (xr, .inl (cI, 366, .inl (nR (jrX (seF j0) (kF j0) (spF j0) (pF j0)).1))), (xi, .inl (cZ, 2, .inl (upd dz j0 1)))] H locs := by have h := hst; rw [trJ (fun _ => hk1) hpo] at h; exact h
        refine lv_iconst (v := 1) hx hb dX7_draws_165 (by decide) ?_
        refine lv_istore_n (lv' := [(2, .int 1), (0, .ref x), (1, .int (nI j0))]) hx hb dX7_draws_166 rfl hl (by decide) rfl (fun ls hl => ?_)
        exact loop_167 (367) 0 (by decide) (by decide) _ _ _ (by rw [mg_0]; exact hst) (lv_sub hl [0, 1, 2] rfl)
      · skip
        have hk1 : kq < 183 := Nat.lt_of_not_le (fun z => c_136 (nI_le z (by omega)))
        refine lv_aload_n hx hb dX7_draws_139 rfl (lv_at hl 1 rfl) ?_
        refine gf_X7_25 hE hst 0 rfl rfl dX7_draws_140 ?_
        refine lv_iload_n hx hb dX7_draws_143 rfl (lv_at hl 2 rfl) ?_
        refine q_aldN hE hst 5 rfl j0 (rfl) (hj) (by decide) dX7_draws_144 ?_
        refine q_top (x' := b2i (pF j0)) (rfl) ?_
        refine lv_iconst (v := 1) hx hb dX7_draws_145 (by decide) ?_
        refine lv_icmp_ne (tgt := 165) hx hb dX7_draws_146 (by decide) (fun c_146 => ?_) (fun c_146 => ?_)
        · skip
          have hst : SS D A s [(x, .inr (7, [.ref xf, .ref xs, .ref xk, .ref xp, .ref xd, .ref xo, .ref xn, .ref xr, .ref xy, .ref xi, .int ((jrX (seF j0) (kF j0) (spF j0) (pF j0)).2), .long zu, .long zv, .ref xt, .ref xq, .ref xb, .ref xw, .ref xl, .ref xm, .int zt, .int za, .int zm, .int zc, .int ze, .ref xe, .int zh, .int zi, .int zq])), (xs, .inl (cI, 2, .inl seF)), (xk, .inl (cI, 2, .inl (nR kF))), (xp, .inl (cI, 2, .inl (nR spF))), (xd, .inl (cI, 2, .inl (nR deF))), (xo, .inl (cI, 2, .inl (bR pF))), (xn, .inl (cI, 732, .inl nm)), (xr, .inl (cI, 366, .inl (nR (jrX (seF j0) (kF j0) (spF j0) (pF j0)).1))), (xi, .inl (cZ, 2, .inl (upd dz j0 1)))] H locs := by have h := hst; rw [trJ (fun z => absurd (by rw [z]; rfl) c_146) hpo] at h; exact h
          refine lv_iconst (v := 1) hx hb dX7_draws_165 (by decide) ?_
          refine lv_istore_n (lv' := [(2, .int 1), (0, .ref x), (1, .int (nI j0))]) hx hb dX7_draws_166 rfl hl (by decide) rfl (fun ls hl => ?_)
          exact loop_167 (367) 0 (by decide) (by decide) _ _ _ (by rw [mg_0]; exact hst) (lv_sub hl [0, 1, 2] rfl)
        · skip
          refine lv_aload_n hx hb dX7_draws_149 rfl (lv_at hl 1 rfl) ?_
          refine lv_iload_n hx hb dX7_draws_150 rfl (lv_at hl 0 rfl) ?_
          refine lv_sipush (v := 365) hx hb dX7_draws_151 (by decide) ?_
          refine lv_iload_n hx hb dX7_draws_154 rfl (lv_at hl 0 rfl) ?_
          refine lv_isub hx hb dX7_draws_155 ?_
          refine q_top (x' := nI (365 - kq)) (by rw [show (365 : Int32) = nI 365 from rfl, pk_sub (by omega)]) ?_
          refine q_goV (q_rV hE lk_X7_88 (c_X7_changes l D cI cJ cZ x xf xs xk xp xd xo xn xr xy xi xt xq xb xw xl xm xe ((shN (spF j0) (kF j0) (fun x => x, seF j0)).2) zt za zm zc ze zh zi zq zu zv (trN kq (shN (spF j0) (kF j0) (fun x => x, seF j0)).1) kq (365 - kq) (by omega) (by omega) H.size) hst [0, 7] rfl rfl rfl rfl rfl hl.1 ⟨(Nat.le_of_ble_eq_true rfl), (Nat.le_of_ble_eq_true rfl)⟩ (rest := []) rfl (Nat.le_of_ble_eq_true rfl) dX7_draws_156 ⟨(Nat.le_of_ble_eq_true rfl), (Nat.le_of_ble_eq_true rfl)⟩) hE hst [0, 7] rfl (fun _ => rfl) (fun (_ : Unit) => [(x, .inr (7, [.ref xf, .ref xs, .ref xk, .ref xp, .ref xd, .ref xo, .ref xn, .ref xr, .ref xy, .ref xi, .int ((shN (spF j0) (kF j0) (fun x => x, seF j0)).2), .long zu, .long zv, .ref xt, .ref xq, .ref xb, .ref xw, .ref xl, .ref xm, .int zt, .int za, .int zm, .int zc, .int ze, .ref xe, .int zh, .int zi, .int zq])), (xs, .inl (cI, 2, .inl seF)), (xk, .inl (cI, 2, .inl (nR kF))), (xp, .inl (cI, 2, .inl (nR spF))), (xd, .inl (cI, 2, .inl (nR deF))), (xo, .inl (cI, 2, .inl (bR pF))), (xn, .inl (cI, 732, .inl nm)), (xr, .inl (cI, 366, .inl (nR (swN (trN kq (shN (spF j0) (kF j0) (fun x => x, seF j0)).1) kq (365 - kq))))), (xi, .inl (cZ, 2, .inl (upd dz j0 1)))]) (fun _ => rfl) (fun _ H locs hF hst => ?_)
          refine lv_iinc (v := nI (kq + 1)) (lv' := [(2, .int (nI (kq + 1))), (0, .ref x), (1, .int (nI j0))]) hx hb dX7_draws_159 hl (k := 0) rfl (nI_next _) (by decide) rfl (fun ls hl => ?_)
          refine lv_goto (tgt := 132) hx hb dX7_draws_162 (by decide) ?_
          exact ih (kq + 1) (by omega) (fun z => by rw [z] at c_146; exact absurd c_146 (by decide)) (by omega) _ _ _ (hst) (lv_sub hl [0, 1, 2] rfl)
  have loop_51 : ∀ (fu : Nat) (kq : Nat), (kq ≤ kF j0) → (kF j0 - kq) < fu → ∀ (H : Heap) (locs : List Loc) (ls : Array Slot), SS D A s [(x, .inr (7, [.ref xf, .ref xs, .ref xk, .ref xp, .ref xd, .ref xo, .ref xn, .ref xr, .ref xy, .ref xi, .int ((shN (spF j0) kq (fun x => x, seF j0)).2), .long zu, .long zv, .ref xt, .ref xq, .ref xb, .ref xw, .ref xl, .ref xm, .int zt, .int za, .int zm, .int zc, .int ze, .ref xe, .int zh, .int zi, .int zq])), (xs, .inl (cI, 2, .inl seF)), (xk, .inl (cI, 2, .inl (nR kF))), (xp, .inl (cI, 2, .inl (nR spF))), (xd, .inl (cI, 2, .inl (nR deF))), (xo, .inl (cI, 2, .inl (bR pF))), (xn, .inl (cI, 732, .inl nm)), (xr, .inl (cI, 366, .inl (nR (shN (spF j0) kq (fun x => x, seF j0)).1))), (xi, .inl (cZ, 2, .inl (upd dz j0 1)))] H locs → lv_has ls 6 [(2, .int (nI kq)), (0, .ref x), (1, .int (nI j0))] → W p l e (rmN 1 0 0) s m args below meth c H locs 0 0 QQ (F0 m 51 ls []) := by
    intro fu
    induction fu with
    | zero =>
      intro kq h1 hn
      exact absurd hn (Nat.not_lt_zero _)
    | succ fu ih =>
      intro kq h1 hn H locs ls hst hl
      refine lv_iload_n hx hb dX7_draws_51 rfl (lv_at hl 0 rfl) ?_
      refine lv_aload_n hx hb dX7_draws_52 rfl (lv_at hl 1 rfl) ?_
      refine gf_X7_16 hE hst 0 rfl rfl dX7_draws_53 ?_
      refine lv_iload_n hx hb dX7_draws_56 rfl (lv_at hl 2 rfl) ?_
      refine q_aldN hE hst 2 rfl j0 (rfl) (hj) (by decide) dX7_draws_57 ?_
      refine q_top (x' := nI (kF j0)) (rfl) ?_
      refine lv_icmp_ge (tgt := 130) hx hb dX7_draws_58 (by decide) (fun c_58 => ?_) (fun c_58 => ?_)
      · skip
        have hk1 : kq = kF j0 := Nat.le_antisymm h1 (Nat.le_of_not_lt (fun z => nI_ge z (by omega) c_58))
        subst hk1
        skip
        refine lv_iconst (v := 0) hx hb dX7_draws_130 (by decide) ?_
        refine lv_istore_n (lv' := [(2, .int 0), (0, .ref x), (1, .int (nI j0))]) hx hb dX7_draws_131 rfl hl (by decide) rfl (fun ls hl => ?_)
        exact loop_132 (184) 0 (by decide) (fun _ => rfl) (by decide) _ _ _ (hst) (lv_sub hl [0, 1, 2] rfl)
      · skip
        have hk1 : kq < kF j0 := Nat.lt_of_not_le (fun z => c_58 (nI_le z (by omega)))
        refine lv_aload_n hx hb dX7_draws_61 rfl (lv_at hl 1 rfl) ?_
        refine lv_sipush (v := 366) hx hb dX7_draws_62 (by decide) ?_
        refine q_goI (q_rV hE lk_X7_85 (c_X7_lot l D cI cJ cZ x xf xs xk xp xd xo xn xr xy xi xt xq xb xw xl xm xe ((shN (spF j0) kq (fun x => x, seF j0)).2) zt za zm zc ze zh zi zq zu zv 366 (by first | assumption | decide | omega) (by first | assumption | decide | omega) H.size) hst [0] rfl rfl rfl rfl rfl hl.1 ⟨(Nat.le_of_ble_eq_true rfl), (Nat.le_of_ble_eq_true rfl)⟩ (rest := []) rfl (Nat.le_of_ble_eq_true rfl) dX7_draws_65 ⟨(Nat.le_of_ble_eq_true rfl), (Nat.le_of_ble_eq_true rfl)⟩) hE hst [0] rfl (fun _ => rfl) (fun (_ : Unit) => [(x, .inr (7, [.ref xf, .ref xs, .ref xk, .ref xp, .ref xd, .ref xo, .ref xn, .ref xr, .ref xy, .ref xi, .int (nxt ((shN (spF j0) kq (fun x => x, seF j0)).2)), .long zu, .long zv, .ref xt, .ref xq, .ref xb, .ref xw, .ref xl, .ref xm, .int zt, .int za, .int zm, .int zc, .int ze, .ref xe, .int zh, .int zi, .int zq])), (xs, .inl (cI, 2, .inl seF)), (xk, .inl (cI, 2, .inl (nR kF))), (xp, .inl (cI, 2, .inl (nR spF))), (xd, .inl (cI, 2, .inl (nR deF))), (xo, .inl (cI, 2, .inl (bR pF))), (xn, .inl (cI, 732, .inl nm)), (xr, .inl (cI, 366, .inl (nR (shN (spF j0) kq (fun x => x, seF j0)).1))), (xi, .inl (cZ, 2, .inl (upd dz j0 1)))]) (fun _ => rfl) (fun _ H locs hF hst => ?_)
        refine lv_istore_n (lv' := [(3, .int (nI (lotN (nxt ((shN (spF j0) kq (fun x => x, seF j0)).2)) 366))), (2, .int (nI kq)), (0, .ref x), (1, .int (nI j0))]) hx hb dX7_draws_68 rfl hl (by decide) rfl (fun ls hl => ?_)
        refine lv_iload_n hx hb dX7_draws_69 rfl (lv_at hl 0 rfl) ?_
        refine lv_aload_n hx hb dX7_draws_70 rfl (lv_at hl 2 rfl) ?_
        refine lv_iconst (v := 2) hx hb dX7_draws_71 (by decide) ?_
        refine lv_aload_n hx hb dX7_draws_72 rfl (lv_at hl 2 rfl) ?_
        refine gf_X7_19 hE hst 0 rfl rfl dX7_draws_73 ?_
        refine lv_iload_n hx hb dX7_draws_76 rfl (lv_at hl 3 rfl) ?_
        refine q_aldN hE hst 3 rfl j0 (rfl) (hj) (by decide) dX7_draws_77 ?_
        refine lv_imul hx hb dX7_draws_78 ?_
        refine lv_iconst (v := 1) hx hb dX7_draws_79 (by decide) ?_
        refine lv_iadd hx hb dX7_draws_80 ?_
        refine q_top (x' := nI (2 * spF j0 + 1)) (by rw [show (2 : Int32) = nI 2 from rfl, show nR spF j0 = nI (spF j0) from rfl, pk_mul, nI_1]) ?_
        refine q_goI (q_rV hE lk_X7_85 (c_X7_lot l D cI cJ cZ x xf xs xk xp xd xo xn xr xy xi xt xq xb xw xl xm xe (nxt ((shN (spF j0) kq (fun x => x, seF j0)).2)) zt za zm zc ze zh zi zq zu zv (2 * spF j0 + 1) (by omega) (by omega) H.size) hst [0] rfl rfl rfl rfl rfl hl.1 ⟨(Nat.le_of_ble_eq_true rfl), (Nat.le_of_ble_eq_true rfl)⟩ (rest := [.int (nI (lotN (nxt ((shN (spF j0) kq (fun x => x, seF j0)).2)) 366))]) rfl (Nat.le_of_ble_eq_true rfl) dX7_draws_81 ⟨(Nat.le_of_ble_eq_true rfl), (Nat.le_of_ble_eq_true rfl)⟩) hE hst [0] rfl (fun _ => rfl) (fun (_ : Unit) => [(x, .inr (7, [.ref xf, .ref xs, .ref xk, .ref xp, .ref xd, .ref xo, .ref xn, .ref xr, .ref xy, .ref xi, .int (nxt (nxt ((shN (spF j0) kq (fun x => x, seF j0)).2))), .long zu, .long zv, .ref xt, .ref xq, .ref xb, .ref xw, .ref xl, .ref xm, .int zt, .int za, .int zm, .int zc, .int ze, .ref xe, .int zh, .int zi, .int zq])), (xs, .inl (cI, 2, .inl seF)), (xk, .inl (cI, 2, .inl (nR kF))), (xp, .inl (cI, 2, .inl (nR spF))), (xd, .inl (cI, 2, .inl (nR deF))), (xo, .inl (cI, 2, .inl (bR pF))), (xn, .inl (cI, 732, .inl nm)), (xr, .inl (cI, 366, .inl (nR (shN (spF j0) kq (fun x => x, seF j0)).1))), (xi, .inl (cZ, 2, .inl (upd dz j0 1)))]) (fun _ => rfl) (fun _ H locs hF hst => ?_)
        refine lv_iadd hx hb dX7_draws_84 ?_
        refine lv_aload_n hx hb dX7_draws_85 rfl (lv_at hl 2 rfl) ?_
        refine gf_X7_19 hE hst 0 rfl rfl dX7_draws_86 ?_
        refine lv_iload_n hx hb dX7_draws_89 rfl (lv_at hl 3 rfl) ?_
        refine q_aldN hE hst 3 rfl j0 (rfl) (hj) (by decide) dX7_draws_90 ?_
        refine lv_isub hx hb dX7_draws_91 ?_
        refine lv_istore (lv' := [(4, .int (((nI (lotN (nxt ((shN (spF j0) kq (fun x => x, seF j0)).2)) 366)) + (nI (lotN (nxt (nxt ((shN (spF j0) kq (fun x => x, seF j0)).2))) (2 * spF j0 + 1)))) - ((nR spF) j0))), (3, .int (nI (lotN (nxt ((shN (spF j0) kq (fun x => x, seF j0)).2)) 366))), (2, .int (nI kq)), (0, .ref x), (1, .int (nI j0))]) hx hb dX7_draws_92 hl (by decide) rfl (fun ls hl => ?_)
        refine lv_aload_n hx hb dX7_draws_94 rfl (lv_at hl 3 rfl) ?_
        refine lv_iload_n hx hb dX7_draws_95 rfl (lv_at hl 1 rfl) ?_
        suffices kJ : ∀ (H : Heap) (locs : List Loc), SS D A s [(x, .inr (7, [.ref xf, .ref xs, .ref xk, .ref xp, .ref xd, .ref xo, .ref xn, .ref xr, .ref xy, .ref xi, .int (nxt (nxt ((shN (spF j0) kq (fun x => x, seF j0)).2))), .long zu, .long zv, .ref xt, .ref xq, .ref xb, .ref xw, .ref xl, .ref xm, .int zt, .int za, .int zm, .int zc, .int ze, .ref xe, .int zh, .int zi, .int zq])), (xs, .inl (cI, 2, .inl seF)), (xk, .inl (cI, 2, .inl (nR kF))), (xp, .inl (cI, 2, .inl (nR spF))), (xd, .inl (cI, 2, .inl (nR deF))), (xo, .inl (cI, 2, .inl (bR pF))), (xn, .inl (cI, 732, .inl nm)), (xr, .inl (cI, 366, .inl (nR (shN (spF j0) kq (fun x => x, seF j0)).1))), (xi, .inl (cZ, 2, .inl (upd dz j0 1)))] H locs → W p l e (rmN 1 0 0) s m args below meth c H locs 0 0 QQ (F0 m 121 ls [.int (nI (shB (spF j0) (shN (spF j0) kq (fun x => x, seF j0)).2)), .int (nI (lotN (nxt ((shN (spF j0) kq (fun x => x, seF j0)).2)) 366)), .ref x]) by
          refine lv_iload hx hb dX7_draws_96 (lv_at hl 0 rfl) ?_
          refine lv_if_ge (tgt := 105) hx hb dX7_draws_98 (by decide) (fun c_98 => ?_) (fun c_98 => ?_)
          · skip
            refine lv_iload hx hb dX7_draws_105 (lv_at hl 0 rfl) ?_
            refine lv_sipush (v := 366) hx hb dX7_draws_107 (by decide) ?_
            refine lv_icmp_lt (tgt := 119) hx hb dX7_draws_110 (by decide) (fun c_110 => ?_) (fun c_110 => ?_)
            · skip
              refine lv_iload hx hb dX7_draws_119 (lv_at hl 0 rfl) ?_
              have kJ := kJ _ _ hst
              rw [show (nI (shB (spF j0) (shN (spF j0) kq (fun x => x, seF j0)).2)) = ((nI (lotN (nxt ((shN (spF j0) kq (fun x => x, seF j0)).2)) 366)) + (nI (lotN (nxt (nxt ((shN (spF j0) kq (fun x => x, seF j0)).2))) (2 * spF j0 + 1)))) - ((nR spF) j0) from clm_1 (lotN_lt _ (by decide)) (Nat.lt_of_lt_of_le (lotN_lt _ (by omega)) (by omega : 2 * spF j0 + 1 ≤ 732)) (by omega) c_98 c_110] at kJ
              exact kJ
            · skip
              refine lv_sipush (v := 365) hx hb dX7_draws_113 (by decide) ?_
              refine lv_goto (tgt := 121) hx hb dX7_draws_116 (by decide) ?_
              have kJ := kJ _ _ hst
              rw [show (nI (shB (spF j0) (shN (spF j0) kq (fun x => x, seF j0)).2)) = 365 from clm_2 (lotN_lt _ (by decide)) (Nat.lt_of_lt_of_le (lotN_lt _ (by omega)) (by omega : 2 * spF j0 + 1 ≤ 732)) (by omega) c_110] at kJ
              exact kJ
          · skip
            refine lv_iconst (v := 0) hx hb dX7_draws_101 (by decide) ?_
            refine lv_goto (tgt := 121) hx hb dX7_draws_102 (by decide) ?_
            have kJ := kJ _ _ hst
            rw [show (nI (shB (spF j0) (shN (spF j0) kq (fun x => x, seF j0)).2)) = 0 from clm_0 (lotN_lt _ (by decide)) (Nat.lt_of_lt_of_le (lotN_lt _ (by omega)) (by omega : 2 * spF j0 + 1 ≤ 732)) (by omega) c_98] at kJ
            exact kJ
        intro H locs hst
        refine q_goV (q_rV hE lk_X7_88 (c_X7_changes l D cI cJ cZ x xf xs xk xp xd xo xn xr xy xi xt xq xb xw xl xm xe (nxt (nxt ((shN (spF j0) kq (fun x => x, seF j0)).2))) zt za zm zc ze zh zi zq zu zv ((shN (spF j0) kq (fun x => x, seF j0)).1) (lotN (nxt (shN (spF j0) kq (fun x => x, seF j0)).2) 366) (shB (spF j0) (shN (spF j0) kq (fun x => x, seF j0)).2) (lotN_lt _ (by decide)) (shB_lt _ _) H.size) hst [0, 7] rfl rfl rfl rfl rfl hl.1 ⟨(Nat.le_of_ble_eq_true rfl), (Nat.le_of_ble_eq_true rfl)⟩ (rest := []) rfl (Nat.le_of_ble_eq_true rfl) dX7_draws_121 ⟨(Nat.le_of_ble_eq_true rfl), (Nat.le_of_ble_eq_true rfl)⟩) hE hst [0, 7] rfl (fun _ => rfl) (fun (_ : Unit) => [(x, .inr (7, [.ref xf, .ref xs, .ref xk, .ref xp, .ref xd, .ref xo, .ref xn, .ref xr, .ref xy, .ref xi, .int (nxt (nxt ((shN (spF j0) kq (fun x => x, seF j0)).2))), .long zu, .long zv, .ref xt, .ref xq, .ref xb, .ref xw, .ref xl, .ref xm, .int zt, .int za, .int zm, .int zc, .int ze, .ref xe, .int zh, .int zi, .int zq])), (xs, .inl (cI, 2, .inl seF)), (xk, .inl (cI, 2, .inl (nR kF))), (xp, .inl (cI, 2, .inl (nR spF))), (xd, .inl (cI, 2, .inl (nR deF))), (xo, .inl (cI, 2, .inl (bR pF))), (xn, .inl (cI, 732, .inl nm)), (xr, .inl (cI, 366, .inl (nR (swN ((shN (spF j0) kq (fun x => x, seF j0)).1) (lotN (nxt (shN (spF j0) kq (fun x => x, seF j0)).2) 366) (shB (spF j0) (shN (spF j0) kq (fun x => x, seF j0)).2))))), (xi, .inl (cZ, 2, .inl (upd dz j0 1)))]) (fun _ => rfl) (fun _ H locs hF hst => ?_)
        refine lv_iinc (v := nI (kq + 1)) (lv' := [(2, .int (nI (kq + 1))), (4, .int (((nI (lotN (nxt ((shN (spF j0) kq (fun x => x, seF j0)).2)) 366)) + (nI (lotN (nxt (nxt ((shN (spF j0) kq (fun x => x, seF j0)).2))) (2 * spF j0 + 1)))) - ((nR spF) j0))), (3, .int (nI (lotN (nxt ((shN (spF j0) kq (fun x => x, seF j0)).2)) 366))), (0, .ref x), (1, .int (nI j0))]) hx hb dX7_draws_124 hl (k := 2) rfl (nI_next _) (by decide) rfl (fun ls hl => ?_)
        refine lv_goto (tgt := 51) hx hb dX7_draws_127 (by decide) ?_
        exact ih (kq + 1) (by omega) (by omega) _ _ _ (hst) (lv_sub hl [0, 3, 4] rfl)
  have loop_29 : ∀ (fu : Nat) (kq : Nat), (kq ≤ 366) → (366 - kq) < fu → ∀ (H : Heap) (locs : List Loc) (ls : Array Slot), SS D A s [(x, .inr (7, [.ref xf, .ref xs, .ref xk, .ref xp, .ref xd, .ref xo, .ref xn, .ref xr, .ref xy, .ref xi, .int (seF j0), .long zu, .long zv, .ref xt, .ref xq, .ref xb, .ref xw, .ref xl, .ref xm, .int zt, .int za, .int zm, .int zc, .int ze, .ref xe, .int zh, .int zi, .int zq])), (xs, .inl (cI, 2, .inl seF)), (xk, .inl (cI, 2, .inl (nR kF))), (xp, .inl (cI, 2, .inl (nR spF))), (xd, .inl (cI, 2, .inl (nR deF))), (xo, .inl (cI, 2, .inl (bR pF))), (xn, .inl (cI, 732, .inl nm)), (xr, .inl (cI, 366, .inl (layK f kq))), (xi, .inl (cZ, 2, .inl (upd dz j0 1)))] H locs → lv_has ls 6 [(2, .int (nI kq)), (0, .ref x), (1, .int (nI j0))] → W p l e (rmN 1 0 0) s m args below meth c H locs 0 0 QQ (F0 m 29 ls []) := by
    intro fu
    induction fu with
    | zero =>
      intro kq h1 hn
      exact absurd hn (Nat.not_lt_zero _)
    | succ fu ih =>
      intro kq h1 hn H locs ls hst hl
      refine lv_iload_n hx hb dX7_draws_29 rfl (lv_at hl 0 rfl) ?_
      refine lv_sipush (v := 366) hx hb dX7_draws_30 (by decide) ?_
      refine lv_icmp_ge (tgt := 49) hx hb dX7_draws_33 (by decide) (fun c_33 => ?_) (fun c_33 => ?_)
      · skip
        have hk1 : kq = 366 := Nat.le_antisymm h1 (Nat.le_of_not_lt (fun z => nI_ge z (by decide) c_33))
        subst hk1
        have hst : SS D A s [(x, .inr (7, [.ref xf, .ref xs, .ref xk, .ref xp, .ref xd, .ref xo, .ref xn, .ref xr, .ref xy, .ref xi, .int (seF j0), .long zu, .long zv, .ref xt, .ref xq, .ref xb, .ref xw, .ref xl, .ref xm, .int zt, .int za, .int zm, .int zc, .int ze, .ref xe, .int zh, .int zi, .int zq])), (xs, .inl (cI, 2, .inl seF)), (xk, .inl (cI, 2, .inl (nR kF))), (xp, .inl (cI, 2, .inl (nR spF))), (xd, .inl (cI, 2, .inl (nR deF))), (xo, .inl (cI, 2, .inl (bR pF))), (xn, .inl (cI, 732, .inl nm)), (xr, .inl (cI, 366, .inl (nR (fun x => x)))), (xi, .inl (cZ, 2, .inl (upd dz j0 1)))] H locs := q_arr hst 7 rfl (layK_all f) _ rfl
        refine lv_iconst (v := 0) hx hb dX7_draws_49 (by decide) ?_
        refine lv_istore_n (lv' := [(2, .int 0), (0, .ref x), (1, .int (nI j0))]) hx hb dX7_draws_50 rfl hl (by decide) rfl (fun ls hl => ?_)
        exact loop_51 (kF j0 + 1) 0 (Nat.zero_le _) (by omega) _ _ _ (hst) (lv_sub hl [0, 1, 2] rfl)
      · skip
        have hk1 : kq < 366 := Nat.lt_of_not_le (fun z => c_33 (nI_le z (by omega)))
        refine lv_aload_n hx hb dX7_draws_36 rfl (lv_at hl 1 rfl) ?_
        refine gf_X7_31 hE hst 0 rfl rfl dX7_draws_37 ?_
        refine lv_iload_n hx hb dX7_draws_40 rfl (lv_at hl 0 rfl) ?_
        refine lv_iload_n hx hb dX7_draws_41 rfl (lv_at hl 0 rfl) ?_
        refine q_astN hE hst 7 rfl kq (rfl) (hk1) (by decide) [(x, .inr (7, [.ref xf, .ref xs, .ref xk, .ref xp, .ref xd, .ref xo, .ref xn, .ref xr, .ref xy, .ref xi, .int (seF j0), .long zu, .long zv, .ref xt, .ref xq, .ref xb, .ref xw, .ref xl, .ref xm, .int zt, .int za, .int zm, .int zc, .int ze, .ref xe, .int zh, .int zi, .int zq])), (xs, .inl (cI, 2, .inl seF)), (xk, .inl (cI, 2, .inl (nR kF))), (xp, .inl (cI, 2, .inl (nR spF))), (xd, .inl (cI, 2, .inl (nR deF))), (xo, .inl (cI, 2, .inl (bR pF))), (xn, .inl (cI, 732, .inl nm)), (xr, .inl (cI, 366, .inl (upd (layK f kq) kq (nI kq)))), (xi, .inl (cZ, 2, .inl (upd dz j0 1)))] rfl dX7_draws_42 (fun H locs hst => ?_)
        have hst : SS D A s [(x, .inr (7, [.ref xf, .ref xs, .ref xk, .ref xp, .ref xd, .ref xo, .ref xn, .ref xr, .ref xy, .ref xi, .int (seF j0), .long zu, .long zv, .ref xt, .ref xq, .ref xb, .ref xw, .ref xl, .ref xm, .int zt, .int za, .int zm, .int zc, .int ze, .ref xe, .int zh, .int zi, .int zq])), (xs, .inl (cI, 2, .inl seF)), (xk, .inl (cI, 2, .inl (nR kF))), (xp, .inl (cI, 2, .inl (nR spF))), (xd, .inl (cI, 2, .inl (nR deF))), (xo, .inl (cI, 2, .inl (bR pF))), (xn, .inl (cI, 732, .inl nm)), (xr, .inl (cI, 366, .inl (layK f (kq + 1)))), (xi, .inl (cZ, 2, .inl (upd dz j0 1)))] H locs := by have h := hst; rw [lay_up f hk1] at h; exact h
        refine lv_iinc (v := nI (kq + 1)) (lv' := [(2, .int (nI (kq + 1))), (0, .ref x), (1, .int (nI j0))]) hx hb dX7_draws_43 hl (k := 0) rfl (nI_next _) (by decide) rfl (fun ls hl => ?_)
        refine lv_goto (tgt := 29) hx hb dX7_draws_46 (by decide) ?_
        exact ih (kq + 1) (by omega) (by omega) _ _ _ (hst) (lv_sub hl [0, 1, 2] rfl)
  refine lv_aload_n hx hb dX7_draws_0 rfl (lv_at hl 0 rfl) ?_
  refine gf_X7_37 hE hst 0 rfl rfl dX7_draws_1 ?_
  refine lv_iload_n hx hb dX7_draws_4 rfl (lv_at hl 1 rfl) ?_
  refine q_zldN hE hst 8 rfl j0 (rfl) (hj) (by decide) dX7_draws_5 ?_
  refine lv_if_eq (tgt := 10) hx hb dX7_draws_6 (by decide) (fun c_6 => ?_) (fun c_6 => ?_)
  · skip
    refine lv_aload_n hx hb dX7_draws_10 rfl (lv_at hl 0 rfl) ?_
    refine gf_X7_37 hE hst 0 rfl rfl dX7_draws_11 ?_
    refine lv_iload_n hx hb dX7_draws_14 rfl (lv_at hl 1 rfl) ?_
    refine lv_iconst (v := 1) hx hb dX7_draws_15 (by decide) ?_
    refine q_zastN hE hst 8 rfl j0 (rfl) (hj) (by decide) (rfl) [(x, .inr (7, [.ref xf, .ref xs, .ref xk, .ref xp, .ref xd, .ref xo, .ref xn, .ref xr, .ref xy, .ref xi, .int zl, .long zu, .long zv, .ref xt, .ref xq, .ref xb, .ref xw, .ref xl, .ref xm, .int zt, .int za, .int zm, .int zc, .int ze, .ref xe, .int zh, .int zi, .int zq])), (xs, .inl (cI, 2, .inl seF)), (xk, .inl (cI, 2, .inl (nR kF))), (xp, .inl (cI, 2, .inl (nR spF))), (xd, .inl (cI, 2, .inl (nR deF))), (xo, .inl (cI, 2, .inl (bR pF))), (xn, .inl (cI, 732, .inl nm)), (xr, .inl (cI, 366, .inl f)), (xi, .inl (cZ, 2, .inl (upd dz j0 1)))] rfl dX7_draws_16 (fun H locs hst => ?_)
    refine lv_aload_n hx hb dX7_draws_17 rfl (lv_at hl 0 rfl) ?_
    refine lv_aload_n hx hb dX7_draws_18 rfl (lv_at hl 0 rfl) ?_
    refine gf_X7_13 hE hst 0 rfl rfl dX7_draws_19 ?_
    refine lv_iload_n hx hb dX7_draws_22 rfl (lv_at hl 1 rfl) ?_
    refine q_aldN hE hst 1 rfl j0 (rfl) (hj) (by decide) dX7_draws_23 ?_
    refine pf_X7_71 hE hst 0 rfl (rfl) (rfl) (Nat.le_of_ble_eq_true rfl) [(x, .inr (7, [.ref xf, .ref xs, .ref xk, .ref xp, .ref xd, .ref xo, .ref xn, .ref xr, .ref xy, .ref xi, .int (seF j0), .long zu, .long zv, .ref xt, .ref xq, .ref xb, .ref xw, .ref xl, .ref xm, .int zt, .int za, .int zm, .int zc, .int ze, .ref xe, .int zh, .int zi, .int zq])), (xs, .inl (cI, 2, .inl seF)), (xk, .inl (cI, 2, .inl (nR kF))), (xp, .inl (cI, 2, .inl (nR spF))), (xd, .inl (cI, 2, .inl (nR deF))), (xo, .inl (cI, 2, .inl (bR pF))), (xn, .inl (cI, 732, .inl nm)), (xr, .inl (cI, 366, .inl f)), (xi, .inl (cZ, 2, .inl (upd dz j0 1)))] rfl dX7_draws_24 (fun H locs hst => ?_)
    refine lv_iconst (v := 0) hx hb dX7_draws_27 (by decide) ?_
    refine lv_istore_n (lv' := [(2, .int 0), (0, .ref x), (1, .int (nI j0))]) hx hb dX7_draws_28 rfl hl (by decide) rfl (fun ls hl => ?_)
    exact loop_29 (367) 0 (by decide) (by decide) _ _ _ (by rw [layK_0]; exact hst) (lv_sub hl [0, 1, 2] rfl)
  · skip
    exact q_retV hQ hE hr hk hst (zl, nm, f, dz) (⟨hck, (hck j0 hj).1.resolve_left c_6⟩) (rfl) dX7_draws_9
set_option maxHeartbeats 4000000 in
set_option maxRecDepth 100000 in
theorem c_X7_numberOf (l : Launch) (D : va_G) (cI cJ cZ : ClassId) (x : Nat) (xf : Nat) (xs : Nat) (xk : Nat) (xp : Nat) (xd : Nat) (xo : Nat) (xn : Nat) (xr : Nat) (xy : Nat) (xi : Nat) (xt : Nat) (xq : Nat) (xb : Nat) (xw : Nat) (xl : Nat) (xm : Nat) (xe : Nat) (zl : Int32) (zt : Int32) (za : Int32) (zm : Int32) (zc : Int32) (ze : Int32) (zh : Int32) (zi : Int32) (zq : Int32) (zu : Int64) (zv : Int64) (seF : Nat → Int32) (kF : Nat → Nat) (spF : Nat → Nat) (deF : Nat → Nat) (pF : Nat → Bool) (nm : Nat → Int32) (f : Nat → Int32) (dz : Nat → Int32) (j0 : Nat) (d0 : Nat) (hj : j0 < 2) (hjo : joM kF spF deF) (hck : ckM seF kF spF deF pF nm dz) (hd : d0 < 366) : CtI l D cI cJ cZ yX7_numberOf cX7_numberOf 3 (some .int) 2 [.ref x, .int (nI j0), .int (nI d0)] [(x, .inr (7, [.ref xf, .ref xs, .ref xk, .ref xp, .ref xd, .ref xo, .ref xn, .ref xr, .ref xy, .ref xi, .int zl, .long zu, .long zv, .ref xt, .ref xq, .ref xb, .ref xw, .ref xl, .ref xm, .int zt, .int za, .int zm, .int zc, .int ze, .ref xe, .int zh, .int zi, .int zq])), (xs, .inl (cI, 2, .inl seF)), (xk, .inl (cI, 2, .inl (nR kF))), (xp, .inl (cI, 2, .inl (nR spF))), (xd, .inl (cI, 2, .inl (nR deF))), (xo, .inl (cI, 2, .inl (bR pF))), (xn, .inl (cI, 732, .inl nm)), (xr, .inl (cI, 366, .inl f)), (xi, .inl (cZ, 2, .inl dz))] (fun (u : Int32 × (Nat → Int32) × (Nat → Int32) × (Nat → Int32)) => ndM seF kF spF deF pF j0 d0) (fun (u : Int32 × (Nat → Int32) × (Nat → Int32) × (Nat → Int32)) => ckM seF kF spF deF pF u.2.1 u.2.2.2) (fun (u : Int32 × (Nat → Int32) × (Nat → Int32) × (Nat → Int32)) => [(x, .inr (7, [.ref xf, .ref xs, .ref xk, .ref xp, .ref xd, .ref xo, .ref xn, .ref xr, .ref xy, .ref xi, .int u.1, .long zu, .long zv, .ref xt, .ref xq, .ref xb, .ref xw, .ref xl, .ref xm, .int zt, .int za, .int zm, .int zc, .int ze, .ref xe, .int zh, .int zi, .int zq])), (xs, .inl (cI, 2, .inl seF)), (xk, .inl (cI, 2, .inl (nR kF))), (xp, .inl (cI, 2, .inl (nR spF))), (xd, .inl (cI, 2, .inl (nR deF))), (xo, .inl (cI, 2, .inl (bR pF))), (xn, .inl (cI, 732, .inl u.2.1)), (xr, .inl (cI, 366, .inl u.2.2.1)), (xi, .inl (cZ, 2, .inl u.2.2.2))]) := by
  refine q_entI (own := RX7) rfl rfl (Nat.le_of_ble_eq_true rfl) ?_
  intro p e s m args below meth c A ls QQ hQ hE hx hb hr hk hin hA hl hst
  have hl : lv_has ls 3 [(0, .ref x), (1, .int (nI j0)), (2, .int (nI d0))] := hl
  refine lv_aload_n hx hb dX7_numberOf_0 rfl (lv_at hl 0 rfl) ?_
  refine lv_iload_n hx hb dX7_numberOf_1 rfl (lv_at hl 1 rfl) ?_
  refine q_goV (q_rV hE lk_X7_92 (c_X7_draws l D cI cJ cZ x xf xs xk xp xd xo xn xr xy xi xt xq xb xw xl xm xe zl zt za zm zc ze zh zi zq zu zv seF kF spF deF pF nm f dz j0 (by first | assumption | decide | omega) (by first | assumption | decide | omega) (by first | assumption | decide | omega) s.heap.size) hst [0, 1, 2, 3, 4, 5, 6, 7, 8] rfl rfl rfl rfl rfl hl.1 ⟨(Nat.le_of_ble_eq_true rfl), (Nat.le_of_ble_eq_true rfl)⟩ (rest := []) rfl (Nat.le_of_ble_eq_true rfl) dX7_numberOf_2 ⟨(Nat.le_of_ble_eq_true rfl), (Nat.le_of_ble_eq_true rfl)⟩) hE hst [0, 1, 2, 3, 4, 5, 6, 7, 8] rfl (fun _ => rfl) (fun (u : Int32 × (Nat → Int32) × (Nat → Int32) × (Nat → Int32)) => [(x, .inr (7, [.ref xf, .ref xs, .ref xk, .ref xp, .ref xd, .ref xo, .ref xn, .ref xr, .ref xy, .ref xi, .int u.1, .long zu, .long zv, .ref xt, .ref xq, .ref xb, .ref xw, .ref xl, .ref xm, .int zt, .int za, .int zm, .int zc, .int ze, .ref xe, .int zh, .int zi, .int zq])), (xs, .inl (cI, 2, .inl seF)), (xk, .inl (cI, 2, .inl (nR kF))), (xp, .inl (cI, 2, .inl (nR spF))), (xd, .inl (cI, 2, .inl (nR deF))), (xo, .inl (cI, 2, .inl (bR pF))), (xn, .inl (cI, 732, .inl u.2.1)), (xr, .inl (cI, 366, .inl u.2.2.1)), (xi, .inl (cZ, 2, .inl u.2.2.2))]) (fun _ => rfl) (fun u H locs hF hst => ?_)
  obtain ⟨zl1_1, nm1_2, f1_3, dz1_4⟩ := u
  have hst : SS D A s [(x, .inr (7, [.ref xf, .ref xs, .ref xk, .ref xp, .ref xd, .ref xo, .ref xn, .ref xr, .ref xy, .ref xi, .int zl1_1, .long zu, .long zv, .ref xt, .ref xq, .ref xb, .ref xw, .ref xl, .ref xm, .int zt, .int za, .int zm, .int zc, .int ze, .ref xe, .int zh, .int zi, .int zq])), (xs, .inl (cI, 2, .inl seF)), (xk, .inl (cI, 2, .inl (nR kF))), (xp, .inl (cI, 2, .inl (nR spF))), (xd, .inl (cI, 2, .inl (nR deF))), (xo, .inl (cI, 2, .inl (bR pF))), (xn, .inl (cI, 732, .inl nm1_2)), (xr, .inl (cI, 366, .inl f1_3)), (xi, .inl (cZ, 2, .inl dz1_4))] H locs := hst
  have hF : (ckM seF kF spF deF pF nm1_2 dz1_4) ∧ (dz1_4 j0 = 1) := hF
  obtain ⟨hF0_2, hF1_2⟩ := hF
  refine lv_aload_n hx hb dX7_numberOf_5 rfl (lv_at hl 0 rfl) ?_
  refine gf_X7_28 hE hst 0 rfl rfl dX7_numberOf_6 ?_
  refine lv_sipush (v := 366) hx hb dX7_numberOf_9 (by decide) ?_
  refine lv_iload_n hx hb dX7_numberOf_12 rfl (lv_at hl 1 rfl) ?_
  refine lv_imul hx hb dX7_numberOf_13 ?_
  refine lv_iload_n hx hb dX7_numberOf_14 rfl (lv_at hl 2 rfl) ?_
  refine lv_iadd hx hb dX7_numberOf_15 ?_
  refine q_aldN hE hst 6 rfl (366 * j0 + d0) (by rw [show (366 : Int32) = nI 366 from rfl, pk_mul, nI_add]) (by omega) (by decide) dX7_numberOf_16 ?_
  exact q_retI hQ hE hr hk hst (zl1_1, nm1_2, f1_3, dz1_4) ((hF0_2 j0 hj).2 hF1_2 d0 hd) (hF0_2) (rfl) dX7_numberOf_17
