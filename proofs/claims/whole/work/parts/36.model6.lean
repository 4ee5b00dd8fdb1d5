/-! the reference: count, cuts, group -/
theorem cou_j {x w p : Int32} {f : Nat → Int32} {j : Nat} (hj : j < 2) (hp : p = nI (j + 1)) : couI x (f 0) (f 1) w p = f j := by
  match j, hj with
  | 0, _ => rw [hp]; rfl
  | 1, _ => rw [hp]; rfl
/-- how many men have a number up to c -/
def cntU (u : Nat → Nat) (c : Nat) : Nat → Nat
  | 0 => 0
  | k + 1 => if u k ≤ c then cntU u c k + 1 else cntU u c k
theorem cntU_le (u : Nat → Nat) (c : Nat) : ∀ k, cntU u c k ≤ k
  | 0 => Nat.le_refl _
  | k + 1 => by
    have := cntU_le u c k
    rw [cntU]
    by_cases h : u k ≤ c
    · rw [if_pos h]; omega
    · rw [if_neg h]; omega
theorem cntU_mono (u : Nat → Nat) {c d : Nat} (h : c ≤ d) : ∀ k, cntU u c k ≤ cntU u d k
  | 0 => Nat.le_refl _
  | k + 1 => by
    have := cntU_mono u h k
    rw [cntU, cntU]
    by_cases h1 : u k ≤ c
    · rw [if_pos h1, if_pos (by omega)]; omega
    · rw [if_neg h1]
      by_cases h2 : u k ≤ d
      · rw [if_pos h2]; omega
      · rw [if_neg h2]; omega
theorem cntU_0 {u : Nat → Nat} : ∀ k, (∀ j, j < k → 1 ≤ u j) → cntU u 0 k = 0
  | 0, _ => rfl
  | k + 1, h => by
    have h1 := h k (by omega)
    rw [cntU, if_neg (by omega), cntU_0 k (fun j hj => h j (by omega))]
theorem cntU_same {u : Nat → Nat} {c : Nat} : ∀ k, (∀ j, j < k → u j ≠ c + 1) → cntU u (c + 1) k = cntU u c k
  | 0, _ => rfl
  | k + 1, h => by
    have h1 := h k (by omega)
    rw [cntU, cntU, cntU_same k (fun j hj => h j (by omega))]
    by_cases g : u k ≤ c
    · rw [if_pos g, if_pos (by omega)]
    · rw [if_neg g, if_neg (by omega)]
theorem up_cnt {nd bi : Nat → Int32} {u : Nat → Nat} {n c : Nat} (hc : c < 2147483648) (h : ∀ j, j < n → mnum nd bi j = nI (u j) ∧ 1 ≤ u j ∧ u j ≤ 366) : ∀ k, k ≤ n → cntI (fun m => decide (mnum nd bi m ≤ nI c)) k = nI (cntU u c k)
  | 0, _ => rfl
  | k + 1, hk => by
    have h1 := h k (by omega)
    have ih := up_cnt hc h k (by omega)
    rw [cntU]
    by_cases g : u k ≤ c
    · rw [if_pos g, cnt_t (f := fun m => decide (mnum nd bi m ≤ nI c)) (decide_eq_true (by rw [h1.1]; exact (nI_leI (by omega) hc).mpr g)), ih, nI_1]
    · rw [if_neg g, cnt_f (f := fun m => decide (mnum nd bi m ≤ nI c)) (decide_eq_false (by rw [h1.1, nI_leI (by omega) hc]; exact g)), ih]
theorem lcF_inv {nd bi : Nat → Int32} {u : Nat → Nat} {n q : Nat} (hq : q ≤ 60) (hn : n ≤ 60) (h : ∀ j, j < n → mnum nd bi j = nI (u j) ∧ 1 ≤ u j ∧ u j ≤ 366) : ∀ k, k ≤ n → (lcF nd bi n (nI q) k = -9 ∧ ∀ m, m < k → ¬ q ≤ cntU u (u m) n) ∨ (∃ m, m < k ∧ lcF nd bi n (nI q) k = nI (u m) ∧ q ≤ cntU u (u m) n ∧ ∀ m', m' < k → q ≤ cntU u (u m') n → u m ≤ u m')
  | 0, _ => Or.inl ⟨rfl, fun m hm => absurd hm (Nat.not_lt_zero _)⟩
  | k + 1, hk => by
    have h1 := h k (by omega)
    have hcn := cntU_le u (u k) n
    have e1 : upI nd bi n (mnum nd bi k) = nI (cntU u (u k) n) := by
      rw [upI, h1.1]
      exact up_cnt (by omega) h n (Nat.le_refl _)
    have e2 : decide (nI q ≤ upI nd bi n (mnum nd bi k)) = decide (q ≤ cntU u (u k) n) := by
      rw [e1, Bool.eq_iff_iff, decide_eq_true_iff, decide_eq_true_iff]
      exact nI_leI (by omega) (by omega)
    have n9 : ∀ v : Nat, v ≤ 366 → ¬ nI v = -9 := fun v hv z => by
      have := congrArg Int32.toInt z
      rw [nI_toInt (by omega), show (-9 : Int32).toInt = -9 by decide] at this
      omega
    rw [lcF, lcB, e2]
    rcases lcF_inv hq hn h k (by omega) with ⟨a1, a2⟩ | ⟨m, a1, a2, a3, a4⟩
    · rw [a1]
      by_cases g : q ≤ cntU u (u k) n
      · rw [if_pos (by rw [decide_eq_true g]; rfl)]
        refine Or.inr ⟨k, by omega, h1.1, g, fun m' hm' z => ?_⟩
        by_cases e : m' = k
        · rw [e]; exact Nat.le_refl _
        · exact absurd z (a2 m' (by omega))
      · rw [if_neg (by rw [decide_eq_false g, Bool.and_false]; decide)]
        refine Or.inl ⟨rfl, fun m hm => ?_⟩
        by_cases e : m = k
        · rw [e]; exact g
        · exact a2 m (by omega)
    · have hm := h m (by omega)
      rw [a2, decide_eq_false (n9 _ hm.2.2), Bool.false_or, h1.1]
      by_cases g1 : u k < u m
      · rw [decide_eq_true ((nI_ltI (by omega) (by omega)).mpr g1), Bool.true_and]
        by_cases g : q ≤ cntU u (u k) n
        · rw [if_pos (decide_eq_true g)]
          refine Or.inr ⟨k, by omega, rfl, g, fun m' hm' z => ?_⟩
          by_cases e : m' = k
          · rw [e]; exact Nat.le_refl _
          · have := a4 m' (by omega) z
            omega
        · rw [if_neg (by rw [decide_eq_false g]; decide)]
          refine Or.inr ⟨m, by omega, rfl, a3, fun m' hm' z => ?_⟩
          by_cases e : m' = k
          · rw [e] at z; exact absurd z g
          · exact a4 m' (by omega) z
      · rw [decide_eq_false (fun z => g1 ((nI_ltI (by omega) (by omega)).mp z)), Bool.false_and, if_neg (by decide)]
        refine Or.inr ⟨m, by omega, rfl, a3, fun m' hm' z => ?_⟩
        by_cases e : m' = k
        · rw [e]; omega
        · exact a4 m' (by omega) z
theorem up_u {nd bi : Nat → Int32} {n : Nat} (h : ∀ j, j < n → ∃ v, 1 ≤ v ∧ v ≤ 366 ∧ mnum nd bi j = nI v) : ∃ u : Nat → Nat, ∀ j, j < n → mnum nd bi j = nI (u j) ∧ 1 ≤ u j ∧ u j ≤ 366 := by
  refine ⟨fun j => (mnum nd bi j).toNatClampNeg, fun j hj => ?_⟩
  obtain ⟨v, h1, h2, h3⟩ := h j hj
  have e : (mnum nd bi j).toNatClampNeg = v := by rw [h3, nI_clamp (by omega)]
  show mnum nd bi j = nI (mnum nd bi j).toNatClampNeg ∧ 1 ≤ (mnum nd bi j).toNatClampNeg ∧ (mnum nd bi j).toNatClampNeg ≤ 366
  rw [e]
  exact ⟨h3, h1, h2⟩
/-- the first cut by which so many are called -/
theorem lc_yes {nd bi : Nat → Int32} {n c : Nat} {p : Int32} (hq : ∃ q, q ≤ 60 ∧ p = nI q) (hn : n ≤ 60) (h : ∀ j, j < n → ∃ v, 1 ≤ v ∧ v ≤ 366 ∧ mnum nd bi j = nI v) (hc : c ≤ 366) (h1 : ¬ cntI (fun m => decide (mnum nd bi m ≤ nI c)) n < p) (h2 : ∀ d, d < c → cntI (fun m => decide (mnum nd bi m ≤ nI d)) n < p) : lcR nd bi n p = nI c := by
  obtain ⟨q, hq, rfl⟩ := hq
  obtain ⟨u, hu⟩ := up_u h
  have k1 : ∀ d, d ≤ 366 → (cntI (fun m => decide (mnum nd bi m ≤ nI d)) n < nI q ↔ cntU u d n < q) := fun d hd => by
    have := cntU_le u d n
    rw [up_cnt (by omega) hu n (Nat.le_refl _)]
    exact nI_ltI (by omega) (by omega)
  rw [k1 c hc] at h1
  have h2 : ∀ d, d < c → cntU u d n < q := fun d hd => (k1 d (by omega)).mp (h2 d hd)
  unfold lcR
  by_cases h0 : q = 0
  · have : c = 0 := by
      rcases Nat.eq_zero_or_pos c with z | z
      · exact z
      · have := h2 0 z; omega
    rw [h0, this]
    rfl
  · rw [if_pos (show (0 : Int32) < nI q from (nI_ltI (a := 0) (by decide) (by omega)).mpr (by omega))]
    have hc0 : c ≠ 0 := fun z => by
      rw [z, cntU_0 n (fun j hj => (hu j hj).2.1)] at h1
      omega
    obtain ⟨d, rfl⟩ : ∃ d, c = d + 1 := ⟨c - 1, by omega⟩
    have hm : ∃ m, m < n ∧ u m = d + 1 := by
      refine Classical.byContradiction fun z => ?_
      have e := cntU_same (u := u) (c := d) n (fun j hj e => z ⟨j, hj, e⟩)
      have := h2 d (by omega)
      omega
    obtain ⟨m, hm, em⟩ := hm
    rcases lcF_inv hq hn hu n (Nat.le_refl _) with ⟨a1, a2⟩ | ⟨m', a1, a2, a3, a4⟩
    · exact absurd (by rw [em]; omega) (a2 m hm)
    · have b1 := a4 m hm (by rw [em]; omega)
      have b2 : ¬ u m' < d + 1 := fun z => by
        have := h2 (u m') z
        omega
      rw [a2, show u m' = d + 1 by omega]
theorem lc_no {nd bi : Nat → Int32} {n : Nat} {p : Int32} (hq : ∃ q, q ≤ 60 ∧ p = nI q) (hn : n ≤ 60) (h : ∀ j, j < n → ∃ v, 1 ≤ v ∧ v ≤ 366 ∧ mnum nd bi j = nI v) (h2 : ∀ d, d < 367 → cntI (fun m => decide (mnum nd bi m ≤ nI d)) n < p) : lcR nd bi n p = -9 := by
  obtain ⟨q, hq, rfl⟩ := hq
  obtain ⟨u, hu⟩ := up_u h
  have h2 : ∀ d, d < 367 → cntU u d n < q := fun d hd => by
    have h3 := h2 d hd
    have := cntU_le u d n
    rw [up_cnt (by omega) hu n (Nat.le_refl _)] at h3
    exact (nI_ltI (by omega) (by omega)).mp h3
  unfold lcR
  have h0 := h2 0 (by decide)
  rw [if_pos (show (0 : Int32) < nI q from (nI_ltI (a := 0) (by decide) (by omega)).mpr (by omega))]
  rcases lcF_inv hq hn hu n (Nat.le_refl _) with ⟨a1, a2⟩ | ⟨m', a1, a2, a3, a4⟩
  · exact a1
  · have := h2 (u m') (by have := hu m' a1; omega)
    omega
theorem gs_v (f : Nat → Bool) {w : Nat → Int64} {n : Nat} (h : wOk w n) : ∀ k, k ≤ n → ∃ z : Int, z.natAbs ≤ 100000 * k ∧ gsL f w k = lZ z
  | 0, _ => ⟨0, by omega, rfl⟩
  | k + 1, hk => by
    obtain ⟨z, h1, h2⟩ := gs_v f h k (by omega)
    obtain ⟨v, h3, h4⟩ := h k (by omega)
    rw [gsL]
    by_cases g : f k = true
    · rw [if_pos g, h2, h4, lZ_add]; exact ⟨_, by omega, rfl⟩
    · rw [if_neg g, h2]; exact ⟨z, by omega, rfl⟩
theorem cnt_v (f : Nat → Bool) : ∀ k, ∃ c, c ≤ k ∧ cntI f k = nI c
  | 0 => ⟨0, by omega, rfl⟩
  | k + 1 => by
    obtain ⟨c, h1, h2⟩ := cnt_v f k
    rw [cntI]
    by_cases h : f k = true
    · rw [if_pos h, h2, nI_1]; exact ⟨c + 1, by omega, rfl⟩
    · rw [if_neg h, h2]; exact ⟨c, by omega, rfl⟩
theorem gp_ok {f : Nat → Bool} {w : Nat → Int64} {n : Nat} {le : Int32} (hn : n ≤ 60) (hw : wOk w n) (h1 : 1 ≤ le) (h2 : le ≤ cntI f n) : okAB (gsL f w n) (cntI f n).toInt64 := by
  obtain ⟨z, a1, a2⟩ := gs_v f hw n (Nat.le_refl _)
  obtain ⟨c, b1, b2⟩ := cnt_v f n
  have hc : 1 ≤ c := by
    have h3 := Int32.le_trans h1 h2
    rw [b2] at h3
    exact (nI_leI (a := 1) (by decide) (by omega)).mp h3
  exact ⟨z, c, by omega, by omega, by omega, a2, by rw [b2, nI_wide (by omega)]; rfl⟩
set_option maxHeartbeats 4000000 in
set_option maxRecDepth 100000 in
theorem c_X7_count (l : Launch) (D : va_G) (cI cJ cZ : ClassId) (x : Nat) (xf : Nat) (xs : Nat) (xk : Nat) (xp : Nat) (xd : Nat) (xo : Nat) (xn : Nat) (xr : Nat) (xy : Nat) (xi : Nat) (xt : Nat) (xq : Nat) (xb : Nat) (xw : Nat) (xl : Nat) (xm : Nat) (xe : Nat) (zl : Int32) (zt : Int32) (za : Int32) (zc : Int32) (ze : Int32) (zh : Int32) (zi : Int32) (zq : Int32) (zu : Int64) (zv : Int64) (nq : Nat) (ru : Nat → Int32) (seF : Nat → Int32) (kF : Nat → Nat) (spF : Nat → Nat) (deF : Nat → Nat) (pF : Nat → Bool) (nm : Nat → Int32) (f : Nat → Int32) (dz : Nat → Int32) (ki : Nat → Int32) (bi : Nat → Int32) (p0 : Int32) (hjo : joM kF spF deF) (hck : ckM seF kF spF deF pF nm dz) (hn : nq ≤ 60) (hbi : ∀ j, j < nq → vp_in (bi j) 366) (hki : ∀ j, j < nq → vp_in (ki j) 6) : CtI l D cI cJ cZ yX7_count cX7_count 4 (some .int) 6 [.ref x, .int p0] [(x, .inr (7, [.ref xf, .ref xs, .ref xk, .ref xp, .ref xd, .ref xo, .ref xn, .ref xr, .ref xy, .ref xi, .int zl, .long zu, .long zv, .ref xt, .ref xq, .ref xb, .ref xw, .ref xl, .ref xm, .int zt, .int za, .int (nI nq), .int zc, .int ze, .ref xe, .int zh, .int zi, .int zq])), (xs, .inl (cI, 2, .inl seF)), (xk, .inl (cI, 2, .inl (nR kF))), (xp, .inl (cI, 2, .inl (nR spF))), (xd, .inl (cI, 2, .inl (nR deF))), (xo, .inl (cI, 2, .inl (bR pF))), (xn, .inl (cI, 732, .inl nm)), (xr, .inl (cI, 366, .inl f)), (xi, .inl (cZ, 2, .inl dz)), (xq, .inl (cI, 60, .inl ki)), (xb, .inl (cI, 60, .inl bi)), (xf, .inl (cI, 7, .inl ru))] (fun (u : Int32 × (Nat → Int32) × (Nat → Int32) × (Nat → Int32)) => if p0 ≤ 10 then couI (nI nq) (cntI (fun m => hsB (svF zc (ndM seF kF spF deF pF 0) ki bi m)) nq) (cntI (fun m => hsB (svF zc (ndM seF kF spF deF pF 1) ki bi m)) nq) zt p0 else if 16 < p0 then couI (nI nq) (cntI (fun m => hsB (svF zc (ndM seF kF spF deF pF 0) ki bi m)) nq) (cntI (fun m => hsB (svF zc (ndM seF kF spF deF pF 1) ki bi m)) nq) zt p0 else atI 7 ru (p0 - 10)) (fun (u : Int32 × (Nat → Int32) × (Nat → Int32) × (Nat → Int32)) => ckM seF kF spF deF pF u.2.1 u.2.2.2) (fun (u : Int32 × (Nat → Int32) × (Nat → Int32) × (Nat → Int32)) => [(x, .inr (7, [.ref xf, .ref xs, .ref xk, .ref xp, .ref xd, .ref xo, .ref xn, .ref xr, .ref xy, .ref xi, .int u.1, .long zu, .long zv, .ref xt, .ref xq, .ref xb, .ref xw, .ref xl, .ref xm, .int zt, .int za, .int (nI nq), .int zc, .int ze, .ref xe, .int zh, .int zi, .int zq])), (xs, .inl (cI, 2, .inl seF)), (xk, .inl (cI, 2, .inl (nR kF))), (xp, .inl (cI, 2, .inl (nR spF))), (xd, .inl (cI, 2, .inl (nR deF))), (xo, .inl (cI, 2, .inl (bR pF))), (xn, .inl (cI, 732, .inl u.2.1)), (xr, .inl (cI, 366, .inl u.2.2.1)), (xi, .inl (cZ, 2, .inl u.2.2.2)), (xq, .inl (cI, 60, .inl ki)), (xb, .inl (cI, 60, .inl bi)), (xf, .inl (cI, 7, .inl ru))]) := by
  refine q_entI (own := RX7) rfl rfl (Nat.le_of_ble_eq_true rfl) ?_
  intro p e s m args below meth c A ls QQ hQ hE hx hb hr hk hin hA hl hst
  have hl : lv_has ls 4 [(0, .ref x), (1, .int p0)] := hl
  have loop_63 : ∀ (fu : Nat) (zl2 : Int32) (nm2 : Nat → Int32) (f2 : Nat → Int32) (dz2 : Nat → Int32) (kq : Nat) (j0 : Nat), (ckM seF kF spF deF pF nm2 dz2) → (kq ≤ nq) → (j0 < 2) → (p0 = nI (j0 + 1)) → (inB p0 11 16 = false) → (nq - kq) < fu → ∀ (H : Heap) (locs : List Loc) (ls : Array Slot), SS D A s [(x, .inr (7, [.ref xf, .ref xs, .ref xk, .ref xp, .ref xd, .ref xo, .ref xn, .ref xr, .ref xy, .ref xi, .int zl2, .long zu, .long zv, .ref xt, .ref xq, .ref xb, .ref xw, .ref xl, .ref xm, .int zt, .int za, .int (nI nq), .int zc, .int ze, .ref xe, .int zh, .int zi, .int zq])), (xs, .inl (cI, 2, .inl seF)), (xk, .inl (cI, 2, .inl (nR kF))), (xp, .inl (cI, 2, .inl (nR spF))), (xd, .inl (cI, 2, .inl (nR deF))), (xo, .inl (cI, 2, .inl (bR pF))), (xn, .inl (cI, 732, .inl nm2)), (xr, .inl (cI, 366, .inl f2)), (xi, .inl (cZ, 2, .inl dz2)), (xq, .inl (cI, 60, .inl ki)), (xb, .inl (cI, 60, .inl bi)), (xf, .inl (cI, 7, .inl ru))] H locs → lv_has ls 4 [(3, .int (nI kq)), (2, .int (cntI (fun m => hsB (svF zc (ndM seF kF spF deF pF j0) ki bi m)) kq)), (0, .ref x), (1, .int p0)] → W p l e (rmN 6 0 0) s m args below meth c H locs 0 0 QQ (F0 m 63 ls []) := by
    intro fu
    induction fu with
    | zero =>
      intro zl2 nm2 f2 dz2 kq j0 hck2 h1 hj hpj hc8 hn
      exact absurd hn (Nat.not_lt_zero _)
    | succ fu ih =>
      intro zl2 nm2 f2 dz2 kq j0 hck2 h1 hj hpj hc8 hn H locs ls hst hl
      refine lv_iload_n hx hb dX7_count_63 rfl (lv_at hl 0 rfl) ?_
      refine lv_aload_n hx hb dX7_count_64 rfl (lv_at hl 2 rfl) ?_
      refine gf_X7_163 hE hst 0 rfl rfl dX7_count_65 ?_
      refine lv_icmp_ge (tgt := 96) hx hb dX7_count_68 (by decide) (fun c_68 => ?_) (fun c_68 => ?_)
      · skip
        have hk1 : nq = kq := Nat.le_antisymm (Nat.le_of_not_lt (fun z => nI_ge z (by omega) c_68)) h1
        subst hk1
        skip
        refine lv_iload_n hx hb dX7_count_96 rfl (lv_at hl 1 rfl) ?_
        exact q_retI hQ hE hr hk hst (zl2, nm2, f2, dz2) (by rw [cnt_no hc8]; exact (cou_j (f := fun j => cntI (fun m => hsB (svF zc (ndM seF kF spF deF pF j) ki bi m)) nq) hj hpj).symm) (hck2) (rfl) dX7_count_97
      · skip
        have hk1 : kq < nq := Nat.lt_of_not_le (fun z => c_68 (nI_le z (by omega)))
        refine lv_iload_n hx hb dX7_count_71 rfl (lv_at hl 1 rfl) ?_
        refine lv_aload_n hx hb dX7_count_72 rfl (lv_at hl 2 rfl) ?_
        refine lv_iload_n hx hb dX7_count_73 rfl (lv_at hl 3 rfl) ?_
        refine lv_iconst (v := 1) hx hb dX7_count_74 (by decide) ?_
        refine lv_isub hx hb dX7_count_75 ?_
        refine q_top (x' := nI j0) (by rw [hpj, show (1 : Int32) = nI 1 from rfl, pk_sub (by omega)]; congr 1) ?_
        refine lv_iload_n hx hb dX7_count_76 rfl (lv_at hl 0 rfl) ?_
        refine q_goI (q_rV hE lk_X7_190 (c_X7_hasServed l D cI cJ cZ x xf xs xk xp xd xo xn xr xy xi xt xq xb xw xl xm xe zl2 zt za (nI nq) zc ze zh zi zq zu zv seF kF spF deF pF nm2 f2 dz2 ki bi j0 kq (hj) (hjo) (hck2) (by omega) (hbi kq hk1) (hki kq hk1) H.size) hst [0, 1, 2, 3, 4, 5, 6, 7, 8, 9, 10] rfl rfl rfl rfl rfl hl.1 ⟨(Nat.le_of_ble_eq_true rfl), (Nat.le_of_ble_eq_true rfl)⟩ (rest := [.int (cntI (fun m => hsB (svF zc (ndM seF kF spF deF pF j0) ki bi m)) kq)]) rfl (Nat.le_of_ble_eq_true rfl) dX7_count_77 ⟨(Nat.le_of_ble_eq_true rfl), (Nat.le_of_ble_eq_true rfl)⟩) hE hst [0, 1, 2, 3, 4, 5, 6, 7, 8, 9, 10] rfl (fun _ => rfl) (fun (u : Int32 × (Nat → Int32) × (Nat → Int32) × (Nat → Int32)) => [(x, .inr (7, [.ref xf, .ref xs, .ref xk, .ref xp, .ref xd, .ref xo, .ref xn, .ref xr, .ref xy, .ref xi, .int u.1, .long zu, .long zv, .ref xt, .ref xq, .ref xb, .ref xw, .ref xl, .ref xm, .int zt, .int za, .int (nI nq), .int zc, .int ze, .ref xe, .int zh, .int zi, .int zq])), (xs, .inl (cI, 2, .inl seF)), (xk, .inl (cI, 2, .inl (nR kF))), (xp, .inl (cI, 2, .inl (nR spF))), (xd, .inl (cI, 2, .inl (nR deF))), (xo, .inl (cI, 2, .inl (bR pF))), (xn, .inl (cI, 732, .inl u.2.1)), (xr, .inl (cI, 366, .inl u.2.2.1)), (xi, .inl (cZ, 2, .inl u.2.2.2)), (xq, .inl (cI, 60, .inl ki)), (xb, .inl (cI, 60, .inl bi)), (xf, .inl (cI, 7, .inl ru))]) (fun _ => rfl) (fun u H locs hF hst => ?_)
        obtain ⟨zl1_1, nm1_2, f1_3, dz1_4⟩ := u
        have hst : SS D A s [(x, .inr (7, [.ref xf, .ref xs, .ref xk, .ref xp, .ref xd, .ref xo, .ref xn, .ref xr, .ref xy, .ref xi, .int zl1_1, .long zu, .long zv, .ref xt, .ref xq, .ref xb, .ref xw, .ref xl, .ref xm, .int zt, .int za, .int (nI nq), .int zc, .int ze, .ref xe, .int zh, .int zi, .int zq])), (xs, .inl (cI, 2, .inl seF)), (xk, .inl (cI, 2, .inl (nR kF))), (xp, .inl (cI, 2, .inl (nR spF))), (xd, .inl (cI, 2, .inl (nR deF))), (xo, .inl (cI, 2, .inl (bR pF))), (xn, .inl (cI, 732, .inl nm1_2)), (xr, .inl (cI, 366, .inl f1_3)), (xi, .inl (cZ, 2, .inl dz1_4)), (xq, .inl (cI, 60, .inl ki)), (xb, .inl (cI, 60, .inl bi)), (xf, .inl (cI, 7, .inl ru))] H locs := hst
        have hF : (ckM seF kF spF deF pF nm1_2 dz1_4) := hF
        have hF0_77 := hF
        refine W.eq (g2 := F0 m 80 ls [.int (b2i (hsB (svF zc (ndM seF kF spF deF pF j0) ki bi kq))), .int (cntI (fun m => hsB (svF zc (ndM seF kF spF deF pF j0) ki bi m)) kq)]) rfl ?_
        refine lv_if_eq (tgt := 87) hx hb dX7_count_80 (by decide) (fun c_80 => ?_) (fun c_80 => ?_)
        · skip
          have c_80 := b2i_f c_80
          refine lv_iconst (v := 0) hx hb dX7_count_87 (by decide) ?_
          refine lv_iadd hx hb dX7_count_88 ?_
          refine q_top (x' := cntI (fun m => hsB (svF zc (ndM seF kF spF deF pF j0) ki bi m)) (kq + 1)) (by rw [cnt_f (f := fun m => hsB (svF zc (ndM seF kF spF deF pF j0) ki bi m)) c_80]; exact Int32.add_zero _) ?_
          refine lv_istore_n (lv' := [(2, .int (cntI (fun m => hsB (svF zc (ndM seF kF spF deF pF j0) ki bi m)) (kq + 1))), (3, .int (nI kq)), (0, .ref x), (1, .int p0)]) hx hb dX7_count_89 rfl hl (by decide) rfl (fun ls hl => ?_)
          refine lv_iinc (v := nI (kq + 1)) (lv' := [(3, .int (nI (kq + 1))), (2, .int (cntI (fun m => hsB (svF zc (ndM seF kF spF deF pF j0) ki bi m)) (kq + 1))), (0, .ref x), (1, .int p0)]) hx hb dX7_count_90 hl (k := 1) rfl (nI_next _) (by decide) rfl (fun ls hl => ?_)
          refine lv_goto (tgt := 63) hx hb dX7_count_93 (by decide) ?_
          exact ih zl1_1 nm1_2 f1_3 dz1_4 (kq + 1) j0 (hF0_77) (by omega) (hj) (hpj) (hc8) (by omega) _ _ _ (hst) (lv_sub hl [0, 1, 2, 3] rfl)
        · skip
          have c_80 := b2i_t c_80
          refine lv_iconst (v := 1) hx hb dX7_count_83 (by decide) ?_
          refine lv_goto (tgt := 88) hx hb dX7_count_84 (by decide) ?_
          refine lv_iadd hx hb dX7_count_88 ?_
          refine q_top (x' := cntI (fun m => hsB (svF zc (ndM seF kF spF deF pF j0) ki bi m)) (kq + 1)) (by rw [cnt_t (f := fun m => hsB (svF zc (ndM seF kF spF deF pF j0) ki bi m)) c_80]) ?_
          refine lv_istore_n (lv' := [(2, .int (cntI (fun m => hsB (svF zc (ndM seF kF spF deF pF j0) ki bi m)) (kq + 1))), (3, .int (nI kq)), (0, .ref x), (1, .int p0)]) hx hb dX7_count_89 rfl hl (by decide) rfl (fun ls hl => ?_)
          refine lv_iinc (v := nI (kq + 1)) (lv' := [(3, .int (nI (kq + 1))), (2, .int (cntI (fun m => hsB (svF zc (ndM seF kF spF deF pF j0) ki bi m)) (kq + 1))), (0, .ref x), (1, .int p0)]) hx hb dX7_count_90 hl (k := 1) rfl (nI_next _) (by decide) rfl (fun ls hl => ?_)
          refine lv_goto (tgt := 63) hx hb dX7_count_93 (by decide) ?_
          exact ih zl1_1 nm1_2 f1_3 dz1_4 (kq + 1) j0 (hF0_77) (by omega) (hj) (hpj) (hc8) (by omega) _ _ _ (hst) (lv_sub hl [0, 1, 2, 3] rfl)
  refine lv_iload_n hx hb dX7_count_0 rfl (lv_at hl 1 rfl) ?_
  refine lv_bipush (v := 11) hx hb dX7_count_1 (by decide) ?_
  refine lv_bipush (v := 16) hx hb dX7_count_3 (by decide) ?_
  refine q_goI (q_rS hE lk_X7_96 (c_X7_isIn l D cI cJ cZ p0 11 16 s.heap.size) hst [] rfl rfl rfl hl.1 ⟨(Nat.le_of_ble_eq_true rfl), (Nat.le_of_ble_eq_true rfl)⟩ (rest := []) rfl (Nat.le_of_ble_eq_true rfl) dX7_count_5 ⟨(Nat.le_of_ble_eq_true rfl), (Nat.le_of_ble_eq_true rfl)⟩) hE hst [] rfl (fun _ => rfl) (fun (_ : Unit) => [(x, .inr (7, [.ref xf, .ref xs, .ref xk, .ref xp, .ref xd, .ref xo, .ref xn, .ref xr, .ref xy, .ref xi, .int zl, .long zu, .long zv, .ref xt, .ref xq, .ref xb, .ref xw, .ref xl, .ref xm, .int zt, .int za, .int (nI nq), .int zc, .int ze, .ref xe, .int zh, .int zi, .int zq])), (xs, .inl (cI, 2, .inl seF)), (xk, .inl (cI, 2, .inl (nR kF))), (xp, .inl (cI, 2, .inl (nR spF))), (xd, .inl (cI, 2, .inl (nR deF))), (xo, .inl (cI, 2, .inl (bR pF))), (xn, .inl (cI, 732, .inl nm)), (xr, .inl (cI, 366, .inl f)), (xi, .inl (cZ, 2, .inl dz)), (xq, .inl (cI, 60, .inl ki)), (xb, .inl (cI, 60, .inl bi)), (xf, .inl (cI, 7, .inl ru))]) (fun _ => rfl) (fun _ H locs hF hst => ?_)
  refine lv_if_eq (tgt := 21) hx hb dX7_count_8 (by decide) (fun c_8 => ?_) (fun c_8 => ?_)
  · skip
    have c_8 := b2i_f c_8
    refine lv_iconst (v := 0) hx hb dX7_count_21 (by decide) ?_
    refine lv_istore_n (lv' := [(2, .int 0), (0, .ref x), (1, .int p0)]) hx hb dX7_count_22 rfl hl (by decide) rfl (fun ls hl => ?_)
    refine lv_iload_n hx hb dX7_count_23 rfl (lv_at hl 2 rfl) ?_
    by_cases c_24_0 : p0 = 0
    · skip
      refine lv_tableIn (off := 32) (tgt := 56) hx hb dX7_count_24 (by rw [c_24_0]; decide) (by rw [c_24_0]; decide) (by rw [c_24_0]; rfl) (by decide) ?_
      refine lv_aload_n hx hb dX7_count_56 rfl (lv_at hl 1 rfl) ?_
      refine gf_X7_163 hE hst 0 rfl rfl dX7_count_57 ?_
      exact q_retI hQ hE hr hk hst (zl, nm, f, dz) (by rw [cnt_no c_8, couI, if_pos c_24_0]) (hck) (rfl) dX7_count_60
    by_cases c_24_1 : p0 = 1
    · skip
      refine lv_tableIn (off := 37) (tgt := 61) hx hb dX7_count_24 (by rw [c_24_1]; decide) (by rw [c_24_1]; decide) (by rw [c_24_1]; rfl) (by decide) ?_
      refine lv_iconst (v := 0) hx hb dX7_count_61 (by decide) ?_
      refine lv_istore_n (lv' := [(3, .int 0), (2, .int 0), (0, .ref x), (1, .int p0)]) hx hb dX7_count_62 rfl hl (by decide) rfl (fun ls hl => ?_)
      exact loop_63 (nq + 1) zl nm f dz 0 0 (hck) (Nat.zero_le _) (by decide) (c_24_1) (c_8) (by omega) _ _ _ (hst) (lv_sub hl [0, 1, 2, 3] rfl)
    by_cases c_24_2 : p0 = 2
    · skip
      refine lv_tableIn (off := 37) (tgt := 61) hx hb dX7_count_24 (by rw [c_24_2]; decide) (by rw [c_24_2]; decide) (by rw [c_24_2]; rfl) (by decide) ?_
      refine lv_iconst (v := 0) hx hb dX7_count_61 (by decide) ?_
      refine lv_istore_n (lv' := [(3, .int 0), (2, .int 0), (0, .ref x), (1, .int p0)]) hx hb dX7_count_62 rfl hl (by decide) rfl (fun ls hl => ?_)
      exact loop_63 (nq + 1) zl nm f dz 0 1 (hck) (Nat.zero_le _) (by decide) (c_24_2) (c_8) (by omega) _ _ _ (hst) (lv_sub hl [0, 1, 2, 3] rfl)
    by_cases c_24_3 : p0 = 3
    · skip
      refine lv_tableIn (off := 74) (tgt := 98) hx hb dX7_count_24 (by rw [c_24_3]; decide) (by rw [c_24_3]; decide) (by rw [c_24_3]; rfl) (by decide) ?_
      refine lv_aload_n hx hb dX7_count_98 rfl (lv_at hl 1 rfl) ?_
      refine gf_X7_148 hE hst 0 rfl rfl dX7_count_99 ?_
      exact q_retI hQ hE hr hk hst (zl, nm, f, dz) (by rw [cnt_no c_8, couI, if_neg c_24_0, if_neg c_24_1, if_neg c_24_2, if_pos c_24_3]) (hck) (rfl) dX7_count_102
    refine lv_tableOut (tgt := 103) hx hb dX7_count_24 (by have q0 := lv_neT c_24_0 (a := 0) (by decide); have q1 := lv_neT c_24_1 (a := 1) (by decide); have q2 := lv_neT c_24_2 (a := 2) (by decide); have q3 := lv_neT c_24_3 (a := 3) (by decide); omega) (by decide) ?_
    refine lv_bipush (v := (-9)) hx hb dX7_count_103 (by decide) ?_
    exact q_retI hQ hE hr hk hst (zl, nm, f, dz) (by rw [cnt_no c_8, couI, if_neg c_24_0, if_neg c_24_1, if_neg c_24_2, if_neg c_24_3]) (hck) (rfl) dX7_count_105
  · skip
    have c_8 := b2i_t c_8
    obtain ⟨hc1, hc2, i0, hi0, ei0⟩ := cnt_in c_8
    refine lv_aload_n hx hb dX7_count_11 rfl (lv_at hl 0 rfl) ?_
    refine gf_X7_7 hE hst 0 rfl rfl dX7_count_12 ?_
    refine lv_iload_n hx hb dX7_count_15 rfl (lv_at hl 1 rfl) ?_
    refine lv_bipush (v := 10) hx hb dX7_count_16 (by decide) ?_
    refine lv_isub hx hb dX7_count_18 ?_
    refine q_aldN hE hst 11 rfl i0 (ei0) (hi0) (by decide) dX7_count_19 ?_
    exact q_retI hQ hE hr hk hst (zl, nm, f, dz) (by rw [if_neg hc1, if_neg hc2, ei0, atI_n hi0 (by decide)]) (hck) (rfl) dX7_count_20
set_option maxHeartbeats 4000000 in
set_option maxRecDepth 100000 in
theorem c_X7_cuts (l : Launch) (D : va_G) (cI cJ cZ : ClassId) (x : Nat) (xf : Nat) (xs : Nat) (xk : Nat) (xp : Nat) (xd : Nat) (xo : Nat) (xn : Nat) (xr : Nat) (xy : Nat) (xi : Nat) (xt : Nat) (xq : Nat) (xb : Nat) (xw : Nat) (xl : Nat) (xm : Nat) (xe : Nat) (zl : Int32) (zt : Int32) (za : Int32) (zc : Int32) (ze : Int32) (zh : Int32) (zi : Int32) (zq : Int32) (zu : Int64) (zv : Int64) (nq : Nat) (ru : Nat → Int32) (seF : Nat → Int32) (kF : Nat → Nat) (spF : Nat → Nat) (deF : Nat → Nat) (pF : Nat → Bool) (nm : Nat → Int32) (f : Nat → Int32) (dz : Nat → Int32) (bi : Nat → Int32) (j0 : Nat) (p0 : Int32) (p1 : Int32) (hj : j0 < 2) (hsl : isJarB p0 = true → p0 = nI j0) (hjo : joM kF spF deF) (hck : ckM seF kF spF deF pF nm dz) (hn : nq ≤ 60) (hbi : ∀ j, j < nq → vp_in (bi j) 366) : CtI l D cI cJ cZ yX7_cuts cX7_cuts 7 (some .int) 3 [.ref x, .int p0, .int p1] [(x, .inr (7, [.ref xf, .ref xs, .ref xk, .ref xp, .ref xd, .ref xo, .ref xn, .ref xr, .ref xy, .ref xi, .int zl, .long zu, .long zv, .ref xt, .ref xq, .ref xb, .ref xw, .ref xl, .ref xm, .int zt, .int za, .int (nI nq), .int zc, .int ze, .ref xe, .int zh, .int zi, .int zq])), (xs, .inl (cI, 2, .inl seF)), (xk, .inl (cI, 2, .inl (nR kF))), (xp, .inl (cI, 2, .inl (nR spF))), (xd, .inl (cI, 2, .inl (nR deF))), (xo, .inl (cI, 2, .inl (bR pF))), (xn, .inl (cI, 732, .inl nm)), (xr, .inl (cI, 366, .inl f)), (xi, .inl (cZ, 2, .inl dz)), (xb, .inl (cI, 60, .inl bi)), (xf, .inl (cI, 7, .inl ru))] (fun (u : Int32 × (Nat → Int32) × (Nat → Int32) × (Nat → Int32)) => if ftf (!isJarB p0) false (!decide (0 ≤ p1)) (!decide (p1 ≤ 60)) = 0 then lcR (ndM seF kF spF deF pF j0) bi nq p1 else ftf (!isJarB p0) false (!decide (0 ≤ p1)) (!decide (p1 ≤ 60))) (fun (u : Int32 × (Nat → Int32) × (Nat → Int32) × (Nat → Int32)) => ckM seF kF spF deF pF u.2.1 u.2.2.2) (fun (u : Int32 × (Nat → Int32) × (Nat → Int32) × (Nat → Int32)) => [(x, .inr (7, [.ref xf, .ref xs, .ref xk, .ref xp, .ref xd, .ref xo, .ref xn, .ref xr, .ref xy, .ref xi, .int u.1, .long zu, .long zv, .ref xt, .ref xq, .ref xb, .ref xw, .ref xl, .ref xm, .int zt, .int za, .int (nI nq), .int zc, .int ze, .ref xe, .int zh, .int zi, .int zq])), (xs, .inl (cI, 2, .inl seF)), (xk, .inl (cI, 2, .inl (nR kF))), (xp, .inl (cI, 2, .inl (nR spF))), (xd, .inl (cI, 2, .inl (nR deF))), (xo, .inl (cI, 2, .inl (bR pF))), (xn, .inl (cI, 732, .inl u.2.1)), (xr, .inl (cI, 366, .inl u.2.2.1)), (xi, .inl (cZ, 2, .inl u.2.2.2)), (xb, .inl (cI, 60, .inl bi)), (xf, .inl (cI, 7, .inl (if ftf (!isJarB p0) false (!decide (0 ≤ p1)) (!decide (p1 ≤ 60)) = 0 then ru else bmp ru (ftf (!isJarB p0) false (!decide (0 ≤ p1)) (!decide (p1 ≤ 60))))))]) := by
  refine q_entI (own := RX7) rfl rfl (Nat.le_of_ble_eq_true rfl) ?_
  intro p e s m args below meth c A ls QQ hQ hE hx hb hr hk hin hA hl hst
  have hl : lv_has ls 7 [(0, .ref x), (1, .int p0), (2, .int p1)] := hl
  obtain ⟨hj1, hj2, hj3, hj4⟩ := hjo j0 hj
  have loop_48 : ∀ (fu : Nat) (zl2 : Int32) (nm2 : Nat → Int32) (f2 : Nat → Int32) (dz2 : Nat → Int32) (kq : Nat) (cc : Nat), (ckM seF kF spF deF pF nm2 dz2) → (kq ≤ nq) → (cc ≤ 366) → (nq - kq) < fu → ∀ (H : Heap) (locs : List Loc) (ls : Array Slot), SS D A s [(x, .inr (7, [.ref xf, .ref xs, .ref xk, .ref xp, .ref xd, .ref xo, .ref xn, .ref xr, .ref xy, .ref xi, .int zl2, .long zu, .long zv, .ref xt, .ref xq, .ref xb, .ref xw, .ref xl, .ref xm, .int zt, .int za, .int (nI nq), .int zc, .int ze, .ref xe, .int zh, .int zi, .int zq])), (xs, .inl (cI, 2, .inl seF)), (xk, .inl (cI, 2, .inl (nR kF))), (xp, .inl (cI, 2, .inl (nR spF))), (xd, .inl (cI, 2, .inl (nR deF))), (xo, .inl (cI, 2, .inl (bR pF))), (xn, .inl (cI, 732, .inl nm2)), (xr, .inl (cI, 366, .inl f2)), (xi, .inl (cZ, 2, .inl dz2)), (xb, .inl (cI, 60, .inl bi)), (xf, .inl (cI, 7, .inl ru))] H locs → lv_has ls 7 [(6, .int (nI kq)), (5, .int (cntI (fun m => decide (mnum (ndM seF kF spF deF pF j0) bi m ≤ nI cc)) kq)), (4, .int (nI cc)), (0, .ref x), (1, .int (nI j0)), (2, .int p1)] → (∀ (zl2 : Int32) (nm2 : Nat → Int32) (f2 : Nat → Int32) (dz2 : Nat → Int32) (H : Heap) (locs : List Loc) (ls : Array Slot), (ckM seF kF spF deF pF nm2 dz2) → SS D A s [(x, .inr (7, [.ref xf, .ref xs, .ref xk, .ref xp, .ref xd, .ref xo, .ref xn, .ref xr, .ref xy, .ref xi, .int zl2, .long zu, .long zv, .ref xt, .ref xq, .ref xb, .ref xw, .ref xl, .ref xm, .int zt, .int za, .int (nI nq), .int zc, .int ze, .ref xe, .int zh, .int zi, .int zq])), (xs, .inl (cI, 2, .inl seF)), (xk, .inl (cI, 2, .inl (nR kF))), (xp, .inl (cI, 2, .inl (nR spF))), (xd, .inl (cI, 2, .inl (nR deF))), (xo, .inl (cI, 2, .inl (bR pF))), (xn, .inl (cI, 732, .inl nm2)), (xr, .inl (cI, 366, .inl f2)), (xi, .inl (cZ, 2, .inl dz2)), (xb, .inl (cI, 60, .inl bi)), (xf, .inl (cI, 7, .inl ru))] H locs → lv_has ls 7 [(5, .int (cntI (fun m => decide (mnum (ndM seF kF spF deF pF j0) bi m ≤ nI cc)) nq)), (4, .int (nI cc)), (0, .ref x), (1, .int (nI j0)), (2, .int p1)] → W p l e (rmN 3 0 0) s m args below meth c H locs 0 0 QQ (F0 m 90 ls [])) → W p l e (rmN 3 0 0) s m args below meth c H locs 0 0 QQ (F0 m 48 ls []) := by
    intro fu
    induction fu with
    | zero =>
      intro zl2 nm2 f2 dz2 kq cc hck2 h1 hcc hn
      exact absurd hn (Nat.not_lt_zero _)
    | succ fu ih =>
      intro zl2 nm2 f2 dz2 kq cc hck2 h1 hcc hn H locs ls hst hl kk
      refine lv_iload hx hb dX7_cuts_48 (lv_at hl 0 rfl) ?_
      refine lv_aload_n hx hb dX7_cuts_50 rfl (lv_at hl 3 rfl) ?_
      refine gf_X7_163 hE hst 0 rfl rfl dX7_cuts_51 ?_
      refine lv_icmp_ge (tgt := 90) hx hb dX7_cuts_54 (by decide) (fun c_54 => ?_) (fun c_54 => ?_)
      · skip
        have hk1 : nq = kq := Nat.le_antisymm (Nat.le_of_not_lt (fun z => nI_ge z (by omega) c_54)) h1
        subst hk1
        skip
        exact kk zl2 nm2 f2 dz2 _ _ _ (hck2) (hst) (lv_sub hl [1, 2, 3, 4, 5] rfl)
      · skip
        have hk1 : kq < nq := Nat.lt_of_not_le (fun z => c_54 (nI_le z (by omega)))
        obtain ⟨bd, hbd, ebd⟩ := vp_in_of (hbi kq hk1) (by decide)
        refine lv_iload hx hb dX7_cuts_57 (lv_at hl 1 rfl) ?_
        refine lv_aload_n hx hb dX7_cuts_59 rfl (lv_at hl 3 rfl) ?_
        refine lv_iload_n hx hb dX7_cuts_60 rfl (lv_at hl 4 rfl) ?_
        refine lv_aload_n hx hb dX7_cuts_61 rfl (lv_at hl 3 rfl) ?_
        refine gf_X7_47 hE hst 0 rfl rfl dX7_cuts_62 ?_
        refine lv_iload hx hb dX7_cuts_65 (lv_at hl 0 rfl) ?_
        refine q_aldN hE hst 9 rfl kq (rfl) (by omega) (by decide) dX7_cuts_67 ?_
        refine q_top (x' := nI bd) (ebd) ?_
        refine q_goI (q_rV hE lk_X7_100 (c_X7_numberOf l D cI cJ cZ x xf xs xk xp xd xo xn xr xy xi xt xq xb xw xl xm xe zl2 zt za (nI nq) zc ze zh zi zq zu zv seF kF spF deF pF nm2 f2 dz2 j0 bd (hj) (hjo) (hck2) (hbd) H.size) hst [0, 1, 2, 3, 4, 5, 6, 7, 8] rfl rfl rfl rfl rfl hl.1 ⟨(Nat.le_of_ble_eq_true rfl), (Nat.le_of_ble_eq_true rfl)⟩ (rest := [.int (cntI (fun m => decide (mnum (ndM seF kF spF deF pF j0) bi m ≤ nI cc)) kq)]) rfl (Nat.le_of_ble_eq_true rfl) dX7_cuts_68 ⟨(Nat.le_of_ble_eq_true rfl), (Nat.le_of_ble_eq_true rfl)⟩) hE hst [0, 1, 2, 3, 4, 5, 6, 7, 8] rfl (fun _ => rfl) (fun (u : Int32 × (Nat → Int32) × (Nat → Int32) × (Nat → Int32)) => [(x, .inr (7, [.ref xf, .ref xs, .ref xk, .ref xp, .ref xd, .ref xo, .ref xn, .ref xr, .ref xy, .ref xi, .int u.1, .long zu, .long zv, .ref xt, .ref xq, .ref xb, .ref xw, .ref xl, .ref xm, .int zt, .int za, .int (nI nq), .int zc, .int ze, .ref xe, .int zh, .int zi, .int zq])), (xs, .inl (cI, 2, .inl seF)), (xk, .inl (cI, 2, .inl (nR kF))), (xp, .inl (cI, 2, .inl (nR spF))), (xd, .inl (cI, 2, .inl (nR deF))), (xo, .inl (cI, 2, .inl (bR pF))), (xn, .inl (cI, 732, .inl u.2.1)), (xr, .inl (cI, 366, .inl u.2.2.1)), (xi, .inl (cZ, 2, .inl u.2.2.2)), (xb, .inl (cI, 60, .inl bi)), (xf, .inl (cI, 7, .inl ru))]) (fun _ => rfl) (fun u H locs hF hst => ?_)
        obtain ⟨zl1_1, nm1_2, f1_3, dz1_4⟩ := u
        have hst : SS D A s [(x, .inr (7, [.ref xf, .ref xs, .ref xk, .ref xp, .ref xd, .ref xo, .ref xn, .ref xr, .ref xy, .ref xi, .int zl1_1, .long zu, .long zv, .ref xt, .ref xq, .ref xb, .ref xw, .ref xl, .ref xm, .int zt, .int za, .int (nI nq), .int zc, .int ze, .ref xe, .int zh, .int zi, .int zq])), (xs, .inl (cI, 2, .inl seF)), (xk, .inl (cI, 2, .inl (nR kF))), (xp, .inl (cI, 2, .inl (nR spF))), (xd, .inl (cI, 2, .inl (nR deF))), (xo, .inl (cI, 2, .inl (bR pF))), (xn, .inl (cI, 732, .inl nm1_2)), (xr, .inl (cI, 366, .inl f1_3)), (xi, .inl (cZ, 2, .inl dz1_4)), (xb, .inl (cI, 60, .inl bi)), (xf, .inl (cI, 7, .inl ru))] H locs := hst
        have hF : (ckM seF kF spF deF pF nm1_2 dz1_4) := hF
        have hF0_68 := hF
        refine W.eq (g2 := F0 m 71 ls [.int (ndM seF kF spF deF pF j0 bd), .int (cntI (fun m => decide (mnum (ndM seF kF spF deF pF j0) bi m ≤ nI cc)) kq)]) rfl ?_
        refine q_top (x' := mnum (ndM seF kF spF deF pF j0) bi kq) (by rw [mnum, ebd, nI_clamp (by omega)]) ?_
        refine lv_iload hx hb dX7_cuts_71 (lv_at hl 2 rfl) ?_
        refine lv_icmp_gt (tgt := 80) hx hb dX7_cuts_73 (by decide) (fun c_73 => ?_) (fun c_73 => ?_)
        · skip
          refine lv_iconst (v := 0) hx hb dX7_cuts_80 (by decide) ?_
          refine lv_iadd hx hb dX7_cuts_81 ?_
          refine q_top (x' := cntI (fun m => decide (mnum (ndM seF kF spF deF pF j0) bi m ≤ nI cc)) (kq + 1)) (by rw [cnt_f (f := fun m => decide (mnum (ndM seF kF spF deF pF j0) bi m ≤ nI cc)) (decide_eq_false (Int32.not_le.mpr c_73))]; exact Int32.add_zero _) ?_
          refine lv_istore (lv' := [(5, .int (cntI (fun m => decide (mnum (ndM seF kF spF deF pF j0) bi m ≤ nI cc)) (kq + 1))), (6, .int (nI kq)), (4, .int (nI cc)), (0, .ref x), (1, .int (nI j0)), (2, .int p1)]) hx hb dX7_cuts_82 hl (by decide) rfl (fun ls hl => ?_)
          refine lv_iinc (v := nI (kq + 1)) (lv' := [(6, .int (nI (kq + 1))), (5, .int (cntI (fun m => decide (mnum (ndM seF kF spF deF pF j0) bi m ≤ nI cc)) (kq + 1))), (4, .int (nI cc)), (0, .ref x), (1, .int (nI j0)), (2, .int p1)]) hx hb dX7_cuts_84 hl (k := 1) rfl (nI_next _) (by decide) rfl (fun ls hl => ?_)
          refine lv_goto (tgt := 48) hx hb dX7_cuts_87 (by decide) ?_
          exact ih zl1_1 nm1_2 f1_3 dz1_4 (kq + 1) cc (hF0_68) (by omega) (hcc) (by omega) _ _ _ (hst) (lv_sub hl [0, 1, 2, 3, 4, 5] rfl) (kk)
        · skip
          refine lv_iconst (v := 1) hx hb dX7_cuts_76 (by decide) ?_
          refine lv_goto (tgt := 81) hx hb dX7_cuts_77 (by decide) ?_
          refine lv_iadd hx hb dX7_cuts_81 ?_
          refine q_top (x' := cntI (fun m => decide (mnum (ndM seF kF spF deF pF j0) bi m ≤ nI cc)) (kq + 1)) (by rw [cnt_t (f := fun m => decide (mnum (ndM seF kF spF deF pF j0) bi m ≤ nI cc)) (decide_eq_true (Int32.not_lt.mp c_73))]) ?_
          refine lv_istore (lv' := [(5, .int (cntI (fun m => decide (mnum (ndM seF kF spF deF pF j0) bi m ≤ nI cc)) (kq + 1))), (6, .int (nI kq)), (4, .int (nI cc)), (0, .ref x), (1, .int (nI j0)), (2, .int p1)]) hx hb dX7_cuts_82 hl (by decide) rfl (fun ls hl => ?_)
          refine lv_iinc (v := nI (kq + 1)) (lv' := [(6, .int (nI (kq + 1))), (5, .int (cntI (fun m => decide (mnum (ndM seF kF spF deF pF j0) bi m ≤ nI cc)) (kq + 1))), (4, .int (nI cc)), (0, .ref x), (1, .int (nI j0)), (2, .int p1)]) hx hb dX7_cuts_84 hl (k := 1) rfl (nI_next _) (by decide) rfl (fun ls hl => ?_)
          refine lv_goto (tgt := 48) hx hb dX7_cuts_87 (by decide) ?_
          exact ih zl1_1 nm1_2 f1_3 dz1_4 (kq + 1) cc (hF0_68) (by omega) (hcc) (by omega) _ _ _ (hst) (lv_sub hl [0, 1, 2, 3, 4, 5] rfl) (kk)
  have loop_34 : ∀ (fu : Nat) (zl2 : Int32) (nm2 : Nat → Int32) (f2 : Nat → Int32) (dz2 : Nat → Int32) (cc : Nat), (ckM seF kF spF deF pF nm2 dz2) → (ftf (!isJarB p0) false (!decide (0 ≤ p1)) (!decide (p1 ≤ 60)) = 0) → (∃ q : Nat, q ≤ 60 ∧ p1 = nI q) → (cc ≤ 367) → (∀ d, d < cc → cntI (fun m => decide (mnum (ndM seF kF spF deF pF j0) bi m ≤ nI d)) nq < p1) → (367 - cc) < fu → ∀ (H : Heap) (locs : List Loc) (ls : Array Slot), SS D A s [(x, .inr (7, [.ref xf, .ref xs, .ref xk, .ref xp, .ref xd, .ref xo, .ref xn, .ref xr, .ref xy, .ref xi, .int zl2, .long zu, .long zv, .ref xt, .ref xq, .ref xb, .ref xw, .ref xl, .ref xm, .int zt, .int za, .int (nI nq), .int zc, .int ze, .ref xe, .int zh, .int zi, .int zq])), (xs, .inl (cI, 2, .inl seF)), (xk, .inl (cI, 2, .inl (nR kF))), (xp, .inl (cI, 2, .inl (nR spF))), (xd, .inl (cI, 2, .inl (nR deF))), (xo, .inl (cI, 2, .inl (bR pF))), (xn, .inl (cI, 732, .inl nm2)), (xr, .inl (cI, 366, .inl f2)), (xi, .inl (cZ, 2, .inl dz2)), (xb, .inl (cI, 60, .inl bi)), (xf, .inl (cI, 7, .inl ru))] H locs → lv_has ls 7 [(4, .int (nI cc)), (0, .ref x), (1, .int (nI j0)), (2, .int p1)] → W p l e (rmN 3 0 0) s m args below meth c H locs 0 0 QQ (F0 m 34 ls []) := by
    intro fu
    induction fu with
    | zero =>
      intro zl2 nm2 f2 dz2 cc hck2 hR hq h1 h2 hn
      exact absurd hn (Nat.not_lt_zero _)
    | succ fu ih =>
      intro zl2 nm2 f2 dz2 cc hck2 hR hq h1 h2 hn H locs ls hst hl
      refine lv_iload hx hb dX7_cuts_34 (lv_at hl 0 rfl) ?_
      refine lv_sipush (v := 366) hx hb dX7_cuts_36 (by decide) ?_
      refine lv_icmp_gt (tgt := 105) hx hb dX7_cuts_39 (by decide) (fun c_39 => ?_) (fun c_39 => ?_)
      · skip
        have hk1 : cc = 367 := by have := (nI_ltI (a := 366) (b := cc) (by decide) (by omega)).mp c_39; omega
        subst hk1
        skip
        refine lv_bipush (v := (-9)) hx hb dX7_cuts_105 (by decide) ?_
        exact q_retI hQ hE hr hk hst (zl2, nm2, f2, dz2) (by rw [if_pos hR]; exact (lc_no hq (by assumption) (fun j hjn => by obtain ⟨bd2, hb2, eb2⟩ := vp_in_of (hbi j hjn) (by decide); rw [mnum, eb2, nI_clamp (by omega)]; exact nd_v hj3 hb2) h2).symm) (hck2) (by simp only [if_pos hR]) dX7_cuts_107
      · skip
        have hk1 : cc ≤ 366 := by have := Nat.le_of_not_lt (fun z => c_39 (nI_lt (a := 366) (b := cc) z (by omega))); omega
        refine lv_iconst (v := 0) hx hb dX7_cuts_42 (by decide) ?_
        refine lv_istore (lv' := [(5, .int 0), (4, .int (nI cc)), (0, .ref x), (1, .int (nI j0)), (2, .int p1)]) hx hb dX7_cuts_43 hl (by decide) rfl (fun ls hl => ?_)
        refine lv_iconst (v := 0) hx hb dX7_cuts_45 (by decide) ?_
        refine lv_istore (lv' := [(6, .int 0), (5, .int 0), (4, .int (nI cc)), (0, .ref x), (1, .int (nI j0)), (2, .int p1)]) hx hb dX7_cuts_46 hl (by decide) rfl (fun ls hl => ?_)
        refine loop_48 (nq + 1) zl2 nm2 f2 dz2 0 cc (hck2) (Nat.zero_le _) (by omega) (by omega) _ _ _ (hst) (lv_sub hl [0, 1, 2, 3, 4, 5] rfl) (fun zl2 nm2 f2 dz2 H locs ls hck2 hst hl => ?_)
        refine lv_iload hx hb dX7_cuts_90 (lv_at hl 0 rfl) ?_
        refine lv_iload_n hx hb dX7_cuts_92 rfl (lv_at hl 4 rfl) ?_
        refine lv_icmp_lt (tgt := 99) hx hb dX7_cuts_93 (by decide) (fun c_93 => ?_) (fun c_93 => ?_)
        · skip
          refine lv_iinc (v := nI (cc + 1)) (lv' := [(4, .int (nI (cc + 1))), (5, .int (cntI (fun m => decide (mnum (ndM seF kF spF deF pF j0) bi m ≤ nI cc)) nq)), (0, .ref x), (1, .int (nI j0)), (2, .int p1)]) hx hb dX7_cuts_99 hl (k := 1) rfl (nI_next _) (by decide) rfl (fun ls hl => ?_)
          refine lv_goto (tgt := 34) hx hb dX7_cuts_102 (by decide) ?_
          exact ih zl2 nm2 f2 dz2 (cc + 1) (hck2) (hR) (hq) (by omega) (fun d hd => by by_cases e : d = cc; (rw [e]; exact c_93); exact h2 d (by omega)) (by omega) _ _ _ (hst) (lv_sub hl [0, 2, 3, 4] rfl)
        · skip
          refine lv_iload hx hb dX7_cuts_96 (lv_at hl 1 rfl) ?_
          exact q_retI hQ hE hr hk hst (zl2, nm2, f2, dz2) (by rw [if_pos hR]; exact (lc_yes hq (by assumption) (fun j hjn => by obtain ⟨bd2, hb2, eb2⟩ := vp_in_of (hbi j hjn) (by decide); rw [mnum, eb2, nI_clamp (by omega)]; exact nd_v hj3 hb2) hk1 c_93 h2).symm) (hck2) (by simp only [if_pos hR]) dX7_cuts_98
  refine lv_iload_n hx hb dX7_cuts_0 rfl (lv_at hl 1 rfl) ?_
  refine q_goI (q_rS hE lk_X7_77 (c_X7_isJar l D cI cJ cZ p0 s.heap.size) hst [] rfl rfl rfl hl.1 ⟨(Nat.le_of_ble_eq_true rfl), (Nat.le_of_ble_eq_true rfl)⟩ (rest := []) rfl (Nat.le_of_ble_eq_true rfl) dX7_cuts_1 ⟨(Nat.le_of_ble_eq_true rfl), (Nat.le_of_ble_eq_true rfl)⟩) hE hst [] rfl (fun _ => rfl) (fun (_ : Unit) => [(x, .inr (7, [.ref xf, .ref xs, .ref xk, .ref xp, .ref xd, .ref xo, .ref xn, .ref xr, .ref xy, .ref xi, .int zl, .long zu, .long zv, .ref xt, .ref xq, .ref xb, .ref xw, .ref xl, .ref xm, .int zt, .int za, .int (nI nq), .int zc, .int ze, .ref xe, .int zh, .int zi, .int zq])), (xs, .inl (cI, 2, .inl seF)), (xk, .inl (cI, 2, .inl (nR kF))), (xp, .inl (cI, 2, .inl (nR spF))), (xd, .inl (cI, 2, .inl (nR deF))), (xo, .inl (cI, 2, .inl (bR pF))), (xn, .inl (cI, 732, .inl nm)), (xr, .inl (cI, 366, .inl f)), (xi, .inl (cZ, 2, .inl dz)), (xb, .inl (cI, 60, .inl bi)), (xf, .inl (cI, 7, .inl ru))]) (fun _ => rfl) (fun _ H locs hF hst => ?_)
  refine lv_if_ne (tgt := 13) hx hb dX7_cuts_4 (by decide) (fun c_4 => ?_) (fun c_4 => ?_)
  · skip
    have c_4 := b2i_t c_4
    have hR : ftf (!isJarB p0) false (!decide (0 ≤ p1)) (!decide (p1 ≤ 60)) = outI p1 0 60 := (ftf_j c_4 _ _ _).trans (ftf_out _ _ _)
    obtain rfl := hsl c_4
    skip
    refine lv_iload_n hx hb dX7_cuts_13 rfl (lv_at hl 2 rfl) ?_
    refine lv_iconst (v := 0) hx hb dX7_cuts_14 (by decide) ?_
    refine lv_bipush (v := 60) hx hb dX7_cuts_15 (by decide) ?_
    refine q_goI (q_rS hE lk_X7_104 (c_X7_out l D cI cJ cZ p1 0 60 H.size) hst [] rfl rfl rfl hl.1 ⟨(Nat.le_of_ble_eq_true rfl), (Nat.le_of_ble_eq_true rfl)⟩ (rest := []) rfl (Nat.le_of_ble_eq_true rfl) dX7_cuts_17 ⟨(Nat.le_of_ble_eq_true rfl), (Nat.le_of_ble_eq_true rfl)⟩) hE hst [] rfl (fun _ => rfl) (fun (_ : Unit) => [(x, .inr (7, [.ref xf, .ref xs, .ref xk, .ref xp, .ref xd, .ref xo, .ref xn, .ref xr, .ref xy, .ref xi, .int zl, .long zu, .long zv, .ref xt, .ref xq, .ref xb, .ref xw, .ref xl, .ref xm, .int zt, .int za, .int (nI nq), .int zc, .int ze, .ref xe, .int zh, .int zi, .int zq])), (xs, .inl (cI, 2, .inl seF)), (xk, .inl (cI, 2, .inl (nR kF))), (xp, .inl (cI, 2, .inl (nR spF))), (xd, .inl (cI, 2, .inl (nR deF))), (xo, .inl (cI, 2, .inl (bR pF))), (xn, .inl (cI, 732, .inl nm)), (xr, .inl (cI, 366, .inl f)), (xi, .inl (cZ, 2, .inl dz)), (xb, .inl (cI, 60, .inl bi)), (xf, .inl (cI, 7, .inl ru))]) (fun _ => rfl) (fun _ H locs hF hst => ?_)
    refine lv_istore_n (lv' := [(3, .int (outI p1 0 60)), (0, .ref x), (1, .int (nI j0)), (2, .int p1)]) hx hb dX7_cuts_20 rfl hl (by decide) rfl (fun ls hl => ?_)
    refine lv_iload_n hx hb dX7_cuts_21 rfl (lv_at hl 0 rfl) ?_
    refine lv_if_eq (tgt := 31) hx hb dX7_cuts_22 (by decide) (fun c_22 => ?_) (fun c_22 => ?_)
    · skip
      rw [c_22] at hR
      have hq : ∃ q : Nat, q ≤ 60 ∧ p1 = nI q := by obtain ⟨q1, -, hq, e⟩ := in_nI (a := 0) (b := 60) (by decide) (by decide) (out_0 c_22).1 (out_0 c_22).2; exact ⟨q1, hq, e⟩
      refine lv_iconst (v := 0) hx hb dX7_cuts_31 (by decide) ?_
      refine lv_istore (lv' := [(4, .int 0), (3, .int (outI p1 0 60)), (0, .ref x), (1, .int (nI j0)), (2, .int p1)]) hx hb dX7_cuts_32 hl (by decide) rfl (fun ls hl => ?_)
      exact loop_34 (368) zl nm f dz 0 (hck) (hR) (hq) (by decide) (fun d hd => absurd hd (Nat.not_lt_zero _)) (by decide) _ _ _ (hst) (lv_sub hl [0, 2, 3, 4] rfl)
    · skip
      have hN := c_22
      rw [← hR] at hN
      refine lv_aload_n hx hb dX7_cuts_25 rfl (lv_at hl 1 rfl) ?_
      refine lv_iload_n hx hb dX7_cuts_26 rfl (lv_at hl 0 rfl) ?_
      refine q_goI (q_rV hE lk_X7_81 (c_X7_no l D cI cJ cZ x xf xs xk xp xd xo xn xr xy xi xt xq xb xw xl xm xe zl zt za (nI nq) zc ze zh zi zq zu zv ru (outI p1 0 60) (out_in _ _ _) H.size) hst [0, 10] rfl rfl rfl rfl rfl hl.1 ⟨(Nat.le_of_ble_eq_true rfl), (Nat.le_of_ble_eq_true rfl)⟩ (rest := []) rfl (Nat.le_of_ble_eq_true rfl) dX7_cuts_27 ⟨(Nat.le_of_ble_eq_true rfl), (Nat.le_of_ble_eq_true rfl)⟩) hE hst [0, 10] rfl (fun _ => rfl) (fun (_ : Unit) => [(x, .inr (7, [.ref xf, .ref xs, .ref xk, .ref xp, .ref xd, .ref xo, .ref xn, .ref xr, .ref xy, .ref xi, .int zl, .long zu, .long zv, .ref xt, .ref xq, .ref xb, .ref xw, .ref xl, .ref xm, .int zt, .int za, .int (nI nq), .int zc, .int ze, .ref xe, .int zh, .int zi, .int zq])), (xs, .inl (cI, 2, .inl seF)), (xk, .inl (cI, 2, .inl (nR kF))), (xp, .inl (cI, 2, .inl (nR spF))), (xd, .inl (cI, 2, .inl (nR deF))), (xo, .inl (cI, 2, .inl (bR pF))), (xn, .inl (cI, 732, .inl nm)), (xr, .inl (cI, 366, .inl f)), (xi, .inl (cZ, 2, .inl dz)), (xb, .inl (cI, 60, .inl bi)), (xf, .inl (cI, 7, .inl (bmp ru (outI p1 0 60))))]) (fun _ => rfl) (fun _ H locs hF hst => ?_)
      exact q_retI hQ hE hr hk hst (zl, nm, f, dz) (by rw [if_neg hN]; exact hR.symm) (hck) (by simp only [hR, if_neg c_22]) dX7_cuts_30
  · skip
    have c_4 := b2i_f c_4
    refine lv_aload_n hx hb dX7_cuts_7 rfl (lv_at hl 0 rfl) ?_
    refine lv_iconst (v := (-1)) hx hb dX7_cuts_8 (by decide) ?_
    refine q_goI (q_rV hE lk_X7_81 (c_X7_no l D cI cJ cZ x xf xs xk xp xd xo xn xr xy xi xt xq xb xw xl xm xe zl zt za (nI nq) zc ze zh zi zq zu zv ru (-1) (by rw [vp_in_iff]; decide) H.size) hst [0, 10] rfl rfl rfl rfl rfl hl.1 ⟨(Nat.le_of_ble_eq_true rfl), (Nat.le_of_ble_eq_true rfl)⟩ (rest := []) rfl (Nat.le_of_ble_eq_true rfl) dX7_cuts_9 ⟨(Nat.le_of_ble_eq_true rfl), (Nat.le_of_ble_eq_true rfl)⟩) hE hst [0, 10] rfl (fun _ => rfl) (fun (_ : Unit) => [(x, .inr (7, [.ref xf, .ref xs, .ref xk, .ref xp, .ref xd, .ref xo, .ref xn, .ref xr, .ref xy, .ref xi, .int zl, .long zu, .long zv, .ref xt, .ref xq, .ref xb, .ref xw, .ref xl, .ref xm, .int zt, .int za, .int (nI nq), .int zc, .int ze, .ref xe, .int zh, .int zi, .int zq])), (xs, .inl (cI, 2, .inl seF)), (xk, .inl (cI, 2, .inl (nR kF))), (xp, .inl (cI, 2, .inl (nR spF))), (xd, .inl (cI, 2, .inl (nR deF))), (xo, .inl (cI, 2, .inl (bR pF))), (xn, .inl (cI, 732, .inl nm)), (xr, .inl (cI, 366, .inl f)), (xi, .inl (cZ, 2, .inl dz)), (xb, .inl (cI, 60, .inl bi)), (xf, .inl (cI, 7, .inl (bmp ru (-1))))]) (fun _ => rfl) (fun _ H locs hF hst => ?_)
    exact q_retI hQ hE hr hk hst (zl, nm, f, dz) (by rw [show ftf (!isJarB p0) false (!decide (0 ≤ p1)) (!decide (p1 ≤ 60)) = -1 from (by rw [c_4, Bool.not_false]; rfl), if_neg (show ¬ (-1 : Int32) = 0 by decide)]) (hck) (by simp only [show ftf (!isJarB p0) false (!decide (0 ≤ p1)) (!decide (p1 ≤ 60)) = -1 from (by rw [c_4, Bool.not_false]; rfl), if_neg (show ¬ (-1 : Int32) = 0 by decide)]) dX7_cuts_12
set_option maxHeartbeats 4000000 in
set_option maxRecDepth 100000 in
theorem c_X7_group (l : Launch) (D : va_G) (cI cJ cZ : ClassId) (x : Nat) (xf : Nat) (xs : Nat) (xk : Nat) (xp : Nat) (xd : Nat) (xo : Nat) (xn : Nat) (xr : Nat) (xy : Nat) (xi : Nat) (xt : Nat) (xq : Nat) (xb : Nat) (xw : Nat) (xl : Nat) (xm : Nat) (xe : Nat) (zl : Int32) (zt : Int32) (za : Int32) (zc : Int32) (ze : Int32) (zh : Int32) (zi : Int32) (zq : Int32) (zu : Int64) (zv : Int64) (nq : Nat) (ru : Nat → Int32) (seF : Nat → Int32) (kF : Nat → Nat) (spF : Nat → Nat) (deF : Nat → Nat) (pF : Nat → Bool) (nm : Nat → Int32) (f : Nat → Int32) (dz : Nat → Int32) (ki : Nat → Int32) (bi : Nat → Int32) (pa : Nat → Int32) (la : Nat → Int32) (j0 : Nat) (p0 : Int32) (p1 : Int32) (p2 : Int32) (p3 : Int32) (hj : j0 < 2) (hsl : isJarB p0 = true → p0 = nI j0) (hjo : joM kF spF deF) (hck : ckM seF kF spF deF pF nm dz) (hn : nq ≤ 60) (hbi : ∀ j, j < nq → vp_in (bi j) 366) (hki : ∀ j, j < nq → vp_in (ki j) 6) (hpa : ∀ j, j < nq → vp_in (pa j) 10000) (hla : ∀ i, i < 5 → vp_in (la i) 1000) (hle : 1 ≤ ze) : CtL l D cI cJ cZ yX7_group cX7_group 9 (some .long) 6 [.ref x, .int p0, .int p1, .int p2, .int p3] [(x, .inr (7, [.ref xf, .ref xs, .ref xk, .ref xp, .ref xd, .ref xo, .ref xn, .ref xr, .ref xy, .ref xi, .int zl, .long zu, .long zv, .ref xt, .ref xq, .ref xb, .ref xw, .ref xl, .ref xm, .int zt, .int za, .int (nI nq), .int zc, .int ze, .ref xe, .int zh, .int zi, .int zq])), (xs, .inl (cI, 2, .inl seF)), (xk, .inl (cI, 2, .inl (nR kF))), (xp, .inl (cI, 2, .inl (nR spF))), (xd, .inl (cI, 2, .inl (nR deF))), (xo, .inl (cI, 2, .inl (bR pF))), (xn, .inl (cI, 732, .inl nm)), (xr, .inl (cI, 366, .inl f)), (xi, .inl (cZ, 2, .inl dz)), (xq, .inl (cI, 60, .inl ki)), (xb, .inl (cI, 60, .inl bi)), (xw, .inl (cI, 60, .inl pa)), (xl, .inl (cI, 5, .inl la)), (xy, .inl (cI, 12, .inl (nR mln))), (xf, .inl (cI, 7, .inl ru))] (fun (u : Int32 × (Nat → Int32) × (Nat → Int32) × (Nat → Int32) × Int64 × Int64) => if ftf (!isJarB p0 || !isMonthB p1) (!isJarB p3) (!decide (0 ≤ p2)) (!decide (p2 ≤ 40)) = 0 then (if decide (ze ≤ cntI (fun m => decide (monOf (bi m) = p1)) nq) = true then (if p3 = 0 then becA (gsL (fun m => decide (monOf (bi m) = p1)) (wgL zc (ndM seF kF spF deF pF j0) ki bi pa la p2) nq) (cntI (fun m => decide (monOf (bi m) = p1)) nq).toInt64 else becB (gsL (fun m => decide (monOf (bi m) = p1)) (wgL zc (ndM seF kF spF deF pF j0) ki bi pa la p2) nq) (cntI (fun m => decide (monOf (bi m) = p1)) nq).toInt64) else (if p3 = 0 then -9 else 1)) else lgR (ftf (!isJarB p0 || !isMonthB p1) (!isJarB p3) (!decide (0 ≤ p2)) (!decide (p2 ≤ 40)))) (fun (u : Int32 × (Nat → Int32) × (Nat → Int32) × (Nat → Int32) × Int64 × Int64) => ckM seF kF spF deF pF u.2.1 u.2.2.2.1) (fun (u : Int32 × (Nat → Int32) × (Nat → Int32) × (Nat → Int32) × Int64 × Int64) => [(x, .inr (7, [.ref xf, .ref xs, .ref xk, .ref xp, .ref xd, .ref xo, .ref xn, .ref xr, .ref xy, .ref xi, .int u.1, .long u.2.2.2.2.1, .long u.2.2.2.2.2, .ref xt, .ref xq, .ref xb, .ref xw, .ref xl, .ref xm, .int zt, .int za, .int (nI nq), .int zc, .int ze, .ref xe, .int zh, .int zi, .int zq])), (xs, .inl (cI, 2, .inl seF)), (xk, .inl (cI, 2, .inl (nR kF))), (xp, .inl (cI, 2, .inl (nR spF))), (xd, .inl (cI, 2, .inl (nR deF))), (xo, .inl (cI, 2, .inl (bR pF))), (xn, .inl (cI, 732, .inl u.2.1)), (xr, .inl (cI, 366, .inl u.2.2.1)), (xi, .inl (cZ, 2, .inl u.2.2.2.1)), (xq, .inl (cI, 60, .inl ki)), (xb, .inl (cI, 60, .inl bi)), (xw, .inl (cI, 60, .inl pa)), (xl, .inl (cI, 5, .inl la)), (xy, .inl (cI, 12, .inl (nR mln))), (xf, .inl (cI, 7, .inl (if ftf (!isJarB p0 || !isMonthB p1) (!isJarB p3) (!decide (0 ≤ p2)) (!decide (p2 ≤ 40)) = 0 then ru else bmp ru (ftf (!isJarB p0 || !isMonthB p1) (!isJarB p3) (!decide (0 ≤ p2)) (!decide (p2 ≤ 40))))))]) := by
  refine q_entL (own := RX7) rfl rfl (Nat.le_of_ble_eq_true rfl) ?_
  intro p e s m args below meth c A ls QQ hQ hE hx hb hr hk hin hA hl hst
  have hl : lv_has ls 9 [(0, .ref x), (1, .int p0), (2, .int p1), (3, .int p2), (4, .int p3)] := hl
  have loop_84 : ∀ (fu : Nat) (zl2 : Int32) (nm2 : Nat → Int32) (f2 : Nat → Int32) (dz2 : Nat → Int32) (kq : Nat) (y1 : Nat), (ckM seF kF spF deF pF nm2 dz2) → (kq ≤ nq) → (y1 ≤ 40) → (p2 = nI y1) → (ftf (!isJarB p0 || !isMonthB p1) (!isJarB p3) (!decide (0 ≤ p2)) (!decide (p2 ≤ 40)) = 0) → (ze ≤ cntI (fun m => decide (monOf (bi m) = p1)) nq) → (nq - kq) < fu → ∀ (H : Heap) (locs : List Loc) (ls : Array Slot), SS D A s [(x, .inr (7, [.ref xf, .ref xs, .ref xk, .ref xp, .ref xd, .ref xo, .ref xn, .ref xr, .ref xy, .ref xi, .int zl2, .long zu, .long zv, .ref xt, .ref xq, .ref xb, .ref xw, .ref xl, .ref xm, .int zt, .int za, .int (nI nq), .int zc, .int ze, .ref xe, .int zh, .int zi, .int zq])), (xs, .inl (cI, 2, .inl seF)), (xk, .inl (cI, 2, .inl (nR kF))), (xp, .inl (cI, 2, .inl (nR spF))), (xd, .inl (cI, 2, .inl (nR deF))), (xo, .inl (cI, 2, .inl (bR pF))), (xn, .inl (cI, 732, .inl nm2)), (xr, .inl (cI, 366, .inl f2)), (xi, .inl (cZ, 2, .inl dz2)), (xq, .inl (cI, 60, .inl ki)), (xb, .inl (cI, 60, .inl bi)), (xw, .inl (cI, 60, .inl pa)), (xl, .inl (cI, 5, .inl la)), (xy, .inl (cI, 12, .inl (nR mln))), (xf, .inl (cI, 7, .inl ru))] H locs → lv_has ls 9 [(8, .int (nI kq)), (6, .long (gsL (fun m => decide (monOf (bi m) = p1)) (wgL zc (ndM seF kF spF deF pF j0) ki bi pa la p2) kq)), (0, .ref x), (1, .int (nI j0)), (2, .int p1), (3, .int p2), (4, .int p3)] → W p l e (rmN 6 0 0) s m args below meth c H locs 0 0 QQ (F0 m 84 ls []) := by
    intro fu
    induction fu with
    | zero =>
      intro zl2 nm2 f2 dz2 kq y1 hck2 h1 hy1 ey hR hsh hn
      exact absurd hn (Nat.not_lt_zero _)
    | succ fu ih =>
      intro zl2 nm2 f2 dz2 kq y1 hck2 h1 hy1 ey hR hsh hn H locs ls hst hl
      refine lv_iload hx hb dX7_group_84 (lv_at hl 0 rfl) ?_
      refine lv_aload_n hx hb dX7_group_86 rfl (lv_at hl 2 rfl) ?_
      refine gf_X7_163 hE hst 0 rfl rfl dX7_group_87 ?_
      refine lv_icmp_ge (tgt := 131) hx hb dX7_group_90 (by decide) (fun c_90 => ?_) (fun c_90 => ?_)
      · skip
        have hk1 : nq = kq := Nat.le_antisymm (Nat.le_of_not_lt (fun z => nI_ge z (by omega) c_90)) h1
        subst hk1
        skip
        refine lv_aload_n hx hb dX7_group_131 rfl (lv_at hl 2 rfl) ?_
        refine lv_lload hx hb dX7_group_132 (lv_at hl 1 rfl) ?_
        refine lv_aload_n hx hb dX7_group_134 rfl (lv_at hl 2 rfl) ?_
        refine lv_iload_n hx hb dX7_group_135 rfl (lv_at hl 4 rfl) ?_
        refine q_goI (q_rV hE lk_X7_202 (c_X7_bornIn l D cI cJ cZ x xf xs xk xp xd xo xn xr xy xi xt xq xb xw xl xm xe zl2 zt za zc ze zh zi zq zu zv nq bi p1 ((by assumption)) (hbi) H.size) hst [0, 13, 10] rfl rfl rfl rfl rfl hl.1 ⟨(Nat.le_of_ble_eq_true rfl), (Nat.le_of_ble_eq_true rfl)⟩ (rest := [.long (gsL (fun m => decide (monOf (bi m) = p1)) (wgL zc (ndM seF kF spF deF pF j0) ki bi pa la p2) nq), .ref x]) rfl (Nat.le_of_ble_eq_true rfl) dX7_group_136 ⟨(Nat.le_of_ble_eq_true rfl), (Nat.le_of_ble_eq_true rfl)⟩) hE hst [0, 13, 10] rfl (fun _ => rfl) (fun (_ : Unit) => [(x, .inr (7, [.ref xf, .ref xs, .ref xk, .ref xp, .ref xd, .ref xo, .ref xn, .ref xr, .ref xy, .ref xi, .int zl2, .long zu, .long zv, .ref xt, .ref xq, .ref xb, .ref xw, .ref xl, .ref xm, .int zt, .int za, .int (nI nq), .int zc, .int ze, .ref xe, .int zh, .int zi, .int zq])), (xs, .inl (cI, 2, .inl seF)), (xk, .inl (cI, 2, .inl (nR kF))), (xp, .inl (cI, 2, .inl (nR spF))), (xd, .inl (cI, 2, .inl (nR deF))), (xo, .inl (cI, 2, .inl (bR pF))), (xn, .inl (cI, 732, .inl nm2)), (xr, .inl (cI, 366, .inl f2)), (xi, .inl (cZ, 2, .inl dz2)), (xq, .inl (cI, 60, .inl ki)), (xb, .inl (cI, 60, .inl bi)), (xw, .inl (cI, 60, .inl pa)), (xl, .inl (cI, 5, .inl la)), (xy, .inl (cI, 12, .inl (nR mln))), (xf, .inl (cI, 7, .inl ru))]) (fun _ => rfl) (fun _ H locs hF hst => ?_)
        refine lv_i2l (v := (cntI (fun m => decide (monOf (bi m) = p1)) nq).toInt64) hx hb dX7_group_139 rfl ?_
        refine q_goV (q_rV hE lk_X7_132 (c_X7_lessens l D cI cJ cZ x xf xs xk xp xd xo xn xr xy xi xt xq xb xw xl xm xe zl2 zt za (nI nq) zc ze zh zi zq zu zv (gsL (fun m => decide (monOf (bi m) = p1)) (wgL zc (ndM seF kF spF deF pF j0) ki bi pa la p2) nq) ((cntI (fun m => decide (monOf (bi m) = p1)) nq).toInt64) (by rw [ey]; exact gp_ok (by assumption) (wgL_ok hpa hla hy1) hle hsh) H.size) hst [0] rfl rfl rfl rfl rfl hl.1 ⟨(Nat.le_of_ble_eq_true rfl), (Nat.le_of_ble_eq_true rfl)⟩ (rest := []) rfl (Nat.le_of_ble_eq_true rfl) dX7_group_140 ⟨(Nat.le_of_ble_eq_true rfl), (Nat.le_of_ble_eq_true rfl)⟩) hE hst [0] rfl (fun _ => rfl) (fun (_ : Unit) => [(x, .inr (7, [.ref xf, .ref xs, .ref xk, .ref xp, .ref xd, .ref xo, .ref xn, .ref xr, .ref xy, .ref xi, .int zl2, .long (becA (gsL (fun m => decide (monOf (bi m) = p1)) (wgL zc (ndM seF kF spF deF pF j0) ki bi pa la p2) nq) ((cntI (fun m => decide (monOf (bi m) = p1)) nq).toInt64)), .long (becB (gsL (fun m => decide (monOf (bi m) = p1)) (wgL zc (ndM seF kF spF deF pF j0) ki bi pa la p2) nq) ((cntI (fun m => decide (monOf (bi m) = p1)) nq).toInt64)), .ref xt, .ref xq, .ref xb, .ref xw, .ref xl, .ref xm, .int zt, .int za, .int (nI nq), .int zc, .int ze, .ref xe, .int zh, .int zi, .int zq])), (xs, .inl (cI, 2, .inl seF)), (xk, .inl (cI, 2, .inl (nR kF))), (xp, .inl (cI, 2, .inl (nR spF))), (xd, .inl (cI, 2, .inl (nR deF))), (xo, .inl (cI, 2, .inl (bR pF))), (xn, .inl (cI, 732, .inl nm2)), (xr, .inl (cI, 366, .inl f2)), (xi, .inl (cZ, 2, .inl dz2)), (xq, .inl (cI, 60, .inl ki)), (xb, .inl (cI, 60, .inl bi)), (xw, .inl (cI, 60, .inl pa)), (xl, .inl (cI, 5, .inl la)), (xy, .inl (cI, 12, .inl (nR mln))), (xf, .inl (cI, 7, .inl ru))]) (fun _ => rfl) (fun _ H locs hF hst => ?_)
        refine lv_aload_n hx hb dX7_group_143 rfl (lv_at hl 2 rfl) ?_
        refine lv_iload hx hb dX7_group_144 (lv_at hl 6 rfl) ?_
        refine q_goL (q_rV hE lk_X7_136 (c_X7_told l D cI cJ cZ x xf xs xk xp xd xo xn xr xy xi xt xq xb xw xl xm xe zl2 zt za (nI nq) zc ze zh zi zq (becA (gsL (fun m => decide (monOf (bi m) = p1)) (wgL zc (ndM seF kF spF deF pF j0) ki bi pa la p2) nq) ((cntI (fun m => decide (monOf (bi m) = p1)) nq).toInt64)) (becB (gsL (fun m => decide (monOf (bi m) = p1)) (wgL zc (ndM seF kF spF deF pF j0) ki bi pa la p2) nq) ((cntI (fun m => decide (monOf (bi m) = p1)) nq).toInt64)) p3 H.size) hst [0] rfl rfl rfl rfl rfl hl.1 ⟨(Nat.le_of_ble_eq_true rfl), (Nat.le_of_ble_eq_true rfl)⟩ (rest := []) rfl (Nat.le_of_ble_eq_true rfl) dX7_group_146 ⟨(Nat.le_of_ble_eq_true rfl), (Nat.le_of_ble_eq_true rfl)⟩) hE hst [0] rfl (fun _ => rfl) (fun (_ : Unit) => [(x, .inr (7, [.ref xf, .ref xs, .ref xk, .ref xp, .ref xd, .ref xo, .ref xn, .ref xr, .ref xy, .ref xi, .int zl2, .long (becA (gsL (fun m => decide (monOf (bi m) = p1)) (wgL zc (ndM seF kF spF deF pF j0) ki bi pa la p2) nq) ((cntI (fun m => decide (monOf (bi m) = p1)) nq).toInt64)), .long (becB (gsL (fun m => decide (monOf (bi m) = p1)) (wgL zc (ndM seF kF spF deF pF j0) ki bi pa la p2) nq) ((cntI (fun m => decide (monOf (bi m) = p1)) nq).toInt64)), .ref xt, .ref xq, .ref xb, .ref xw, .ref xl, .ref xm, .int zt, .int za, .int (nI nq), .int zc, .int ze, .ref xe, .int zh, .int zi, .int zq])), (xs, .inl (cI, 2, .inl seF)), (xk, .inl (cI, 2, .inl (nR kF))), (xp, .inl (cI, 2, .inl (nR spF))), (xd, .inl (cI, 2, .inl (nR deF))), (xo, .inl (cI, 2, .inl (bR pF))), (xn, .inl (cI, 732, .inl nm2)), (xr, .inl (cI, 366, .inl f2)), (xi, .inl (cZ, 2, .inl dz2)), (xq, .inl (cI, 60, .inl ki)), (xb, .inl (cI, 60, .inl bi)), (xw, .inl (cI, 60, .inl pa)), (xl, .inl (cI, 5, .inl la)), (xy, .inl (cI, 12, .inl (nR mln))), (xf, .inl (cI, 7, .inl ru))]) (fun _ => rfl) (fun _ H locs hF hst => ?_)
        exact q_retL hQ hE hr hk hst (zl2, nm2, f2, dz2, becA (gsL (fun m => decide (monOf (bi m) = p1)) (wgL zc (ndM seF kF spF deF pF j0) ki bi pa la p2) nq) ((cntI (fun m => decide (monOf (bi m) = p1)) nq).toInt64), becB (gsL (fun m => decide (monOf (bi m) = p1)) (wgL zc (ndM seF kF spF deF pF j0) ki bi pa la p2) nq) ((cntI (fun m => decide (monOf (bi m) = p1)) nq).toInt64)) (by rw [if_pos hR, if_pos (decide_eq_true hsh)]) (hck2) (by simp only [if_pos hR]) dX7_group_149
      · skip
        have hk1 : kq < nq := Nat.lt_of_not_le (fun z => c_90 (nI_le z (by omega)))
        obtain ⟨bd, hbd, ebd⟩ := vp_in_of (hbi kq hk1) (by decide)
        refine lv_lload hx hb dX7_group_93 (lv_at hl 1 rfl) ?_
        refine lv_aload_n hx hb dX7_group_95 rfl (lv_at hl 2 rfl) ?_
        refine lv_aload_n hx hb dX7_group_96 rfl (lv_at hl 2 rfl) ?_
        refine gf_X7_47 hE hst 0 rfl rfl dX7_group_97 ?_
        refine lv_iload hx hb dX7_group_100 (lv_at hl 0 rfl) ?_
        refine q_aldN hE hst 10 rfl kq (rfl) (by omega) (by decide) dX7_group_102 ?_
        refine q_top (x' := nI bd) (ebd) ?_
        refine q_goI (q_rV hE lk_X7_199 (c_X7_monthOf l D cI cJ cZ x xf xs xk xp xd xo xn xr xy xi xt xq xb xw xl xm xe zl2 zt za (nI nq) zc ze zh zi zq zu zv bd (hbd) H.size) hst [0, 13] rfl rfl rfl rfl rfl hl.1 ⟨(Nat.le_of_ble_eq_true rfl), (Nat.le_of_ble_eq_true rfl)⟩ (rest := [.long (gsL (fun m => decide (monOf (bi m) = p1)) (wgL zc (ndM seF kF spF deF pF j0) ki bi pa la p2) kq)]) rfl (Nat.le_of_ble_eq_true rfl) dX7_group_103 ⟨(Nat.le_of_ble_eq_true rfl), (Nat.le_of_ble_eq_true rfl)⟩) hE hst [0, 13] rfl (fun _ => rfl) (fun (_ : Unit) => [(x, .inr (7, [.ref xf, .ref xs, .ref xk, .ref xp, .ref xd, .ref xo, .ref xn, .ref xr, .ref xy, .ref xi, .int zl2, .long zu, .long zv, .ref xt, .ref xq, .ref xb, .ref xw, .ref xl, .ref xm, .int zt, .int za, .int (nI nq), .int zc, .int ze, .ref xe, .int zh, .int zi, .int zq])), (xs, .inl (cI, 2, .inl seF)), (xk, .inl (cI, 2, .inl (nR kF))), (xp, .inl (cI, 2, .inl (nR spF))), (xd, .inl (cI, 2, .inl (nR deF))), (xo, .inl (cI, 2, .inl (bR pF))), (xn, .inl (cI, 732, .inl nm2)), (xr, .inl (cI, 366, .inl f2)), (xi, .inl (cZ, 2, .inl dz2)), (xq, .inl (cI, 60, .inl ki)), (xb, .inl (cI, 60, .inl bi)), (xw, .inl (cI, 60, .inl pa)), (xl, .inl (cI, 5, .inl la)), (xy, .inl (cI, 12, .inl (nR mln))), (xf, .inl (cI, 7, .inl ru))]) (fun _ => rfl) (fun _ H locs hF hst => ?_)
        refine q_top (x' := monOf (bi kq)) (by rw [ebd]) ?_
        refine lv_iload_n hx hb dX7_group_106 rfl (lv_at hl 4 rfl) ?_
        refine lv_icmp_ne (tgt := 121) hx hb dX7_group_107 (by decide) (fun c_107 => ?_) (fun c_107 => ?_)
        · skip
          refine lv_lconst (v := 0) hx hb dX7_group_121 (by decide) ?_
          refine lv_ladd hx hb dX7_group_122 ?_
          refine q_topL (x' := gsL (fun m => decide (monOf (bi m) = p1)) (wgL zc (ndM seF kF spF deF pF j0) ki bi pa la p2) (kq + 1)) (by rw [gs_f (f := fun m => decide (monOf (bi m) = p1)) (w := wgL zc (ndM seF kF spF deF pF j0) ki bi pa la p2) (decide_eq_false c_107)]; exact Int64.add_zero _) ?_
          refine lv_lstore (lv' := [(6, .long (gsL (fun m => decide (monOf (bi m) = p1)) (wgL zc (ndM seF kF spF deF pF j0) ki bi pa la p2) (kq + 1))), (8, .int (nI kq)), (0, .ref x), (1, .int (nI j0)), (2, .int p1), (3, .int p2), (4, .int p3)]) hx hb dX7_group_123 hl (by decide) rfl (fun ls hl => ?_)
          refine lv_iinc (v := nI (kq + 1)) (lv' := [(8, .int (nI (kq + 1))), (6, .long (gsL (fun m => decide (monOf (bi m) = p1)) (wgL zc (ndM seF kF spF deF pF j0) ki bi pa la p2) (kq + 1))), (0, .ref x), (1, .int (nI j0)), (2, .int p1), (3, .int p2), (4, .int p3)]) hx hb dX7_group_125 hl (k := 1) rfl (nI_next _) (by decide) rfl (fun ls hl => ?_)
          refine lv_goto (tgt := 84) hx hb dX7_group_128 (by decide) ?_
          exact ih zl2 nm2 f2 dz2 (kq + 1) y1 (hck2) (by omega) (hy1) (ey) (hR) (hsh) (by omega) _ _ _ (hst) (lv_sub hl [0, 1, 2, 3, 4, 5, 6] rfl)
        · skip
          refine lv_aload_n hx hb dX7_group_110 rfl (lv_at hl 2 rfl) ?_
          refine lv_iload_n hx hb dX7_group_111 rfl (lv_at hl 3 rfl) ?_
          refine lv_iload hx hb dX7_group_112 (lv_at hl 0 rfl) ?_
          refine lv_iload_n hx hb dX7_group_114 rfl (lv_at hl 5 rfl) ?_
          refine q_top (x' := nI y1) (ey) ?_
          refine q_goL (q_rV hE lk_X7_186 (c_X7_wageOf l D cI cJ cZ x xf xs xk xp xd xo xn xr xy xi xt xq xb xw xl xm xe zl2 zt za (nI nq) zc ze zh zi zq zu zv seF kF spF deF pF nm2 f2 dz2 ki bi pa la j0 kq y1 (hj) (hjo) (hck2) (by omega) (hbi kq hk1) (hki kq hk1) (hpa kq hk1) (hla) (hy1) H.size) hst [0, 1, 2, 3, 4, 5, 6, 7, 8, 9, 10, 11, 12] rfl rfl rfl rfl rfl hl.1 ⟨(Nat.le_of_ble_eq_true rfl), (Nat.le_of_ble_eq_true rfl)⟩ (rest := [.long (gsL (fun m => decide (monOf (bi m) = p1)) (wgL zc (ndM seF kF spF deF pF j0) ki bi pa la p2) kq)]) rfl (Nat.le_of_ble_eq_true rfl) dX7_group_115 ⟨(Nat.le_of_ble_eq_true rfl), (Nat.le_of_ble_eq_true rfl)⟩) hE hst [0, 1, 2, 3, 4, 5, 6, 7, 8, 9, 10, 11, 12] rfl (fun _ => rfl) (fun (u : Int32 × (Nat → Int32) × (Nat → Int32) × (Nat → Int32)) => [(x, .inr (7, [.ref xf, .ref xs, .ref xk, .ref xp, .ref xd, .ref xo, .ref xn, .ref xr, .ref xy, .ref xi, .int u.1, .long zu, .long zv, .ref xt, .ref xq, .ref xb, .ref xw, .ref xl, .ref xm, .int zt, .int za, .int (nI nq), .int zc, .int ze, .ref xe, .int zh, .int zi, .int zq])), (xs, .inl (cI, 2, .inl seF)), (xk, .inl (cI, 2, .inl (nR kF))), (xp, .inl (cI, 2, .inl (nR spF))), (xd, .inl (cI, 2, .inl (nR deF))), (xo, .inl (cI, 2, .inl (bR pF))), (xn, .inl (cI, 732, .inl u.2.1)), (xr, .inl (cI, 366, .inl u.2.2.1)), (xi, .inl (cZ, 2, .inl u.2.2.2)), (xq, .inl (cI, 60, .inl ki)), (xb, .inl (cI, 60, .inl bi)), (xw, .inl (cI, 60, .inl pa)), (xl, .inl (cI, 5, .inl la)), (xy, .inl (cI, 12, .inl (nR mln))), (xf, .inl (cI, 7, .inl ru))]) (fun _ => rfl) (fun u H locs hF hst => ?_)
          obtain ⟨zl1_1, nm1_2, f1_3, dz1_4⟩ := u
          have hst : SS D A s [(x, .inr (7, [.ref xf, .ref xs, .ref xk, .ref xp, .ref xd, .ref xo, .ref xn, .ref xr, .ref xy, .ref xi, .int zl1_1, .long zu, .long zv, .ref xt, .ref xq, .ref xb, .ref xw, .ref xl, .ref xm, .int zt, .int za, .int (nI nq), .int zc, .int ze, .ref xe, .int zh, .int zi, .int zq])), (xs, .inl (cI, 2, .inl seF)), (xk, .inl (cI, 2, .inl (nR kF))), (xp, .inl (cI, 2, .inl (nR spF))), (xd, .inl (cI, 2, .inl (nR deF))), (xo, .inl (cI, 2, .inl (bR pF))), (xn, .inl (cI, 732, .inl nm1_2)), (xr, .inl (cI, 366, .inl f1_3)), (xi, .inl (cZ, 2, .inl dz1_4)), (xq, .inl (cI, 60, .inl ki)), (xb, .inl (cI, 60, .inl bi)), (xw, .inl (cI, 60, .inl pa)), (xl, .inl (cI, 5, .inl la)), (xy, .inl (cI, 12, .inl (nR mln))), (xf, .inl (cI, 7, .inl ru))] H locs := hst
          have hF : (ckM seF kF spF deF pF nm1_2 dz1_4) := hF
          have hF0_115 := hF
          refine W.eq (g2 := F0 m 118 ls [.long ((wagF zc (ndM seF kF spF deF pF j0) ki bi pa la (nI y1) kq).toInt64), .long (gsL (fun m => decide (monOf (bi m) = p1)) (wgL zc (ndM seF kF spF deF pF j0) ki bi pa la p2) kq)]) rfl ?_
          refine lv_goto (tgt := 122) hx hb dX7_group_118 (by decide) ?_
          refine lv_ladd hx hb dX7_group_122 ?_
          refine q_topL (x' := gsL (fun m => decide (monOf (bi m) = p1)) (wgL zc (ndM seF kF spF deF pF j0) ki bi pa la p2) (kq + 1)) (by rw [ey]; exact (gs_t (f := fun m => decide (monOf (bi m) = p1)) (w := wgL zc (ndM seF kF spF deF pF j0) ki bi pa la (nI y1)) (decide_eq_true c_107)).symm) ?_
          refine lv_lstore (lv' := [(6, .long (gsL (fun m => decide (monOf (bi m) = p1)) (wgL zc (ndM seF kF spF deF pF j0) ki bi pa la p2) (kq + 1))), (8, .int (nI kq)), (0, .ref x), (1, .int (nI j0)), (2, .int p1), (3, .int p2), (4, .int p3)]) hx hb dX7_group_123 hl (by decide) rfl (fun ls hl => ?_)
          refine lv_iinc (v := nI (kq + 1)) (lv' := [(8, .int (nI (kq + 1))), (6, .long (gsL (fun m => decide (monOf (bi m) = p1)) (wgL zc (ndM seF kF spF deF pF j0) ki bi pa la p2) (kq + 1))), (0, .ref x), (1, .int (nI j0)), (2, .int p1), (3, .int p2), (4, .int p3)]) hx hb dX7_group_125 hl (k := 1) rfl (nI_next _) (by decide) rfl (fun ls hl => ?_)
          refine lv_goto (tgt := 84) hx hb dX7_group_128 (by decide) ?_
          exact ih zl1_1 nm1_2 f1_3 dz1_4 (kq + 1) y1 (hF0_115) (by omega) (hy1) (ey) (hR) (hsh) (by omega) _ _ _ (hst) (lv_sub hl [0, 1, 2, 3, 4, 5, 6] rfl)
  refine lv_iload_n hx hb dX7_group_0 rfl (lv_at hl 1 rfl) ?_
  refine q_goI (q_rS hE lk_X7_77 (c_X7_isJar l D cI cJ cZ p0 s.heap.size) hst [] rfl rfl rfl hl.1 ⟨(Nat.le_of_ble_eq_true rfl), (Nat.le_of_ble_eq_true rfl)⟩ (rest := []) rfl (Nat.le_of_ble_eq_true rfl) dX7_group_1 ⟨(Nat.le_of_ble_eq_true rfl), (Nat.le_of_ble_eq_true rfl)⟩) hE hst [] rfl (fun _ => rfl) (fun (_ : Unit) => [(x, .inr (7, [.ref xf, .ref xs, .ref xk, .ref xp, .ref xd, .ref xo, .ref xn, .ref xr, .ref xy, .ref xi, .int zl, .long zu, .long zv, .ref xt, .ref xq, .ref xb, .ref xw, .ref xl, .ref xm, .int zt, .int za, .int (nI nq), .int zc, .int ze, .ref xe, .int zh, .int zi, .int zq])), (xs, .inl (cI, 2, .inl seF)), (xk, .inl (cI, 2, .inl (nR kF))), (xp, .inl (cI, 2, .inl (nR spF))), (xd, .inl (cI, 2, .inl (nR deF))), (xo, .inl (cI, 2, .inl (bR pF))), (xn, .inl (cI, 732, .inl nm)), (xr, .inl (cI, 366, .inl f)), (xi, .inl (cZ, 2, .inl dz)), (xq, .inl (cI, 60, .inl ki)), (xb, .inl (cI, 60, .inl bi)), (xw, .inl (cI, 60, .inl pa)), (xl, .inl (cI, 5, .inl la)), (xy, .inl (cI, 12, .inl (nR mln))), (xf, .inl (cI, 7, .inl ru))]) (fun _ => rfl) (fun _ H locs hF hst => ?_)
  refine lv_if_eq (tgt := 14) hx hb dX7_group_4 (by decide) (fun c_4 => ?_) (fun c_4 => ?_)
  · skip
    have c_4 := b2i_f c_4
    refine lv_aload_n hx hb dX7_group_14 rfl (lv_at hl 0 rfl) ?_
    refine lv_iconst (v := (-1)) hx hb dX7_group_15 (by decide) ?_
    refine q_goL (q_rV hE lk_X7_121 (c_X7_noLong l D cI cJ cZ x xf xs xk xp xd xo xn xr xy xi xt xq xb xw xl xm xe zl zt za (nI nq) zc ze zh zi zq zu zv ru (-1) (by rw [vp_in_iff]; decide) H.size) hst [0, 14] rfl rfl rfl rfl rfl hl.1 ⟨(Nat.le_of_ble_eq_true rfl), (Nat.le_of_ble_eq_true rfl)⟩ (rest := []) rfl (Nat.le_of_ble_eq_true rfl) dX7_group_16 ⟨(Nat.le_of_ble_eq_true rfl), (Nat.le_of_ble_eq_true rfl)⟩) hE hst [0, 14] rfl (fun _ => rfl) (fun (_ : Unit) => [(x, .inr (7, [.ref xf, .ref xs, .ref xk, .ref xp, .ref xd, .ref xo, .ref xn, .ref xr, .ref xy, .ref xi, .int zl, .long zu, .long zv, .ref xt, .ref xq, .ref xb, .ref xw, .ref xl, .ref xm, .int zt, .int za, .int (nI nq), .int zc, .int ze, .ref xe, .int zh, .int zi, .int zq])), (xs, .inl (cI, 2, .inl seF)), (xk, .inl (cI, 2, .inl (nR kF))), (xp, .inl (cI, 2, .inl (nR spF))), (xd, .inl (cI, 2, .inl (nR deF))), (xo, .inl (cI, 2, .inl (bR pF))), (xn, .inl (cI, 732, .inl nm)), (xr, .inl (cI, 366, .inl f)), (xi, .inl (cZ, 2, .inl dz)), (xq, .inl (cI, 60, .inl ki)), (xb, .inl (cI, 60, .inl bi)), (xw, .inl (cI, 60, .inl pa)), (xl, .inl (cI, 5, .inl la)), (xy, .inl (cI, 12, .inl (nR mln))), (xf, .inl (cI, 7, .inl (bmp ru (-1))))]) (fun _ => rfl) (fun _ H locs hF hst => ?_)
    exact q_retL hQ hE hr hk hst (zl, nm, f, dz, zu, zv) (by rw [show ftf (!isJarB p0 || !isMonthB p1) (!isJarB p3) (!decide (0 ≤ p2)) (!decide (p2 ≤ 40)) = -1 from (by rw [c_4, Bool.not_false, Bool.true_or]; rfl), if_neg (show ¬ (-1 : Int32) = 0 by decide)]) (hck) (by simp only [show ftf (!isJarB p0 || !isMonthB p1) (!isJarB p3) (!decide (0 ≤ p2)) (!decide (p2 ≤ 40)) = -1 from (by rw [c_4, Bool.not_false, Bool.true_or]; rfl), if_neg (show ¬ (-1 : Int32) = 0 by decide)]) dX7_group_19
  · skip
    have c_4 := b2i_t c_4
    obtain rfl := hsl c_4
    skip
    refine lv_iload_n hx hb dX7_group_7 rfl (lv_at hl 2 rfl) ?_
    refine q_goI (q_rS hE lk_X7_118 (c_X7_isMonth l D cI cJ cZ p1 H.size) hst [] rfl rfl rfl hl.1 ⟨(Nat.le_of_ble_eq_true rfl), (Nat.le_of_ble_eq_true rfl)⟩ (rest := []) rfl (Nat.le_of_ble_eq_true rfl) dX7_group_8 ⟨(Nat.le_of_ble_eq_true rfl), (Nat.le_of_ble_eq_true rfl)⟩) hE hst [] rfl (fun _ => rfl) (fun (_ : Unit) => [(x, .inr (7, [.ref xf, .ref xs, .ref xk, .ref xp, .ref xd, .ref xo, .ref xn, .ref xr, .ref xy, .ref xi, .int zl, .long zu, .long zv, .ref xt, .ref xq, .ref xb, .ref xw, .ref xl, .ref xm, .int zt, .int za, .int (nI nq), .int zc, .int ze, .ref xe, .int zh, .int zi, .int zq])), (xs, .inl (cI, 2, .inl seF)), (xk, .inl (cI, 2, .inl (nR kF))), (xp, .inl (cI, 2, .inl (nR spF))), (xd, .inl (cI, 2, .inl (nR deF))), (xo, .inl (cI, 2, .inl (bR pF))), (xn, .inl (cI, 732, .inl nm)), (xr, .inl (cI, 366, .inl f)), (xi, .inl (cZ, 2, .inl dz)), (xq, .inl (cI, 60, .inl ki)), (xb, .inl (cI, 60, .inl bi)), (xw, .inl (cI, 60, .inl pa)), (xl, .inl (cI, 5, .inl la)), (xy, .inl (cI, 12, .inl (nR mln))), (xf, .inl (cI, 7, .inl ru))]) (fun _ => rfl) (fun _ H locs hF hst => ?_)
    refine lv_if_ne (tgt := 20) hx hb dX7_group_11 (by decide) (fun c_11 => ?_) (fun c_11 => ?_)
    · skip
      have c_11 := b2i_t c_11
      refine lv_iload hx hb dX7_group_20 (lv_at hl 4 rfl) ?_
      refine q_goI (q_rS hE lk_X7_125 (c_X7_isPart l D cI cJ cZ p3 H.size) hst [] rfl rfl rfl hl.1 ⟨(Nat.le_of_ble_eq_true rfl), (Nat.le_of_ble_eq_true rfl)⟩ (rest := []) rfl (Nat.le_of_ble_eq_true rfl) dX7_group_22 ⟨(Nat.le_of_ble_eq_true rfl), (Nat.le_of_ble_eq_true rfl)⟩) hE hst [] rfl (fun _ => rfl) (fun (_ : Unit) => [(x, .inr (7, [.ref xf, .ref xs, .ref xk, .ref xp, .ref xd, .ref xo, .ref xn, .ref xr, .ref xy, .ref xi, .int zl, .long zu, .long zv, .ref xt, .ref xq, .ref xb, .ref xw, .ref xl, .ref xm, .int zt, .int za, .int (nI nq), .int zc, .int ze, .ref xe, .int zh, .int zi, .int zq])), (xs, .inl (cI, 2, .inl seF)), (xk, .inl (cI, 2, .inl (nR kF))), (xp, .inl (cI, 2, .inl (nR spF))), (xd, .inl (cI, 2, .inl (nR deF))), (xo, .inl (cI, 2, .inl (bR pF))), (xn, .inl (cI, 732, .inl nm)), (xr, .inl (cI, 366, .inl f)), (xi, .inl (cZ, 2, .inl dz)), (xq, .inl (cI, 60, .inl ki)), (xb, .inl (cI, 60, .inl bi)), (xw, .inl (cI, 60, .inl pa)), (xl, .inl (cI, 5, .inl la)), (xy, .inl (cI, 12, .inl (nR mln))), (xf, .inl (cI, 7, .inl ru))]) (fun _ => rfl) (fun _ H locs hF hst => ?_)
      refine lv_if_ne (tgt := 35) hx hb dX7_group_25 (by decide) (fun c_25 => ?_) (fun c_25 => ?_)
      · skip
        have c_25 := b2i_t c_25
        have hR : ftf (!isJarB (nI j0) || !isMonthB p1) (!isJarB p3) (!decide (0 ≤ p2)) (!decide (p2 ≤ 40)) = outI p2 0 40 := by rw [c_4, c_11, c_25]; exact ftf_out _ _ _
        refine lv_iload_n hx hb dX7_group_35 rfl (lv_at hl 3 rfl) ?_
        refine q_goI (q_rS hE lk_X7_183 (c_X7_notYear l D cI cJ cZ p2 H.size) hst [] rfl rfl rfl hl.1 ⟨(Nat.le_of_ble_eq_true rfl), (Nat.le_of_ble_eq_true rfl)⟩ (rest := []) rfl (Nat.le_of_ble_eq_true rfl) dX7_group_36 ⟨(Nat.le_of_ble_eq_true rfl), (Nat.le_of_ble_eq_true rfl)⟩) hE hst [] rfl (fun _ => rfl) (fun (_ : Unit) => [(x, .inr (7, [.ref xf, .ref xs, .ref xk, .ref xp, .ref xd, .ref xo, .ref xn, .ref xr, .ref xy, .ref xi, .int zl, .long zu, .long zv, .ref xt, .ref xq, .ref xb, .ref xw, .ref xl, .ref xm, .int zt, .int za, .int (nI nq), .int zc, .int ze, .ref xe, .int zh, .int zi, .int zq])), (xs, .inl (cI, 2, .inl seF)), (xk, .inl (cI, 2, .inl (nR kF))), (xp, .inl (cI, 2, .inl (nR spF))), (xd, .inl (cI, 2, .inl (nR deF))), (xo, .inl (cI, 2, .inl (bR pF))), (xn, .inl (cI, 732, .inl nm)), (xr, .inl (cI, 366, .inl f)), (xi, .inl (cZ, 2, .inl dz)), (xq, .inl (cI, 60, .inl ki)), (xb, .inl (cI, 60, .inl bi)), (xw, .inl (cI, 60, .inl pa)), (xl, .inl (cI, 5, .inl la)), (xy, .inl (cI, 12, .inl (nR mln))), (xf, .inl (cI, 7, .inl ru))]) (fun _ => rfl) (fun _ H locs hF hst => ?_)
        refine lv_istore (lv' := [(5, .int (outI p2 0 40)), (0, .ref x), (1, .int (nI j0)), (2, .int p1), (3, .int p2), (4, .int p3)]) hx hb dX7_group_39 hl (by decide) rfl (fun ls hl => ?_)
        refine lv_iload hx hb dX7_group_41 (lv_at hl 0 rfl) ?_
        refine lv_if_eq (tgt := 53) hx hb dX7_group_43 (by decide) (fun c_43 => ?_) (fun c_43 => ?_)
        · skip
          rw [c_43] at hR
          obtain ⟨y1, -, hy1, ey⟩ := in_nI (a := 0) (b := 40) (by decide) (by decide) (out_0 c_43).1 (out_0 c_43).2
          refine lv_aload_n hx hb dX7_group_53 rfl (lv_at hl 1 rfl) ?_
          refine lv_iload_n hx hb dX7_group_54 rfl (lv_at hl 3 rfl) ?_
          refine q_goI (q_rV hE lk_X7_202 (c_X7_bornIn l D cI cJ cZ x xf xs xk xp xd xo xn xr xy xi xt xq xb xw xl xm xe zl zt za zc ze zh zi zq zu zv nq bi p1 (hn) (hbi) H.size) hst [0, 13, 10] rfl rfl rfl rfl rfl hl.1 ⟨(Nat.le_of_ble_eq_true rfl), (Nat.le_of_ble_eq_true rfl)⟩ (rest := []) rfl (Nat.le_of_ble_eq_true rfl) dX7_group_55 ⟨(Nat.le_of_ble_eq_true rfl), (Nat.le_of_ble_eq_true rfl)⟩) hE hst [0, 13, 10] rfl (fun _ => rfl) (fun (_ : Unit) => [(x, .inr (7, [.ref xf, .ref xs, .ref xk, .ref xp, .ref xd, .ref xo, .ref xn, .ref xr, .ref xy, .ref xi, .int zl, .long zu, .long zv, .ref xt, .ref xq, .ref xb, .ref xw, .ref xl, .ref xm, .int zt, .int za, .int (nI nq), .int zc, .int ze, .ref xe, .int zh, .int zi, .int zq])), (xs, .inl (cI, 2, .inl seF)), (xk, .inl (cI, 2, .inl (nR kF))), (xp, .inl (cI, 2, .inl (nR spF))), (xd, .inl (cI, 2, .inl (nR deF))), (xo, .inl (cI, 2, .inl (bR pF))), (xn, .inl (cI, 732, .inl nm)), (xr, .inl (cI, 366, .inl f)), (xi, .inl (cZ, 2, .inl dz)), (xq, .inl (cI, 60, .inl ki)), (xb, .inl (cI, 60, .inl bi)), (xw, .inl (cI, 60, .inl pa)), (xl, .inl (cI, 5, .inl la)), (xy, .inl (cI, 12, .inl (nR mln))), (xf, .inl (cI, 7, .inl ru))]) (fun _ => rfl) (fun _ H locs hF hst => ?_)
          refine lv_aload_n hx hb dX7_group_58 rfl (lv_at hl 1 rfl) ?_
          refine gf_X7_63 hE hst 0 rfl rfl dX7_group_59 ?_
          refine lv_icmp_ge (tgt := 78) hx hb dX7_group_62 (by decide) (fun c_62 => ?_) (fun c_62 => ?_)
          · skip
            refine lv_lconst (v := 0) hx hb dX7_group_78 (by decide) ?_
            refine lv_lstore (lv' := [(6, .long 0), (5, .int (outI p2 0 40)), (0, .ref x), (1, .int (nI j0)), (2, .int p1), (3, .int p2), (4, .int p3)]) hx hb dX7_group_79 hl (by decide) rfl (fun ls hl => ?_)
            refine lv_iconst (v := 0) hx hb dX7_group_81 (by decide) ?_
            refine lv_istore (lv' := [(8, .int 0), (6, .long 0), (5, .int (outI p2 0 40)), (0, .ref x), (1, .int (nI j0)), (2, .int p1), (3, .int p2), (4, .int p3)]) hx hb dX7_group_82 hl (by decide) rfl (fun ls hl => ?_)
            exact loop_84 (nq + 1) zl nm f dz 0 y1 (hck) (Nat.zero_le _) (hy1) (ey) (hR) (c_62) (by omega) _ _ _ (hst) (lv_sub hl [0, 1, 3, 4, 5, 6, 7] rfl)
          · skip
            refine lv_iload hx hb dX7_group_65 (lv_at hl 5 rfl) ?_
            refine lv_if_ne (tgt := 76) hx hb dX7_group_67 (by decide) (fun c_67 => ?_) (fun c_67 => ?_)
            · skip
              refine lv_lconst (v := 1) hx hb dX7_group_76 (by decide) ?_
              exact q_retL hQ hE hr hk hst (zl, nm, f, dz, zu, zv) (by rw [if_pos hR, if_neg (show ¬ decide (ze ≤ cntI (fun m => decide (monOf (bi m) = p1)) nq) = true by rw [decide_eq_false c_62]; decide), if_neg c_67]) (hck) (by simp only [if_pos hR]) dX7_group_77
            · skip
              refine q_ldc2 hE wk_5_21 dX7_group_70 ?_
              refine lv_goto (tgt := 77) hx hb dX7_group_73 (by decide) ?_
              exact q_retL hQ hE hr hk hst (zl, nm, f, dz, zu, zv) (by rw [if_pos hR, if_neg (show ¬ decide (ze ≤ cntI (fun m => decide (monOf (bi m) = p1)) nq) = true by rw [decide_eq_false c_62]; decide), if_pos c_67]) (hck) (by simp only [if_pos hR]) dX7_group_77
        · skip
          have hN := c_43
          rw [← hR] at hN
          refine lv_aload_n hx hb dX7_group_46 rfl (lv_at hl 1 rfl) ?_
          refine lv_iload hx hb dX7_group_47 (lv_at hl 0 rfl) ?_
          refine q_goL (q_rV hE lk_X7_121 (c_X7_noLong l D cI cJ cZ x xf xs xk xp xd xo xn xr xy xi xt xq xb xw xl xm xe zl zt za (nI nq) zc ze zh zi zq zu zv ru (outI p2 0 40) (out_in _ _ _) H.size) hst [0, 14] rfl rfl rfl rfl rfl hl.1 ⟨(Nat.le_of_ble_eq_true rfl), (Nat.le_of_ble_eq_true rfl)⟩ (rest := []) rfl (Nat.le_of_ble_eq_true rfl) dX7_group_49 ⟨(Nat.le_of_ble_eq_true rfl), (Nat.le_of_ble_eq_true rfl)⟩) hE hst [0, 14] rfl (fun _ => rfl) (fun (_ : Unit) => [(x, .inr (7, [.ref xf, .ref xs, .ref xk, .ref xp, .ref xd, .ref xo, .ref xn, .ref xr, .ref xy, .ref xi, .int zl, .long zu, .long zv, .ref xt, .ref xq, .ref xb, .ref xw, .ref xl, .ref xm, .int zt, .int za, .int (nI nq), .int zc, .int ze, .ref xe, .int zh, .int zi, .int zq])), (xs, .inl (cI, 2, .inl seF)), (xk, .inl (cI, 2, .inl (nR kF))), (xp, .inl (cI, 2, .inl (nR spF))), (xd, .inl (cI, 2, .inl (nR deF))), (xo, .inl (cI, 2, .inl (bR pF))), (xn, .inl (cI, 732, .inl nm)), (xr, .inl (cI, 366, .inl f)), (xi, .inl (cZ, 2, .inl dz)), (xq, .inl (cI, 60, .inl ki)), (xb, .inl (cI, 60, .inl bi)), (xw, .inl (cI, 60, .inl pa)), (xl, .inl (cI, 5, .inl la)), (xy, .inl (cI, 12, .inl (nR mln))), (xf, .inl (cI, 7, .inl (bmp ru (outI p2 0 40))))]) (fun _ => rfl) (fun _ H locs hF hst => ?_)
          exact q_retL hQ hE hr hk hst (zl, nm, f, dz, zu, zv) (by rw [if_neg hN]; exact congrArg lgR hR.symm) (hck) (by simp only [hR, if_neg c_43]) dX7_group_52
      · skip
        have c_25 := b2i_f c_25
        refine lv_aload_n hx hb dX7_group_28 rfl (lv_at hl 0 rfl) ?_
        refine lv_bipush (v := (-2)) hx hb dX7_group_29 (by decide) ?_
        refine q_goL (q_rV hE lk_X7_121 (c_X7_noLong l D cI cJ cZ x xf xs xk xp xd xo xn xr xy xi xt xq xb xw xl xm xe zl zt za (nI nq) zc ze zh zi zq zu zv ru (-2) (by rw [vp_in_iff]; decide) H.size) hst [0, 14] rfl rfl rfl rfl rfl hl.1 ⟨(Nat.le_of_ble_eq_true rfl), (Nat.le_of_ble_eq_true rfl)⟩ (rest := []) rfl (Nat.le_of_ble_eq_true rfl) dX7_group_31 ⟨(Nat.le_of_ble_eq_true rfl), (Nat.le_of_ble_eq_true rfl)⟩) hE hst [0, 14] rfl (fun _ => rfl) (fun (_ : Unit) => [(x, .inr (7, [.ref xf, .ref xs, .ref xk, .ref xp, .ref xd, .ref xo, .ref xn, .ref xr, .ref xy, .ref xi, .int zl, .long zu, .long zv, .ref xt, .ref xq, .ref xb, .ref xw, .ref xl, .ref xm, .int zt, .int za, .int (nI nq), .int zc, .int ze, .ref xe, .int zh, .int zi, .int zq])), (xs, .inl (cI, 2, .inl seF)), (xk, .inl (cI, 2, .inl (nR kF))), (xp, .inl (cI, 2, .inl (nR spF))), (xd, .inl (cI, 2, .inl (nR deF))), (xo, .inl (cI, 2, .inl (bR pF))), (xn, .inl (cI, 732, .inl nm)), (xr, .inl (cI, 366, .inl f)), (xi, .inl (cZ, 2, .inl dz)), (xq, .inl (cI, 60, .inl ki)), (xb, .inl (cI, 60, .inl bi)), (xw, .inl (cI, 60, .inl pa)), (xl, .inl (cI, 5, .inl la)), (xy, .inl (cI, 12, .inl (nR mln))), (xf, .inl (cI, 7, .inl (bmp ru (-2))))]) (fun _ => rfl) (fun _ H locs hF hst => ?_)
        exact q_retL hQ hE hr hk hst (zl, nm, f, dz, zu, zv) (by rw [show ftf (!isJarB (nI j0) || !isMonthB p1) (!isJarB p3) (!decide (0 ≤ p2)) (!decide (p2 ≤ 40)) = -2 from (by rw [c_4, c_11, c_25]; rfl), if_neg (show ¬ (-2 : Int32) = 0 by decide)]) (hck) (by simp only [show ftf (!isJarB (nI j0) || !isMonthB p1) (!isJarB p3) (!decide (0 ≤ p2)) (!decide (p2 ≤ 40)) = -2 from (by rw [c_4, c_11, c_25]; rfl), if_neg (show ¬ (-2 : Int32) = 0 by decide)]) dX7_group_34
    · skip
      have c_11 := b2i_f c_11
      refine lv_aload_n hx hb dX7_group_14 rfl (lv_at hl 0 rfl) ?_
      refine lv_iconst (v := (-1)) hx hb dX7_group_15 (by decide) ?_
      refine q_goL (q_rV hE lk_X7_121 (c_X7_noLong l D cI cJ cZ x xf xs xk xp xd xo xn xr xy xi xt xq xb xw xl xm xe zl zt za (nI nq) zc ze zh zi zq zu zv ru (-1) (by rw [vp_in_iff]; decide) H.size) hst [0, 14] rfl rfl rfl rfl rfl hl.1 ⟨(Nat.le_of_ble_eq_true rfl), (Nat.le_of_ble_eq_true rfl)⟩ (rest := []) rfl (Nat.le_of_ble_eq_true rfl) dX7_group_16 ⟨(Nat.le_of_ble_eq_true rfl), (Nat.le_of_ble_eq_true rfl)⟩) hE hst [0, 14] rfl (fun _ => rfl) (fun (_ : Unit) => [(x, .inr (7, [.ref xf, .ref xs, .ref xk, .ref xp, .ref xd, .ref xo, .ref xn, .ref xr, .ref xy, .ref xi, .int zl, .long zu, .long zv, .ref xt, .ref xq, .ref xb, .ref xw, .ref xl, .ref xm, .int zt, .int za, .int (nI nq), .int zc, .int ze, .ref xe, .int zh, .int zi, .int zq])), (xs, .inl (cI, 2, .inl seF)), (xk, .inl (cI, 2, .inl (nR kF))), (xp, .inl (cI, 2, .inl (nR spF))), (xd, .inl (cI, 2, .inl (nR deF))), (xo, .inl (cI, 2, .inl (bR pF))), (xn, .inl (cI, 732, .inl nm)), (xr, .inl (cI, 366, .inl f)), (xi, .inl (cZ, 2, .inl dz)), (xq, .inl (cI, 60, .inl ki)), (xb, .inl (cI, 60, .inl bi)), (xw, .inl (cI, 60, .inl pa)), (xl, .inl (cI, 5, .inl la)), (xy, .inl (cI, 12, .inl (nR mln))), (xf, .inl (cI, 7, .inl (bmp ru (-1))))]) (fun _ => rfl) (fun _ H locs hF hst => ?_)
      exact q_retL hQ hE hr hk hst (zl, nm, f, dz, zu, zv) (by rw [show ftf (!isJarB (nI j0) || !isMonthB p1) (!isJarB p3) (!decide (0 ≤ p2)) (!decide (p2 ≤ 40)) = -1 from (by rw [c_4, c_11]; rfl), if_neg (show ¬ (-1 : Int32) = 0 by decide)]) (hck) (by simp only [show ftf (!isJarB (nI j0) || !isMonthB p1) (!isJarB p3) (!decide (0 ≤ p2)) (!decide (p2 ≤ 40)) = -1 from (by rw [c_4, c_11]; rfl), if_neg (show ¬ (-1 : Int32) = 0 by decide)]) dX7_group_19
