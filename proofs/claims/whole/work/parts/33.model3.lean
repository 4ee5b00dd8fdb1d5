/-! the reference: months, wages, differences -/
def mofN (d : Nat) : Nat := ((List.range 12).find? (fun k => decide (d < mst (k + 1)))).getD 11
theorem mof_ok : ∀ d, d < 366 → monOf (nI d) = nI (mofN d) ∧ mofN d < 12 := by decide +kernel
theorem mof_le : ∀ d, d < 366 → ∀ k, k < 12 → (mst (k + 1) ≤ d ↔ k < mofN d) := by decide +kernel
theorem sumR_v {nd : Nat → Int32} {a : Nat} : ∀ i, (∀ q, q < i → ∃ v, v ≤ 366 ∧ nd (a + q) = nI v) → ∃ s, s ≤ 366 * i ∧ sumR nd i a = nI s
  | 0, _ => ⟨0, by omega, rfl⟩
  | i + 1, h => by
    obtain ⟨s, h1, h2⟩ := sumR_v i (fun q hq => h q (by omega))
    obtain ⟨v, h3, h4⟩ := h i (by omega)
    exact ⟨s + v, by omega, by rw [sumR, h2, h4, nI_add]⟩
theorem sum_w {nd : Nat → Int32} {i a : Nat} (hi : i < 1000) (h : ∀ q, q < i + 1 → ∃ v, v ≤ 366 ∧ nd (a + q) = nI v) : (sumR nd (i + 1) a).toInt64 = (sumR nd i a).toInt64 + (nd (a + i)).toInt64 := by
  obtain ⟨s, h1, h2⟩ := sumR_v i (fun q hq => h q (by omega))
  obtain ⟨v, h3, h4⟩ := h i (by omega)
  rw [sumR, h2, h4, nI_add, nI_wide (by omega), nI_wide (by omega), nI_wide (by omega)]
  unfold lM
  rw [lZ_add]
  congr 1
theorem mean_ok {nd : Nat → Int32} {m : Nat} (hm : m < 12) (h : ∀ d, d < 366 → ∃ v, v ≤ 366 ∧ nd d = nI v) : okAB (monS nd m).toInt64 (nI (mln m)).toInt64 := by
  have h1 := mln_ok m hm
  have h2 := (mst_ok (m + 1) (by omega)).2
  obtain ⟨s, h3, h4⟩ := sumR_v (nd := nd) (a := mst m) (mln m) (fun q hq => h _ (by omega))
  exact ⟨s, mln m, by omega, by omega, by omega, by rw [monS, h4, nI_wide (by omega)]; rfl, by rw [nI_wide (by omega)]; rfl⟩
/-! wages -/
theorem lawv {la : Nat → Int32} (h : ∀ i, i < 5 → vp_in (la i) 1000) {i : Nat} (hi : i < 5) : ∃ v : Nat, v ≤ 999 ∧ la i = iZ v := by
  obtain ⟨v, h1, h2⟩ := vp_in_of (h i hi) (by decide)
  exact ⟨v, by omega, h2.trans (iZ_n v)⟩
theorem los_v {la : Nat → Int32} (h : ∀ i, i < 5 → vp_in (la i) 1000) {y : Nat} (hy : y ≤ 40) : ∃ v : Nat, v ≤ 999 ∧ losI la (nI y) = iZ v := by
  obtain ⟨a, ha, ea⟩ := lawv h (i := 1) (by decide)
  obtain ⟨b, hb, eb⟩ := lawv h (i := 2) (by decide)
  unfold losI
  by_cases hp : 0 ≤ 100 - la 2 * nI y
  · rw [los_t _ hp]
    rw [eb, iZ_n y, iZ_mul, ← Int.natCast_mul, show (100 : Int32) = iZ 100 from rfl, iZ_sub] at hp ⊢
    have hby : b * y ≤ 999 * 40 := Nat.mul_le_mul hb hy
    have hp2 : (0 : Int) ≤ 100 - ((b * y : Nat) : Int) := by
      rw [Int32.le_iff_toInt_le, show (iZ (100 - ((b * y : Nat) : Int))).toInt = 100 - ((b * y : Nat) : Int) from Int32.toInt_ofInt_of_le (by omega) (by omega)] at hp
      exact hp
    obtain ⟨q, hq⟩ : ∃ q : Nat, 100 - ((b * y : Nat) : Int) = (q : Int) := ⟨(100 - ((b * y : Nat) : Int)).toNat, by omega⟩
    rw [hq, ea, iZ_mul, ← Int.natCast_mul]
    have hqa : a * q ≤ 999 * 100 := Nat.mul_le_mul ha (by omega)
    rw [iZ_div (by omega) (by omega) (by omega) (by omega)]
    exact ⟨a * q / 100, by omega, by congr 1⟩
  · rw [los_f _ _ hp]
    exact ⟨0, by omega, rfl⟩
theorem half_v {v : Nat} (h : v ≤ 999) : iZ v / 2 = iZ ((v / 2 : Nat) : Int) := by
  rw [show (2 : Int32) = iZ 2 from rfl, iZ_div (by omega) (by omega) (by omega) (by omega)]
  congr 1
theorem chg_v {la : Nat → Int32} (h : ∀ i, i < 5 → vp_in (la i) 1000) {y : Nat} (hy : y ≤ 40) (s : Int32) : ∃ c : Int, -999 ≤ c ∧ c ≤ 999 ∧ chgI la s (nI y) = iZ c := by
  obtain ⟨v, hv, ev⟩ := los_v h hy
  obtain ⟨w, hw, ew⟩ := lawv h (i := 3) (by decide)
  unfold chgI
  by_cases h1 : s = 1
  · rw [if_pos h1, ev, iZ_neg]; exact ⟨-v, by omega, by omega, rfl⟩
  · rw [if_neg h1]
    by_cases h2 : s = 2
    · rw [if_pos h2, ev, half_v hv, iZ_neg]; exact ⟨-((v / 2 : Nat) : Int), by omega, by omega, rfl⟩
    · rw [if_neg h2]
      by_cases h3 : s = 3
      · rw [if_pos h3, ew]; exact ⟨w, by omega, by omega, rfl⟩
      · rw [if_neg h3]; exact ⟨0, by omega, by omega, rfl⟩
theorem low_v {la : Nat → Int32} (h : ∀ i, i < 5 → vp_in (la i) 1000) (b : Bool) : ∃ v : Nat, v ≤ 999 ∧ (if b = true then la 4 else 0) = iZ v := by
  cases b with
  | true => rw [if_pos rfl]; exact lawv h (by decide)
  | false => exact ⟨0, by omega, rfl⟩
theorem grw_v {pa la : Nat → Int32} {m y : Nat} (hp : vp_in (pa m) 10000) (h : ∀ i, i < 5 → vp_in (la i) 1000) (hy : y ≤ 40) : ∃ v : Nat, v ≤ 60000 ∧ pa m + la 0 * nI y = iZ v := by
  obtain ⟨w, hw, ew⟩ := vp_in_of hp (by decide)
  obtain ⟨a, ha, ea⟩ := lawv h (i := 0) (by decide)
  have hay : a * y ≤ 999 * 40 := Nat.mul_le_mul ha hy
  refine ⟨w + a * y, by omega, ?_⟩
  rw [ew, ea, iZ_n w, iZ_n y, iZ_mul, iZ_add]
  congr 1
theorem wag_v {cut : Int32} {nd ki bi pa la : Nat → Int32} {m y : Nat} (hp : vp_in (pa m) 10000) (h : ∀ i, i < 5 → vp_in (la i) 1000) (hy : y ≤ 40) : ∃ z : Int, -100000 ≤ z ∧ z ≤ 100000 ∧ wagF cut nd ki bi pa la (nI y) m = iZ z ∧ (wagF cut nd ki bi pa la (nI y) m).toInt64 = (pa m + la 0 * nI y).toInt64 + (chgI la (svF cut nd ki bi m) (nI y)).toInt64 - (if clB cut (mnum nd bi m) = true then la 4 else 0).toInt64 := by
  obtain ⟨a, ha, ea⟩ := grw_v hp h hy
  obtain ⟨c, hc, hc2, ec⟩ := chg_v h hy (svF cut nd ki bi m)
  obtain ⟨l, hl, el⟩ := low_v h (clB cut (mnum nd bi m))
  unfold wagF
  rw [ea, ec, el, iZ_add, iZ_sub, iZ_wide (by omega) (by omega), iZ_wide (by omega) (by omega), iZ_wide (by omega) (by omega), iZ_wide (by omega) (by omega), lZ_add, lZ_sub]
  exact ⟨_, by omega, by omega, rfl, rfl⟩
theorem chg_1 {la : Nat → Int32} (h : ∀ i, i < 5 → vp_in (la i) 1000) {y : Nat} (hy : y ≤ 40) {s : Int32} (hs : s = 1) : (chgI la s (nI y)).toInt64 = -(losI la (nI y)).toInt64 := by
  obtain ⟨v, hv, ev⟩ := los_v h hy
  rw [chgI, if_pos hs, ev, iZ_neg, iZ_wide (by omega) (by omega), iZ_wide (by omega) (by omega), lZ_neg]
theorem chg_2 {la : Nat → Int32} (h : ∀ i, i < 5 → vp_in (la i) 1000) {y : Nat} (hy : y ≤ 40) {s : Int32} (hs : s = 2) : (chgI la s (nI y)).toInt64 = -(losI la (nI y) / 2).toInt64 := by
  obtain ⟨v, hv, ev⟩ := los_v h hy
  rw [chgI, if_neg (by rw [hs]; decide), if_pos hs, ev, half_v hv, iZ_neg, iZ_wide (by omega) (by omega), iZ_wide (by omega) (by omega), lZ_neg]
theorem chg_3 {la : Nat → Int32} {y : Int32} {s : Int32} (hs : s = 3) : (chgI la s y).toInt64 = (la 3).toInt64 := by
  rw [chgI, if_neg (by rw [hs]; decide), if_neg (by rw [hs]; decide), if_pos hs]
theorem chg_0 {la : Nat → Int32} {y : Int32} {s : Int32} (h1 : ¬ s = 1) (h2 : ¬ s = 2) (h3 : ¬ s = 3) : (chgI la s y).toInt64 = 0 := by
  rw [chgI, if_neg h1, if_neg h2, if_neg h3]; rfl
/-! two sides -/
theorem i64_0 {x : Int32} (h : x.toInt64 = 0) : x = 0 := by
  have := congrArg Int64.toInt h
  rw [Int32.toInt_toInt64] at this
  exact Int32.toInt_inj.mp this
theorem cW_v (f : Nat → Bool) : ∀ k, ∃ c, c ≤ k ∧ cW f k = nI c
  | 0 => ⟨0, by omega, rfl⟩
  | k + 1 => by
    obtain ⟨c, h1, h2⟩ := cW_v f k
    rw [cW]
    by_cases h : f k = true
    · rw [if_pos h, h2, nI_1]; exact ⟨c + 1, by omega, rfl⟩
    · rw [if_neg h, h2]; exact ⟨c, by omega, rfl⟩
theorem cO_v (f : Nat → Bool) : ∀ k, ∃ c, c ≤ k ∧ cO f k = nI c
  | 0 => ⟨0, by omega, rfl⟩
  | k + 1 => by
    obtain ⟨c, h1, h2⟩ := cO_v f k
    rw [cO]
    by_cases h : f k = true
    · rw [if_pos h, h2]; exact ⟨c, by omega, rfl⟩
    · rw [if_neg h, h2, nI_1]; exact ⟨c + 1, by omega, rfl⟩
theorem inc64 {x : Int32} {c : Nat} (h : x = nI c) (hc : c < 1000) : (x + 1).toInt64 = x.toInt64 + 1 := by
  rw [h, nI_1, nI_wide (by omega), nI_wide (by omega), ← lZ_1]
  unfold lM
  rw [lZ_add]
  congr 1
theorem cW_t {f : Nat → Bool} {k : Nat} (hk : k < 60) (h : f k = true) : (cW f (k + 1)).toInt64 = (cW f k).toInt64 + 1 := by
  obtain ⟨c, h1, h2⟩ := cW_v f k
  rw [cW, if_pos h, inc64 h2 (by omega)]
theorem cW_f {f : Nat → Bool} {k : Nat} (h : f k = false) : cW f (k + 1) = cW f k := if_neg (by rw [h]; decide)
theorem cO_t {f : Nat → Bool} {k : Nat} (h : f k = true) : cO f (k + 1) = cO f k := if_pos h
theorem cO_f {f : Nat → Bool} {k : Nat} (hk : k < 60) (h : f k = false) : (cO f (k + 1)).toInt64 = (cO f k).toInt64 + 1 := by
  obtain ⟨c, h1, h2⟩ := cO_v f k
  rw [cO, if_neg (by rw [h]; decide), inc64 h2 (by omega)]
theorem sW_t {f : Nat → Bool} {w : Nat → Int64} {k : Nat} (h : f k = true) : sW f w (k + 1) = sW f w k + w k := if_pos h
theorem sW_f {f : Nat → Bool} {w : Nat → Int64} {k : Nat} (h : f k = false) : sW f w (k + 1) = sW f w k := if_neg (by rw [h]; decide)
theorem sO_t {f : Nat → Bool} {w : Nat → Int64} {k : Nat} (h : f k = true) : sO f w (k + 1) = sO f w k := if_pos h
theorem sO_f {f : Nat → Bool} {w : Nat → Int64} {k : Nat} (h : f k = false) : sO f w (k + 1) = sO f w k + w k := if_neg (by rw [h]; decide)
def wOk (w : Nat → Int64) (n : Nat) : Prop := ∀ k, k < n → ∃ z : Int, z.natAbs ≤ 100000 ∧ w k = lZ z
theorem sW_v (f : Nat → Bool) {w : Nat → Int64} {n : Nat} (h : wOk w n) : ∀ k, k ≤ n → ∃ z : Int, z.natAbs ≤ 100000 * k ∧ sW f w k = lZ z
  | 0, _ => ⟨0, by omega, rfl⟩
  | k + 1, hk => by
    obtain ⟨z, h1, h2⟩ := sW_v f h k (by omega)
    obtain ⟨v, h3, h4⟩ := h k (by omega)
    rw [sW]
    by_cases g : f k = true
    · rw [if_pos g, h2, h4, lZ_add]; exact ⟨_, by omega, rfl⟩
    · rw [if_neg g, h2]; exact ⟨z, by omega, rfl⟩
theorem sO_v (f : Nat → Bool) {w : Nat → Int64} {n : Nat} (h : wOk w n) : ∀ k, k ≤ n → ∃ z : Int, z.natAbs ≤ 100000 * k ∧ sO f w k = lZ z
  | 0, _ => ⟨0, by omega, rfl⟩
  | k + 1, hk => by
    obtain ⟨z, h1, h2⟩ := sO_v f h k (by omega)
    obtain ⟨v, h3, h4⟩ := h k (by omega)
    rw [sO]
    by_cases g : f k = true
    · rw [if_pos g, h2]; exact ⟨z, by omega, rfl⟩
    · rw [if_neg g, h2, h4, lZ_add]; exact ⟨_, by omega, rfl⟩
/-- the difference as whole numbers: above at most 720 millions, below at most 3600 -/
theorem df_val {f : Nat → Bool} {w : Nat → Int64} {n : Nat} (hn : n ≤ 60) (hw : wOk w n) (hd : dfB f n = true) : ∃ ua ub : Int, ua.natAbs ≤ 720000000 ∧ ub.natAbs ≤ 3600 ∧ ub ≠ 0 ∧ dfN f w n = lZ ua ∧ dfD f n = lZ ub := by
  obtain ⟨c1, a1, a2⟩ := cW_v f n
  obtain ⟨c2, b1, b2⟩ := cO_v f n
  obtain ⟨z1, d1, d2⟩ := sW_v f hw n (Nat.le_refl _)
  obtain ⟨z2, e1, e2⟩ := sO_v f hw n (Nat.le_refl _)
  rw [dfB, gapB, Bool.and_eq_true, Bool.not_eq_true', Bool.not_eq_true', decide_eq_false_iff_not, decide_eq_false_iff_not, a2, b2] at hd
  have p1 : c1 ≠ 0 := fun q => hd.1 (by rw [q]; rfl)
  have p2 : c2 ≠ 0 := fun q => hd.2 (by rw [q]; rfl)
  refine ⟨z1 * c2 - z2 * c1, c1 * c2, ?_, ?_, ?_, ?_, ?_⟩
  · have m1 : (z1 * (c2 : Int)).natAbs ≤ 6000000 * 60 := by rw [Int.natAbs_mul]; exact Nat.mul_le_mul (by omega) (by omega)
    have m2 : (z2 * (c1 : Int)).natAbs ≤ 6000000 * 60 := by rw [Int.natAbs_mul]; exact Nat.mul_le_mul (by omega) (by omega)
    omega
  · rw [Int.natAbs_mul]; exact (Nat.mul_le_mul (show (c1 : Int).natAbs ≤ 60 by omega) (show (c2 : Int).natAbs ≤ 60 by omega))
  · exact Int.mul_ne_zero (by omega) (by omega)
  · rw [dfN, gapN, a2, b2, d2, e2, nI_wide (by omega), nI_wide (by omega)]
    unfold lM
    rw [lZ_mul, lZ_mul, lZ_sub]
  · rw [dfD, gapD, a2, b2, nI_wide (by omega), nI_wide (by omega)]
    unfold lM
    rw [lZ_mul]
theorem df_ok {f : Nat → Bool} {w : Nat → Int64} {n : Nat} (hn : n ≤ 60) (hw : wOk w n) (hd : dfB f n = true) : okAB (dfN f w n) (dfD f n) := by
  obtain ⟨ua, ub, h1, h2, h3, h4, h5⟩ := df_val hn hw hd
  exact ⟨ua, ub, by omega, by omega, h3, h4, h5⟩
theorem df_b {f : Nat → Bool} {n : Nat} (h1 : ¬ (cW f n).toInt64 = 0) (h2 : ¬ (cO f n).toInt64 = 0) : dfB f n = true := by
  rw [dfB, gapB, decide_eq_false (fun z => h1 (by rw [z]; rfl)), decide_eq_false (fun z => h2 (by rw [z]; rfl))]; rfl
theorem df_b1 {f : Nat → Bool} {n : Nat} (h1 : (cW f n).toInt64 = 0) : dfB f n = false := by
  rw [dfB, gapB, decide_eq_true (i64_0 h1)]; rfl
theorem df_b2 {f : Nat → Bool} {n : Nat} (h1 : (cO f n).toInt64 = 0) : dfB f n = false := by
  rw [dfB, gapB, decide_eq_true (i64_0 h1)]; exact Bool.and_false _
theorem wgL_ok {cut : Int32} {nd ki bi pa la : Nat → Int32} {n y : Nat} (hp : ∀ j, j < n → vp_in (pa j) 10000) (h : ∀ i, i < 5 → vp_in (la i) 1000) (hy : y ≤ 40) : wOk (wgL cut nd ki bi pa la (nI y)) n := by
  intro k hk
  obtain ⟨z, h1, h2, h3, -⟩ := wag_v (cut := cut) (nd := nd) (ki := ki) (bi := bi) (hp k hk) h hy
  exact ⟨z, by omega, by rw [wgL, h3, iZ_wide (by omega) (by omega)]⟩
theorem shL_ok (cut : Int32) (nd ki bi : Nat → Int32) (n : Nat) : wOk (shL cut nd ki bi) n := by
  intro k _
  unfold shL
  by_cases g : hsB (svF cut nd ki bi k) = true
  · rw [if_pos g]; exact ⟨1, by decide, rfl⟩
  · rw [if_neg g]; exact ⟨0, by decide, rfl⟩
set_option maxHeartbeats 4000000 in
set_option maxRecDepth 100000 in
theorem c_X7_monthOf (l : Launch) (D : va_G) (cI cJ cZ : ClassId) (x : Nat) (xf : Nat) (xs : Nat) (xk : Nat) (xp : Nat) (xd : Nat) (xo : Nat) (xn : Nat) (xr : Nat) (xy : Nat) (xi : Nat) (xt : Nat) (xq : Nat) (xb : Nat) (xw : Nat) (xl : Nat) (xm : Nat) (xe : Nat) (zl : Int32) (zt : Int32) (za : Int32) (zm : Int32) (zc : Int32) (ze : Int32) (zh : Int32) (zi : Int32) (zq : Int32) (zu : Int64) (zv : Int64) (d0 : Nat) (hd : d0 < 366) : CtI l D cI cJ cZ yX7_monthOf cX7_monthOf 3 (some .int) 1 [.ref x, .int (nI d0)] [(x, .inr (7, [.ref xf, .ref xs, .ref xk, .ref xp, .ref xd, .ref xo, .ref xn, .ref xr, .ref xy, .ref xi, .int zl, .long zu, .long zv, .ref xt, .ref xq, .ref xb, .ref xw, .ref xl, .ref xm, .int zt, .int za, .int zm, .int zc, .int ze, .ref xe, .int zh, .int zi, .int zq])), (xy, .inl (cI, 12, .inl (nR mln)))] (fun (_ : Unit) => monOf (nI d0)) (fun (_ : Unit) => True) (fun (_ : Unit) => [(x, .inr (7, [.ref xf, .ref xs, .ref xk, .ref xp, .ref xd, .ref xo, .ref xn, .ref xr, .ref xy, .ref xi, .int zl, .long zu, .long zv, .ref xt, .ref xq, .ref xb, .ref xw, .ref xl, .ref xm, .int zt, .int za, .int zm, .int zc, .int ze, .ref xe, .int zh, .int zi, .int zq])), (xy, .inl (cI, 12, .inl (nR mln)))]) := by
  refine q_entI (own := RX7) rfl rfl (Nat.le_of_ble_eq_true rfl) ?_
  intro p e s m args below meth c A ls QQ hQ hE hx hb hr hk hin hA hl hst
  have hl : lv_has ls 3 [(0, .ref x), (1, .int (nI d0))] := hl
  have hmo := mof_ok d0 hd
  have loop_2 : ∀ (fu : Nat) (kq : Nat), (kq ≤ mofN d0) → (12 - kq) < fu → ∀ (H : Heap) (locs : List Loc) (ls : Array Slot), SS D A s [(x, .inr (7, [.ref xf, .ref xs, .ref xk, .ref xp, .ref xd, .ref xo, .ref xn, .ref xr, .ref xy, .ref xi, .int zl, .long zu, .long zv, .ref xt, .ref xq, .ref xb, .ref xw, .ref xl, .ref xm, .int zt, .int za, .int zm, .int zc, .int ze, .ref xe, .int zh, .int zi, .int zq])), (xy, .inl (cI, 12, .inl (nR mln)))] H locs → lv_has ls 3 [(2, .int (nI kq)), (0, .ref x), (1, .int (nI d0))] → W p l e (rmN 1 0 0) s m args below meth c H locs 0 0 QQ (F0 m 2 ls []) := by
    intro fu
    induction fu with
    | zero =>
      intro kq h1 hn
      exact absurd hn (Nat.not_lt_zero _)
    | succ fu ih =>
      intro kq h1 hn H locs ls hst hl
      refine lv_aload_n hx hb dX7_monthOf_2 rfl (lv_at hl 1 rfl) ?_
      refine lv_iload_n hx hb dX7_monthOf_3 rfl (lv_at hl 0 rfl) ?_
      refine lv_iconst (v := 1) hx hb dX7_monthOf_4 (by decide) ?_
      refine lv_iadd hx hb dX7_monthOf_5 ?_
      refine q_top (x' := nI (kq + 1)) (nI_1 _) ?_
      refine q_goI (q_rV hE lk_X7_108 (c_X7_firstOf l D cI cJ cZ x xf xs xk xp xd xo xn xr xy xi xt xq xb xw xl xm xe zl zt za zm zc ze zh zi zq zu zv (kq + 1) (by first | assumption | decide | omega) H.size) hst [0, 1] rfl rfl rfl rfl rfl hl.1 ⟨(Nat.le_of_ble_eq_true rfl), (Nat.le_of_ble_eq_true rfl)⟩ (rest := []) rfl (Nat.le_of_ble_eq_true rfl) dX7_monthOf_6 ⟨(Nat.le_of_ble_eq_true rfl), (Nat.le_of_ble_eq_true rfl)⟩) hE hst [0, 1] rfl (fun _ => rfl) (fun (_ : Unit) => [(x, .inr (7, [.ref xf, .ref xs, .ref xk, .ref xp, .ref xd, .ref xo, .ref xn, .ref xr, .ref xy, .ref xi, .int zl, .long zu, .long zv, .ref xt, .ref xq, .ref xb, .ref xw, .ref xl, .ref xm, .int zt, .int za, .int zm, .int zc, .int ze, .ref xe, .int zh, .int zi, .int zq])), (xy, .inl (cI, 12, .inl (nR mln)))]) (fun _ => rfl) (fun _ H locs hF hst => ?_)
      refine lv_iload_n hx hb dX7_monthOf_9 rfl (lv_at hl 2 rfl) ?_
      refine lv_icmp_gt (tgt := 19) hx hb dX7_monthOf_10 (by decide) (fun c_10 => ?_) (fun c_10 => ?_)
      · skip
        have hk1 : kq = mofN d0 := by have := (nI_ltI (a := d0) (b := mst (kq + 1)) (by omega) (by have := (mst_ok (kq + 1) (by omega)).2; omega)).mp c_10; have := mof_le d0 hd kq (by omega); omega
        refine lv_iload_n hx hb dX7_monthOf_19 rfl (lv_at hl 0 rfl) ?_
        exact q_retI hQ hE hr hk hst () (by rw [hmo.1, hk1]) (trivial) (rfl) dX7_monthOf_20
      · skip
        have hk1 : kq < mofN d0 := (mof_le d0 hd kq (by omega)).mp (Nat.le_of_not_lt (fun z => c_10 (nI_lt (a := d0) (b := mst (kq + 1)) z (by have := (mst_ok (kq + 1) (by omega)).2; omega))))
        refine lv_iinc (v := nI (kq + 1)) (lv' := [(2, .int (nI (kq + 1))), (0, .ref x), (1, .int (nI d0))]) hx hb dX7_monthOf_13 hl (k := 0) rfl (nI_next _) (by decide) rfl (fun ls hl => ?_)
        refine lv_goto (tgt := 2) hx hb dX7_monthOf_16 (by decide) ?_
        exact ih (kq + 1) (by omega) (by omega) _ _ _ (hst) (lv_sub hl [0, 1, 2] rfl)
  refine lv_iconst (v := 0) hx hb dX7_monthOf_0 (by decide) ?_
  refine lv_istore_n (lv' := [(2, .int 0), (0, .ref x), (1, .int (nI d0))]) hx hb dX7_monthOf_1 rfl hl (by decide) rfl (fun ls hl => ?_)
  exact loop_2 (13) 0 (Nat.zero_le _) (by decide) _ _ _ (hst) (lv_sub hl [0, 1, 2] rfl)
set_option maxHeartbeats 4000000 in
set_option maxRecDepth 100000 in
theorem c_X7_sumOf (l : Launch) (D : va_G) (cI cJ cZ : ClassId) (x : Nat) (xf : Nat) (xs : Nat) (xk : Nat) (xp : Nat) (xd : Nat) (xo : Nat) (xn : Nat) (xr : Nat) (xy : Nat) (xi : Nat) (xt : Nat) (xq : Nat) (xb : Nat) (xw : Nat) (xl : Nat) (xm : Nat) (xe : Nat) (zl : Int32) (zt : Int32) (za : Int32) (zm : Int32) (zc : Int32) (ze : Int32) (zh : Int32) (zi : Int32) (zq : Int32) (zu : Int64) (zv : Int64) (seF : Nat → Int32) (kF : Nat → Nat) (spF : Nat → Nat) (deF : Nat → Nat) (pF : Nat → Bool) (nm : Nat → Int32) (f : Nat → Int32) (dz : Nat → Int32) (j0 : Nat) (m0 : Nat) (hj : j0 < 2) (hjo : joM kF spF deF) (hck : ckM seF kF spF deF pF nm dz) (hm : m0 < 12) : CtL l D cI cJ cZ yX7_sumOf cX7_sumOf 6 (some .long) 3 [.ref x, .int (nI j0), .int (nI m0)] [(x, .inr (7, [.ref xf, .ref xs, .ref xk, .ref xp, .ref xd, .ref xo, .ref xn, .ref xr, .ref xy, .ref xi, .int zl, .long zu, .long zv, .ref xt, .ref xq, .ref xb, .ref xw, .ref xl, .ref xm, .int zt, .int za, .int zm, .int zc, .int ze, .ref xe, .int zh, .int zi, .int zq])), (xs, .inl (cI, 2, .inl seF)), (xk, .inl (cI, 2, .inl (nR kF))), (xp, .inl (cI, 2, .inl (nR spF))), (xd, .inl (cI, 2, .inl (nR deF))), (xo, .inl (cI, 2, .inl (bR pF))), (xn, .inl (cI, 732, .inl nm)), (xr, .inl (cI, 366, .inl f)), (xi, .inl (cZ, 2, .inl dz)), (xy, .inl (cI, 12, .inl (nR mln)))] (fun (u : Int32 × (Nat → Int32) × (Nat → Int32) × (Nat → Int32)) => (monS (ndM seF kF spF deF pF j0) m0).toInt64) (fun (u : Int32 × (Nat → Int32) × (Nat → Int32) × (Nat → Int32)) => ckM seF kF spF deF pF u.2.1 u.2.2.2) (fun (u : Int32 × (Nat → Int32) × (Nat → Int32) × (Nat → Int32)) => [(x, .inr (7, [.ref xf, .ref xs, .ref xk, .ref xp, .ref xd, .ref xo, .ref xn, .ref xr, .ref xy, .ref xi, .int u.1, .long zu, .long zv, .ref xt, .ref xq, .ref xb, .ref xw, .ref xl, .ref xm, .int zt, .int za, .int zm, .int zc, .int ze, .ref xe, .int zh, .int zi, .int zq])), (xs, .inl (cI, 2, .inl seF)), (xk, .inl (cI, 2, .inl (nR kF))), (xp, .inl (cI, 2, .inl (nR spF))), (xd, .inl (cI, 2, .inl (nR deF))), (xo, .inl (cI, 2, .inl (bR pF))), (xn, .inl (cI, 732, .inl u.2.1)), (xr, .inl (cI, 366, .inl u.2.2.1)), (xi, .inl (cZ, 2, .inl u.2.2.2)), (xy, .inl (cI, 12, .inl (nR mln)))]) := by
  refine q_entL (own := RX7) rfl rfl (Nat.le_of_ble_eq_true rfl) ?_
  intro p e s m args below meth c A ls QQ hQ hE hx hb hr hk hin hA hl hst
  have hl : lv_has ls 6 [(0, .ref x), (1, .int (nI j0)), (2, .int (nI m0))] := hl
  obtain ⟨hj1, hj2, hj3, hj4⟩ := hjo j0 hj
  have hml := mln_ok m0 hm
  have hms := (mst_ok (m0 + 1) (by omega)).2
  have loop_9 : ∀ (fu : Nat) (zl2 : Int32) (nm2 : Nat → Int32) (f2 : Nat → Int32) (dz2 : Nat → Int32) (i : Nat), (ckM seF kF spF deF pF nm2 dz2) → (i ≤ mln m0) → (mln m0 - i) < fu → ∀ (H : Heap) (locs : List Loc) (ls : Array Slot), SS D A s [(x, .inr (7, [.ref xf, .ref xs, .ref xk, .ref xp, .ref xd, .ref xo, .ref xn, .ref xr, .ref xy, .ref xi, .int zl2, .long zu, .long zv, .ref xt, .ref xq, .ref xb, .ref xw, .ref xl, .ref xm, .int zt, .int za, .int zm, .int zc, .int ze, .ref xe, .int zh, .int zi, .int zq])), (xs, .inl (cI, 2, .inl seF)), (xk, .inl (cI, 2, .inl (nR kF))), (xp, .inl (cI, 2, .inl (nR spF))), (xd, .inl (cI, 2, .inl (nR deF))), (xo, .inl (cI, 2, .inl (bR pF))), (xn, .inl (cI, 732, .inl nm2)), (xr, .inl (cI, 366, .inl f2)), (xi, .inl (cZ, 2, .inl dz2)), (xy, .inl (cI, 12, .inl (nR mln)))] H locs → lv_has ls 6 [(5, .int (nI (mst m0 + i))), (3, .long ((sumR (ndM seF kF spF deF pF j0) i (mst m0)).toInt64)), (0, .ref x), (1, .int (nI j0)), (2, .int (nI m0))] → W p l e (rmN 3 0 0) s m args below meth c H locs 0 0 QQ (F0 m 9 ls []) := by
    intro fu
    induction fu with
    | zero =>
      intro zl2 nm2 f2 dz2 i hck2 h1 hn
      exact absurd hn (Nat.not_lt_zero _)
    | succ fu ih =>
      intro zl2 nm2 f2 dz2 i hck2 h1 hn H locs ls hst hl
      refine lv_iload hx hb dX7_sumOf_9 (lv_at hl 0 rfl) ?_
      refine lv_aload_n hx hb dX7_sumOf_11 rfl (lv_at hl 2 rfl) ?_
      refine lv_iload_n hx hb dX7_sumOf_12 rfl (lv_at hl 4 rfl) ?_
      refine q_goI (q_rV hE lk_X7_108 (c_X7_firstOf l D cI cJ cZ x xf xs xk xp xd xo xn xr xy xi xt xq xb xw xl xm xe zl2 zt za zm zc ze zh zi zq zu zv m0 (by first | assumption | decide | omega) H.size) hst [0, 9] rfl rfl rfl rfl rfl hl.1 ⟨(Nat.le_of_ble_eq_true rfl), (Nat.le_of_ble_eq_true rfl)⟩ (rest := [.int (nI (mst m0 + i))]) rfl (Nat.le_of_ble_eq_true rfl) dX7_sumOf_13 ⟨(Nat.le_of_ble_eq_true rfl), (Nat.le_of_ble_eq_true rfl)⟩) hE hst [0, 9] rfl (fun _ => rfl) (fun (_ : Unit) => [(x, .inr (7, [.ref xf, .ref xs, .ref xk, .ref xp, .ref xd, .ref xo, .ref xn, .ref xr, .ref xy, .ref xi, .int zl2, .long zu, .long zv, .ref xt, .ref xq, .ref xb, .ref xw, .ref xl, .ref xm, .int zt, .int za, .int zm, .int zc, .int ze, .ref xe, .int zh, .int zi, .int zq])), (xs, .inl (cI, 2, .inl seF)), (xk, .inl (cI, 2, .inl (nR kF))), (xp, .inl (cI, 2, .inl (nR spF))), (xd, .inl (cI, 2, .inl (nR deF))), (xo, .inl (cI, 2, .inl (bR pF))), (xn, .inl (cI, 732, .inl nm2)), (xr, .inl (cI, 366, .inl f2)), (xi, .inl (cZ, 2, .inl dz2)), (xy, .inl (cI, 12, .inl (nR mln)))]) (fun _ => rfl) (fun _ H locs hF hst => ?_)
      refine lv_aload_n hx hb dX7_sumOf_16 rfl (lv_at hl 2 rfl) ?_
      refine gf_X7_34 hE hst 0 rfl rfl dX7_sumOf_17 ?_
      refine lv_iload_n hx hb dX7_sumOf_20 rfl (lv_at hl 4 rfl) ?_
      refine q_aldN hE hst 9 rfl m0 (rfl) (by omega) (by decide) dX7_sumOf_21 ?_
      refine q_top (x' := nI (mln m0)) (rfl) ?_
      refine lv_iadd hx hb dX7_sumOf_22 ?_
      refine q_top (x' := nI (mst m0 + mln m0)) (nI_add _ _) ?_
      refine lv_icmp_ge (tgt := 43) hx hb dX7_sumOf_23 (by decide) (fun c_23 => ?_) (fun c_23 => ?_)
      · skip
        have hk1 : i = mln m0 := Nat.le_antisymm h1 (Nat.le_of_not_lt (fun z => nI_ge (a := mst m0 + i) (b := mst m0 + mln m0) (by omega) (by omega) c_23))
        refine lv_lload_n hx hb dX7_sumOf_43 rfl (lv_at hl 1 rfl) ?_
        exact q_retL hQ hE hr hk hst (zl2, nm2, f2, dz2) (by rw [hk1]; rfl) (hck2) (rfl) dX7_sumOf_44
      · skip
        have hk1 : i < mln m0 := Nat.lt_of_not_le (fun z => c_23 (nI_le (by omega) (by omega)))
        refine lv_lload_n hx hb dX7_sumOf_26 rfl (lv_at hl 1 rfl) ?_
        refine lv_aload_n hx hb dX7_sumOf_27 rfl (lv_at hl 2 rfl) ?_
        refine lv_iload_n hx hb dX7_sumOf_28 rfl (lv_at hl 3 rfl) ?_
        refine lv_iload hx hb dX7_sumOf_29 (lv_at hl 0 rfl) ?_
        refine q_goI (q_rV hE lk_X7_100 (c_X7_numberOf l D cI cJ cZ x xf xs xk xp xd xo xn xr xy xi xt xq xb xw xl xm xe zl2 zt za zm zc ze zh zi zq zu zv seF kF spF deF pF nm2 f2 dz2 j0 (mst m0 + i) (hj) (hjo) (hck2) (by omega) H.size) hst [0, 1, 2, 3, 4, 5, 6, 7, 8] rfl rfl rfl rfl rfl hl.1 ⟨(Nat.le_of_ble_eq_true rfl), (Nat.le_of_ble_eq_true rfl)⟩ (rest := [.long ((sumR (ndM seF kF spF deF pF j0) i (mst m0)).toInt64)]) rfl (Nat.le_of_ble_eq_true rfl) dX7_sumOf_31 ⟨(Nat.le_of_ble_eq_true rfl), (Nat.le_of_ble_eq_true rfl)⟩) hE hst [0, 1, 2, 3, 4, 5, 6, 7, 8] rfl (fun _ => rfl) (fun (u : Int32 × (Nat → Int32) × (Nat → Int32) × (Nat → Int32)) => [(x, .inr (7, [.ref xf, .ref xs, .ref xk, .ref xp, .ref xd, .ref xo, .ref xn, .ref xr, .ref xy, .ref xi, .int u.1, .long zu, .long zv, .ref xt, .ref xq, .ref xb, .ref xw, .ref xl, .ref xm, .int zt, .int za, .int zm, .int zc, .int ze, .ref xe, .int zh, .int zi, .int zq])), (xs, .inl (cI, 2, .inl seF)), (xk, .inl (cI, 2, .inl (nR kF))), (xp, .inl (cI, 2, .inl (nR spF))), (xd, .inl (cI, 2, .inl (nR deF))), (xo, .inl (cI, 2, .inl (bR pF))), (xn, .inl (cI, 732, .inl u.2.1)), (xr, .inl (cI, 366, .inl u.2.2.1)), (xi, .inl (cZ, 2, .inl u.2.2.2)), (xy, .inl (cI, 12, .inl (nR mln)))]) (fun _ => rfl) (fun u H locs hF hst => ?_)
        obtain ⟨zl1_1, nm1_2, f1_3, dz1_4⟩ := u
        have hst : SS D A s [(x, .inr (7, [.ref xf, .ref xs, .ref xk, .ref xp, .ref xd, .ref xo, .ref xn, .ref xr, .ref xy, .ref xi, .int zl1_1, .long zu, .long zv, .ref xt, .ref xq, .ref xb, .ref xw, .ref xl, .ref xm, .int zt, .int za, .int zm, .int zc, .int ze, .ref xe, .int zh, .int zi, .int zq])), (xs, .inl (cI, 2, .inl seF)), (xk, .inl (cI, 2, .inl (nR kF))), (xp, .inl (cI, 2, .inl (nR spF))), (xd, .inl (cI, 2, .inl (nR deF))), (xo, .inl (cI, 2, .inl (bR pF))), (xn, .inl (cI, 732, .inl nm1_2)), (xr, .inl (cI, 366, .inl f1_3)), (xi, .inl (cZ, 2, .inl dz1_4)), (xy, .inl (cI, 12, .inl (nR mln)))] H locs := hst
        have hF : (ckM seF kF spF deF pF nm1_2 dz1_4) := hF
        have hF0_31 := hF
        refine W.eq (g2 := F0 m 34 ls [.int (ndM seF kF spF deF pF j0 (mst m0 + i)), .long ((sumR (ndM seF kF spF deF pF j0) i (mst m0)).toInt64)]) rfl ?_
        refine lv_i2l (v := (ndM seF kF spF deF pF j0 (mst m0 + i)).toInt64) hx hb dX7_sumOf_34 rfl ?_
        refine lv_ladd hx hb dX7_sumOf_35 ?_
        refine lv_lstore_n (lv' := [(3, .long (((sumR (ndM seF kF spF deF pF j0) i (mst m0)).toInt64) + ((ndM seF kF spF deF pF j0 (mst m0 + i)).toInt64))), (5, .int (nI (mst m0 + i))), (0, .ref x), (1, .int (nI j0)), (2, .int (nI m0))]) hx hb dX7_sumOf_36 rfl hl (by decide) rfl (fun ls hl => ?_)
        have hl : lv_has ls 6 [(3, .long ((sumR (ndM seF kF spF deF pF j0) (i + 1) (mst m0)).toInt64)), (5, .int (nI (mst m0 + i))), (0, .ref x), (1, .int (nI j0)), (2, .int (nI m0))] := by rw [sum_w (by omega) (fun q hq => by obtain ⟨v, -, g2, g3⟩ := nd_v (seF := seF) (kF := kF) (spF := spF) (pF := pF) hj3 (show mst m0 + q < 366 by omega); exact ⟨v, g2, g3⟩)]; exact hl
        refine lv_iinc (v := nI ((mst m0 + i) + 1)) (lv' := [(5, .int (nI ((mst m0 + i) + 1))), (3, .long ((sumR (ndM seF kF spF deF pF j0) (i + 1) (mst m0)).toInt64)), (0, .ref x), (1, .int (nI j0)), (2, .int (nI m0))]) hx hb dX7_sumOf_37 hl (k := 1) rfl (nI_next _) (by decide) rfl (fun ls hl => ?_)
        refine lv_goto (tgt := 9) hx hb dX7_sumOf_40 (by decide) ?_
        exact ih zl1_1 nm1_2 f1_3 dz1_4 (i + 1) (hF0_31) (by omega) (by omega) _ _ _ (hst) (lv_sub hl [0, 1, 2, 3, 4] rfl)
  refine lv_lconst (v := 0) hx hb dX7_sumOf_0 (by decide) ?_
  refine lv_lstore_n (lv' := [(3, .long 0), (0, .ref x), (1, .int (nI j0)), (2, .int (nI m0))]) hx hb dX7_sumOf_1 rfl hl (by decide) rfl (fun ls hl => ?_)
  refine lv_aload_n hx hb dX7_sumOf_2 rfl (lv_at hl 1 rfl) ?_
  refine lv_iload_n hx hb dX7_sumOf_3 rfl (lv_at hl 3 rfl) ?_
  refine q_goI (q_rV hE lk_X7_108 (c_X7_firstOf l D cI cJ cZ x xf xs xk xp xd xo xn xr xy xi xt xq xb xw xl xm xe zl zt za zm zc ze zh zi zq zu zv m0 (by first | assumption | decide | omega) s.heap.size) hst [0, 9] rfl rfl rfl rfl rfl hl.1 ⟨(Nat.le_of_ble_eq_true rfl), (Nat.le_of_ble_eq_true rfl)⟩ (rest := []) rfl (Nat.le_of_ble_eq_true rfl) dX7_sumOf_4 ⟨(Nat.le_of_ble_eq_true rfl), (Nat.le_of_ble_eq_true rfl)⟩) hE hst [0, 9] rfl (fun _ => rfl) (fun (_ : Unit) => [(x, .inr (7, [.ref xf, .ref xs, .ref xk, .ref xp, .ref xd, .ref xo, .ref xn, .ref xr, .ref xy, .ref xi, .int zl, .long zu, .long zv, .ref xt, .ref xq, .ref xb, .ref xw, .ref xl, .ref xm, .int zt, .int za, .int zm, .int zc, .int ze, .ref xe, .int zh, .int zi, .int zq])), (xs, .inl (cI, 2, .inl seF)), (xk, .inl (cI, 2, .inl (nR kF))), (xp, .inl (cI, 2, .inl (nR spF))), (xd, .inl (cI, 2, .inl (nR deF))), (xo, .inl (cI, 2, .inl (bR pF))), (xn, .inl (cI, 732, .inl nm)), (xr, .inl (cI, 366, .inl f)), (xi, .inl (cZ, 2, .inl dz)), (xy, .inl (cI, 12, .inl (nR mln)))]) (fun _ => rfl) (fun _ H locs hF hst => ?_)
  refine lv_istore (lv' := [(5, .int (nI (mst m0))), (3, .long 0), (0, .ref x), (1, .int (nI j0)), (2, .int (nI m0))]) hx hb dX7_sumOf_7 hl (by decide) rfl (fun ls hl => ?_)
  exact loop_9 (mln m0 + 1) zl nm f dz 0 (hck) (Nat.zero_le _) (by omega) _ _ _ (hst) (lv_sub hl [0, 1, 2, 3, 4] rfl)
set_option maxHeartbeats 4000000 in
set_option maxRecDepth 100000 in
theorem c_X7_offOf (l : Launch) (D : va_G) (cI cJ cZ : ClassId) (x : Nat) (xf : Nat) (xs : Nat) (xk : Nat) (xp : Nat) (xd : Nat) (xo : Nat) (xn : Nat) (xr : Nat) (xy : Nat) (xi : Nat) (xt : Nat) (xq : Nat) (xb : Nat) (xw : Nat) (xl : Nat) (xm : Nat) (xe : Nat) (zl : Int32) (zt : Int32) (za : Int32) (zm : Int32) (zc : Int32) (ze : Int32) (zh : Int32) (zi : Int32) (zq : Int32) (zu : Int64) (zv : Int64) (seF : Nat → Int32) (kF : Nat → Nat) (spF : Nat → Nat) (deF : Nat → Nat) (pF : Nat → Bool) (nm : Nat → Int32) (f : Nat → Int32) (dz : Nat → Int32) (j0 : Nat) (m0 : Nat) (hj : j0 < 2) (hjo : joM kF spF deF) (hck : ckM seF kF spF deF pF nm dz) (hm : m0 < 12) : CtL l D cI cJ cZ yX7_offOf cX7_offOf 5 (some .long) 4 [.ref x, .int (nI j0), .int (nI m0)] [(x, .inr (7, [.ref xf, .ref xs, .ref xk, .ref xp, .ref xd, .ref xo, .ref xn, .ref xr, .ref xy, .ref xi, .int zl, .long zu, .long zv, .ref xt, .ref xq, .ref xb, .ref xw, .ref xl, .ref xm, .int zt, .int za, .int zm, .int zc, .int ze, .ref xe, .int zh, .int zi, .int zq])), (xs, .inl (cI, 2, .inl seF)), (xk, .inl (cI, 2, .inl (nR kF))), (xp, .inl (cI, 2, .inl (nR spF))), (xd, .inl (cI, 2, .inl (nR deF))), (xo, .inl (cI, 2, .inl (bR pF))), (xn, .inl (cI, 732, .inl nm)), (xr, .inl (cI, 366, .inl f)), (xi, .inl (cZ, 2, .inl dz)), (xy, .inl (cI, 12, .inl (nR mln)))] (fun (u : Int32 × (Nat → Int32) × (Nat → Int32) × (Nat → Int32)) => monD (ndM seF kF spF deF pF j0) m0) (fun (u : Int32 × (Nat → Int32) × (Nat → Int32) × (Nat → Int32)) => ckM seF kF spF deF pF u.2.1 u.2.2.2) (fun (u : Int32 × (Nat → Int32) × (Nat → Int32) × (Nat → Int32)) => [(x, .inr (7, [.ref xf, .ref xs, .ref xk, .ref xp, .ref xd, .ref xo, .ref xn, .ref xr, .ref xy, .ref xi, .int u.1, .long zu, .long zv, .ref xt, .ref xq, .ref xb, .ref xw, .ref xl, .ref xm, .int zt, .int za, .int zm, .int zc, .int ze, .ref xe, .int zh, .int zi, .int zq])), (xs, .inl (cI, 2, .inl seF)), (xk, .inl (cI, 2, .inl (nR kF))), (xp, .inl (cI, 2, .inl (nR spF))), (xd, .inl (cI, 2, .inl (nR deF))), (xo, .inl (cI, 2, .inl (bR pF))), (xn, .inl (cI, 732, .inl u.2.1)), (xr, .inl (cI, 366, .inl u.2.2.1)), (xi, .inl (cZ, 2, .inl u.2.2.2)), (xy, .inl (cI, 12, .inl (nR mln)))]) := by
  refine q_entL (own := RX7) rfl rfl (Nat.le_of_ble_eq_true rfl) ?_
  intro p e s m args below meth c A ls QQ hQ hE hx hb hr hk hin hA hl hst
  have hl : lv_has ls 5 [(0, .ref x), (1, .int (nI j0)), (2, .int (nI m0))] := hl
  refine q_ldc2 hE wk_4_134 dX7_offOf_0 ?_
  refine lv_aload_n hx hb dX7_offOf_3 rfl (lv_at hl 0 rfl) ?_
  refine lv_iload_n hx hb dX7_offOf_4 rfl (lv_at hl 1 rfl) ?_
  refine lv_iload_n hx hb dX7_offOf_5 rfl (lv_at hl 2 rfl) ?_
  refine q_goL (q_rV hE lk_X7_128 (c_X7_sumOf l D cI cJ cZ x xf xs xk xp xd xo xn xr xy xi xt xq xb xw xl xm xe zl zt za zm zc ze zh zi zq zu zv seF kF spF deF pF nm f dz j0 m0 (by first | assumption | decide | omega) (by first | assumption | decide | omega) (by first | assumption | decide | omega) (by first | assumption | decide | omega) s.heap.size) hst [0, 1, 2, 3, 4, 5, 6, 7, 8, 9] rfl rfl rfl rfl rfl hl.1 ⟨(Nat.le_of_ble_eq_true rfl), (Nat.le_of_ble_eq_true rfl)⟩ (rest := [.long 2]) rfl (Nat.le_of_ble_eq_true rfl) dX7_offOf_6 ⟨(Nat.le_of_ble_eq_true rfl), (Nat.le_of_ble_eq_true rfl)⟩) hE hst [0, 1, 2, 3, 4, 5, 6, 7, 8, 9] rfl (fun _ => rfl) (fun (u : Int32 × (Nat → Int32) × (Nat → Int32) × (Nat → Int32)) => [(x, .inr (7, [.ref xf, .ref xs, .ref xk, .ref xp, .ref xd, .ref xo, .ref xn, .ref xr, .ref xy, .ref xi, .int u.1, .long zu, .long zv, .ref xt, .ref xq, .ref xb, .ref xw, .ref xl, .ref xm, .int zt, .int za, .int zm, .int zc, .int ze, .ref xe, .int zh, .int zi, .int zq])), (xs, .inl (cI, 2, .inl seF)), (xk, .inl (cI, 2, .inl (nR kF))), (xp, .inl (cI, 2, .inl (nR spF))), (xd, .inl (cI, 2, .inl (nR deF))), (xo, .inl (cI, 2, .inl (bR pF))), (xn, .inl (cI, 732, .inl u.2.1)), (xr, .inl (cI, 366, .inl u.2.2.1)), (xi, .inl (cZ, 2, .inl u.2.2.2)), (xy, .inl (cI, 12, .inl (nR mln)))]) (fun _ => rfl) (fun u H locs hF hst => ?_)
  obtain ⟨zl1_1, nm1_2, f1_3, dz1_4⟩ := u
  have hst : SS D A s [(x, .inr (7, [.ref xf, .ref xs, .ref xk, .ref xp, .ref xd, .ref xo, .ref xn, .ref xr, .ref xy, .ref xi, .int zl1_1, .long zu, .long zv, .ref xt, .ref xq, .ref xb, .ref xw, .ref xl, .ref xm, .int zt, .int za, .int zm, .int zc, .int ze, .ref xe, .int zh, .int zi, .int zq])), (xs, .inl (cI, 2, .inl seF)), (xk, .inl (cI, 2, .inl (nR kF))), (xp, .inl (cI, 2, .inl (nR spF))), (xd, .inl (cI, 2, .inl (nR deF))), (xo, .inl (cI, 2, .inl (bR pF))), (xn, .inl (cI, 732, .inl nm1_2)), (xr, .inl (cI, 366, .inl f1_3)), (xi, .inl (cZ, 2, .inl dz1_4)), (xy, .inl (cI, 12, .inl (nR mln)))] H locs := hst
  have hF : (ckM seF kF spF deF pF nm1_2 dz1_4) := hF
  have hF0_6 := hF
  refine W.eq (g2 := F0 m 9 ls [.long ((monS (ndM seF kF spF deF pF j0) m0).toInt64), .long 2]) rfl ?_
  refine lv_lmul hx hb dX7_offOf_9 ?_
  refine q_ldc2 hE wk_4_136 dX7_offOf_10 ?_
  refine lv_aload_n hx hb dX7_offOf_13 rfl (lv_at hl 0 rfl) ?_
  refine gf_X7_34 hE hst 0 rfl rfl dX7_offOf_14 ?_
  refine lv_iload_n hx hb dX7_offOf_17 rfl (lv_at hl 2 rfl) ?_
  refine q_aldN hE hst 9 rfl m0 (rfl) (by omega) (by decide) dX7_offOf_18 ?_
  refine q_top (x' := nI (mln m0)) (rfl) ?_
  refine lv_i2l (v := (nI (mln m0)).toInt64) hx hb dX7_offOf_19 rfl ?_
  refine lv_lmul hx hb dX7_offOf_20 ?_
  refine lv_lsub hx hb dX7_offOf_21 ?_
  refine lv_lstore_n (lv' := [(3, .long ((2 * ((monS (ndM seF kF spF deF pF j0) m0).toInt64)) - (367 * ((nI (mln m0)).toInt64)))), (0, .ref x), (1, .int (nI j0)), (2, .int (nI m0))]) hx hb dX7_offOf_22 rfl hl (by decide) rfl (fun ls hl => ?_)
  refine lv_lload_n hx hb dX7_offOf_23 rfl (lv_at hl 0 rfl) ?_
  refine lv_lconst (v := 0) hx hb dX7_offOf_24 (by decide) ?_
  refine W.lcmp hx hb dX7_offOf_25 ?_
  refine lv_if_ge (tgt := 34) hx hb dX7_offOf_26 (by decide) (fun c_26 => ?_) (fun c_26 => ?_)
  · skip
    have c_26 := lc_ge.mp c_26
    refine lv_lload_n hx hb dX7_offOf_34 rfl (lv_at hl 0 rfl) ?_
    exact q_retL hQ hE hr hk hst (zl1_1, nm1_2, f1_3, dz1_4) ((absL_t c_26).symm) (hF0_6) (rfl) dX7_offOf_35
  · skip
    have c_26 := (not_congr lc_ge).mp c_26
    refine lv_lload_n hx hb dX7_offOf_29 rfl (lv_at hl 0 rfl) ?_
    refine lv_lneg hx hb dX7_offOf_30 ?_
    refine lv_goto (tgt := 35) hx hb dX7_offOf_31 (by decide) ?_
    exact q_retL hQ hE hr hk hst (zl1_1, nm1_2, f1_3, dz1_4) ((absL_f c_26).symm) (hF0_6) (rfl) dX7_offOf_35
set_option maxHeartbeats 4000000 in
set_option maxRecDepth 100000 in
theorem c_X7_mean (l : Launch) (D : va_G) (cI cJ cZ : ClassId) (x : Nat) (xf : Nat) (xs : Nat) (xk : Nat) (xp : Nat) (xd : Nat) (xo : Nat) (xn : Nat) (xr : Nat) (xy : Nat) (xi : Nat) (xt : Nat) (xq : Nat) (xb : Nat) (xw : Nat) (xl : Nat) (xm : Nat) (xe : Nat) (zl : Int32) (zt : Int32) (za : Int32) (zm : Int32) (zc : Int32) (ze : Int32) (zh : Int32) (zi : Int32) (zq : Int32) (zu : Int64) (zv : Int64) (ru : Nat → Int32) (seF : Nat → Int32) (kF : Nat → Nat) (spF : Nat → Nat) (deF : Nat → Nat) (pF : Nat → Bool) (nm : Nat → Int32) (f : Nat → Int32) (dz : Nat → Int32) (j0 : Nat) (p0 : Int32) (p1 : Int32) (p2 : Int32) (hj : j0 < 2) (hsl : isJarB p0 = true → p0 = nI j0) (hjo : joM kF spF deF) (hck : ckM seF kF spF deF pF nm dz) : CtL l D cI cJ cZ yX7_mean cX7_mean 4 (some .long) 4 [.ref x, .int p0, .int p1, .int p2] [(x, .inr (7, [.ref xf, .ref xs, .ref xk, .ref xp, .ref xd, .ref xo, .ref xn, .ref xr, .ref xy, .ref xi, .int zl, .long zu, .long zv, .ref xt, .ref xq, .ref xb, .ref xw, .ref xl, .ref xm, .int zt, .int za, .int zm, .int zc, .int ze, .ref xe, .int zh, .int zi, .int zq])), (xs, .inl (cI, 2, .inl seF)), (xk, .inl (cI, 2, .inl (nR kF))), (xp, .inl (cI, 2, .inl (nR spF))), (xd, .inl (cI, 2, .inl (nR deF))), (xo, .inl (cI, 2, .inl (bR pF))), (xn, .inl (cI, 732, .inl nm)), (xr, .inl (cI, 366, .inl f)), (xi, .inl (cZ, 2, .inl dz)), (xy, .inl (cI, 12, .inl (nR mln))), (xf, .inl (cI, 7, .inl ru))] (fun (u : Int32 × (Nat → Int32) × (Nat → Int32) × (Nat → Int32) × Int64 × Int64) => if ftf (!isJarB p0 || !isMonthB p1) (!isJarB p2) false false = 0 then (if p2 = 0 then becA (monS (ndM seF kF spF deF pF j0) p1.toNatClampNeg).toInt64 (nI (mln p1.toNatClampNeg)).toInt64 else becB (monS (ndM seF kF spF deF pF j0) p1.toNatClampNeg).toInt64 (nI (mln p1.toNatClampNeg)).toInt64) else lgR (ftf (!isJarB p0 || !isMonthB p1) (!isJarB p2) false false)) (fun (u : Int32 × (Nat → Int32) × (Nat → Int32) × (Nat → Int32) × Int64 × Int64) => ckM seF kF spF deF pF u.2.1 u.2.2.2.1) (fun (u : Int32 × (Nat → Int32) × (Nat → Int32) × (Nat → Int32) × Int64 × Int64) => [(x, .inr (7, [.ref xf, .ref xs, .ref xk, .ref xp, .ref xd, .ref xo, .ref xn, .ref xr, .ref xy, .ref xi, .int u.1, .long u.2.2.2.2.1, .long u.2.2.2.2.2, .ref xt, .ref xq, .ref xb, .ref xw, .ref xl, .ref xm, .int zt, .int za, .int zm, .int zc, .int ze, .ref xe, .int zh, .int zi, .int zq])), (xs, .inl (cI, 2, .inl seF)), (xk, .inl (cI, 2, .inl (nR kF))), (xp, .inl (cI, 2, .inl (nR spF))), (xd, .inl (cI, 2, .inl (nR deF))), (xo, .inl (cI, 2, .inl (bR pF))), (xn, .inl (cI, 732, .inl u.2.1)), (xr, .inl (cI, 366, .inl u.2.2.1)), (xi, .inl (cZ, 2, .inl u.2.2.2.1)), (xy, .inl (cI, 12, .inl (nR mln))), (xf, .inl (cI, 7, .inl (if ftf (!isJarB p0 || !isMonthB p1) (!isJarB p2) false false = 0 then ru else bmp ru (ftf (!isJarB p0 || !isMonthB p1) (!isJarB p2) false false))))]) := by
  refine q_entL (own := RX7) rfl rfl (Nat.le_of_ble_eq_true rfl) ?_
  intro p e s m args below meth c A ls QQ hQ hE hx hb hr hk hin hA hl hst
  have hl : lv_has ls 4 [(0, .ref x), (1, .int p0), (2, .int p1), (3, .int p2)] := hl
  obtain ⟨hj1, hj2, hj3, hj4⟩ := hjo j0 hj
  refine lv_iload_n hx hb dX7_mean_0 rfl (lv_at hl 1 rfl) ?_
  refine q_goI (q_rS hE lk_X7_77 (c_X7_isJar l D cI cJ cZ p0 s.heap.size) hst [] rfl rfl rfl hl.1 ⟨(Nat.le_of_ble_eq_true rfl), (Nat.le_of_ble_eq_true rfl)⟩ (rest := []) rfl (Nat.le_of_ble_eq_true rfl) dX7_mean_1 ⟨(Nat.le_of_ble_eq_true rfl), (Nat.le_of_ble_eq_true rfl)⟩) hE hst [] rfl (fun _ => rfl) (fun (_ : Unit) => [(x, .inr (7, [.ref xf, .ref xs, .ref xk, .ref xp, .ref xd, .ref xo, .ref xn, .ref xr, .ref xy, .ref xi, .int zl, .long zu, .long zv, .ref xt, .ref xq, .ref xb, .ref xw, .ref xl, .ref xm, .int zt, .int za, .int zm, .int zc, .int ze, .ref xe, .int zh, .int zi, .int zq])), (xs, .inl (cI, 2, .inl seF)), (xk, .inl (cI, 2, .inl (nR kF))), (xp, .inl (cI, 2, .inl (nR spF))), (xd, .inl (cI, 2, .inl (nR deF))), (xo, .inl (cI, 2, .inl (bR pF))), (xn, .inl (cI, 732, .inl nm)), (xr, .inl (cI, 366, .inl f)), (xi, .inl (cZ, 2, .inl dz)), (xy, .inl (cI, 12, .inl (nR mln))), (xf, .inl (cI, 7, .inl ru))]) (fun _ => rfl) (fun _ H locs hF hst => ?_)
  refine lv_if_eq (tgt := 14) hx hb dX7_mean_4 (by decide) (fun c_4 => ?_) (fun c_4 => ?_)
  · skip
    have c_4 := b2i_f c_4
    refine lv_aload_n hx hb dX7_mean_14 rfl (lv_at hl 0 rfl) ?_
    refine lv_iconst (v := (-1)) hx hb dX7_mean_15 (by decide) ?_
    refine q_goL (q_rV hE lk_X7_121 (c_X7_noLong l D cI cJ cZ x xf xs xk xp xd xo xn xr xy xi xt xq xb xw xl xm xe zl zt za zm zc ze zh zi zq zu zv ru (-1) (by rw [vp_in_iff]; decide) H.size) hst [0, 10] rfl rfl rfl rfl rfl hl.1 ⟨(Nat.le_of_ble_eq_true rfl), (Nat.le_of_ble_eq_true rfl)⟩ (rest := []) rfl (Nat.le_of_ble_eq_true rfl) dX7_mean_16 ⟨(Nat.le_of_ble_eq_true rfl), (Nat.le_of_ble_eq_true rfl)⟩) hE hst [0, 10] rfl (fun _ => rfl) (fun (_ : Unit) => [(x, .inr (7, [.ref xf, .ref xs, .ref xk, .ref xp, .ref xd, .ref xo, .ref xn, .ref xr, .ref xy, .ref xi, .int zl, .long zu, .long zv, .ref xt, .ref xq, .ref xb, .ref xw, .ref xl, .ref xm, .int zt, .int za, .int zm, .int zc, .int ze, .ref xe, .int zh, .int zi, .int zq])), (xs, .inl (cI, 2, .inl seF)), (xk, .inl (cI, 2, .inl (nR kF))), (xp, .inl (cI, 2, .inl (nR spF))), (xd, .inl (cI, 2, .inl (nR deF))), (xo, .inl (cI, 2, .inl (bR pF))), (xn, .inl (cI, 732, .inl nm)), (xr, .inl (cI, 366, .inl f)), (xi, .inl (cZ, 2, .inl dz)), (xy, .inl (cI, 12, .inl (nR mln))), (xf, .inl (cI, 7, .inl (bmp ru (-1))))]) (fun _ => rfl) (fun _ H locs hF hst => ?_)
    exact q_retL hQ hE hr hk hst (zl, nm, f, dz, zu, zv) (by rw [show ftf (!isJarB p0 || !isMonthB p1) (!isJarB p2) false false = -1 from (by rw [c_4, Bool.not_false, Bool.true_or]; rfl), if_neg (show ¬ (-1 : Int32) = 0 by decide)]) (hck) (by simp only [show ftf (!isJarB p0 || !isMonthB p1) (!isJarB p2) false false = -1 from (by rw [c_4, Bool.not_false, Bool.true_or]; rfl), if_neg (show ¬ (-1 : Int32) = 0 by decide)]) dX7_mean_19
  · skip
    have c_4 := b2i_t c_4
    obtain rfl := hsl c_4
    skip
    refine lv_iload_n hx hb dX7_mean_7 rfl (lv_at hl 2 rfl) ?_
    refine q_goI (q_rS hE lk_X7_118 (c_X7_isMonth l D cI cJ cZ p1 H.size) hst [] rfl rfl rfl hl.1 ⟨(Nat.le_of_ble_eq_true rfl), (Nat.le_of_ble_eq_true rfl)⟩ (rest := []) rfl (Nat.le_of_ble_eq_true rfl) dX7_mean_8 ⟨(Nat.le_of_ble_eq_true rfl), (Nat.le_of_ble_eq_true rfl)⟩) hE hst [] rfl (fun _ => rfl) (fun (_ : Unit) => [(x, .inr (7, [.ref xf, .ref xs, .ref xk, .ref xp, .ref xd, .ref xo, .ref xn, .ref xr, .ref xy, .ref xi, .int zl, .long zu, .long zv, .ref xt, .ref xq, .ref xb, .ref xw, .ref xl, .ref xm, .int zt, .int za, .int zm, .int zc, .int ze, .ref xe, .int zh, .int zi, .int zq])), (xs, .inl (cI, 2, .inl seF)), (xk, .inl (cI, 2, .inl (nR kF))), (xp, .inl (cI, 2, .inl (nR spF))), (xd, .inl (cI, 2, .inl (nR deF))), (xo, .inl (cI, 2, .inl (bR pF))), (xn, .inl (cI, 732, .inl nm)), (xr, .inl (cI, 366, .inl f)), (xi, .inl (cZ, 2, .inl dz)), (xy, .inl (cI, 12, .inl (nR mln))), (xf, .inl (cI, 7, .inl ru))]) (fun _ => rfl) (fun _ H locs hF hst => ?_)
    refine lv_if_ne (tgt := 20) hx hb dX7_mean_11 (by decide) (fun c_11 => ?_) (fun c_11 => ?_)
    · skip
      have c_11 := b2i_t c_11
      have hb11 := c_11
      obtain ⟨m1, hm1, rfl⟩ := mon_of c_11
      rw [nI_clamp (by omega)] at hQ
      skip
      refine lv_iload_n hx hb dX7_mean_20 rfl (lv_at hl 3 rfl) ?_
      refine q_goI (q_rS hE lk_X7_125 (c_X7_isPart l D cI cJ cZ p2 H.size) hst [] rfl rfl rfl hl.1 ⟨(Nat.le_of_ble_eq_true rfl), (Nat.le_of_ble_eq_true rfl)⟩ (rest := []) rfl (Nat.le_of_ble_eq_true rfl) dX7_mean_21 ⟨(Nat.le_of_ble_eq_true rfl), (Nat.le_of_ble_eq_true rfl)⟩) hE hst [] rfl (fun _ => rfl) (fun (_ : Unit) => [(x, .inr (7, [.ref xf, .ref xs, .ref xk, .ref xp, .ref xd, .ref xo, .ref xn, .ref xr, .ref xy, .ref xi, .int zl, .long zu, .long zv, .ref xt, .ref xq, .ref xb, .ref xw, .ref xl, .ref xm, .int zt, .int za, .int zm, .int zc, .int ze, .ref xe, .int zh, .int zi, .int zq])), (xs, .inl (cI, 2, .inl seF)), (xk, .inl (cI, 2, .inl (nR kF))), (xp, .inl (cI, 2, .inl (nR spF))), (xd, .inl (cI, 2, .inl (nR deF))), (xo, .inl (cI, 2, .inl (bR pF))), (xn, .inl (cI, 732, .inl nm)), (xr, .inl (cI, 366, .inl f)), (xi, .inl (cZ, 2, .inl dz)), (xy, .inl (cI, 12, .inl (nR mln))), (xf, .inl (cI, 7, .inl ru))]) (fun _ => rfl) (fun _ H locs hF hst => ?_)
      refine lv_if_ne (tgt := 34) hx hb dX7_mean_24 (by decide) (fun c_24 => ?_) (fun c_24 => ?_)
      · skip
        have c_24 := b2i_t c_24
        refine lv_aload_n hx hb dX7_mean_34 rfl (lv_at hl 0 rfl) ?_
        refine lv_aload_n hx hb dX7_mean_35 rfl (lv_at hl 0 rfl) ?_
        refine lv_iload_n hx hb dX7_mean_36 rfl (lv_at hl 1 rfl) ?_
        refine lv_iload_n hx hb dX7_mean_37 rfl (lv_at hl 2 rfl) ?_
        refine q_goL (q_rV hE lk_X7_128 (c_X7_sumOf l D cI cJ cZ x xf xs xk xp xd xo xn xr xy xi xt xq xb xw xl xm xe zl zt za zm zc ze zh zi zq zu zv seF kF spF deF pF nm f dz j0 m1 (by first | assumption | decide | omega) (by first | assumption | decide | omega) (by first | assumption | decide | omega) (by first | assumption | decide | omega) H.size) hst [0, 1, 2, 3, 4, 5, 6, 7, 8, 9] rfl rfl rfl rfl rfl hl.1 ⟨(Nat.le_of_ble_eq_true rfl), (Nat.le_of_ble_eq_true rfl)⟩ (rest := [.ref x]) rfl (Nat.le_of_ble_eq_true rfl) dX7_mean_38 ⟨(Nat.le_of_ble_eq_true rfl), (Nat.le_of_ble_eq_true rfl)⟩) hE hst [0, 1, 2, 3, 4, 5, 6, 7, 8, 9] rfl (fun _ => rfl) (fun (u : Int32 × (Nat → Int32) × (Nat → Int32) × (Nat → Int32)) => [(x, .inr (7, [.ref xf, .ref xs, .ref xk, .ref xp, .ref xd, .ref xo, .ref xn, .ref xr, .ref xy, .ref xi, .int u.1, .long zu, .long zv, .ref xt, .ref xq, .ref xb, .ref xw, .ref xl, .ref xm, .int zt, .int za, .int zm, .int zc, .int ze, .ref xe, .int zh, .int zi, .int zq])), (xs, .inl (cI, 2, .inl seF)), (xk, .inl (cI, 2, .inl (nR kF))), (xp, .inl (cI, 2, .inl (nR spF))), (xd, .inl (cI, 2, .inl (nR deF))), (xo, .inl (cI, 2, .inl (bR pF))), (xn, .inl (cI, 732, .inl u.2.1)), (xr, .inl (cI, 366, .inl u.2.2.1)), (xi, .inl (cZ, 2, .inl u.2.2.2)), (xy, .inl (cI, 12, .inl (nR mln))), (xf, .inl (cI, 7, .inl ru))]) (fun _ => rfl) (fun u H locs hF hst => ?_)
        obtain ⟨zl1_1, nm1_2, f1_3, dz1_4⟩ := u
        have hst : SS D A s [(x, .inr (7, [.ref xf, .ref xs, .ref xk, .ref xp, .ref xd, .ref xo, .ref xn, .ref xr, .ref xy, .ref xi, .int zl1_1, .long zu, .long zv, .ref xt, .ref xq, .ref xb, .ref xw, .ref xl, .ref xm, .int zt, .int za, .int zm, .int zc, .int ze, .ref xe, .int zh, .int zi, .int zq])), (xs, .inl (cI, 2, .inl seF)), (xk, .inl (cI, 2, .inl (nR kF))), (xp, .inl (cI, 2, .inl (nR spF))), (xd, .inl (cI, 2, .inl (nR deF))), (xo, .inl (cI, 2, .inl (bR pF))), (xn, .inl (cI, 732, .inl nm1_2)), (xr, .inl (cI, 366, .inl f1_3)), (xi, .inl (cZ, 2, .inl dz1_4)), (xy, .inl (cI, 12, .inl (nR mln))), (xf, .inl (cI, 7, .inl ru))] H locs := hst
        have hF : (ckM seF kF spF deF pF nm1_2 dz1_4) := hF
        have hF0_38 := hF
        refine W.eq (g2 := F0 m 41 ls [.long ((monS (ndM seF kF spF deF pF j0) m1).toInt64), .ref x]) rfl ?_
        refine lv_aload_n hx hb dX7_mean_41 rfl (lv_at hl 0 rfl) ?_
        refine gf_X7_34 hE hst 0 rfl rfl dX7_mean_42 ?_
        refine lv_iload_n hx hb dX7_mean_45 rfl (lv_at hl 2 rfl) ?_
        refine q_aldN hE hst 9 rfl m1 (rfl) (by omega) (by decide) dX7_mean_46 ?_
        refine q_top (x' := nI (mln m1)) (rfl) ?_
        refine lv_i2l (v := (nI (mln m1)).toInt64) hx hb dX7_mean_47 rfl ?_
        refine q_goV (q_rV hE lk_X7_132 (c_X7_lessens l D cI cJ cZ x xf xs xk xp xd xo xn xr xy xi xt xq xb xw xl xm xe zl1_1 zt za zm zc ze zh zi zq zu zv ((monS (ndM seF kF spF deF pF j0) m1).toInt64) ((nI (mln m1)).toInt64) (mean_ok hm1 (fun d hd => by obtain ⟨v, -, g2, g3⟩ := nd_v (seF := seF) (kF := kF) (spF := spF) (pF := pF) hj3 hd; exact ⟨v, g2, g3⟩)) H.size) hst [0] rfl rfl rfl rfl rfl hl.1 ⟨(Nat.le_of_ble_eq_true rfl), (Nat.le_of_ble_eq_true rfl)⟩ (rest := []) rfl (Nat.le_of_ble_eq_true rfl) dX7_mean_48 ⟨(Nat.le_of_ble_eq_true rfl), (Nat.le_of_ble_eq_true rfl)⟩) hE hst [0] rfl (fun _ => rfl) (fun (_ : Unit) => [(x, .inr (7, [.ref xf, .ref xs, .ref xk, .ref xp, .ref xd, .ref xo, .ref xn, .ref xr, .ref xy, .ref xi, .int zl1_1, .long (becA ((monS (ndM seF kF spF deF pF j0) m1).toInt64) ((nI (mln m1)).toInt64)), .long (becB ((monS (ndM seF kF spF deF pF j0) m1).toInt64) ((nI (mln m1)).toInt64)), .ref xt, .ref xq, .ref xb, .ref xw, .ref xl, .ref xm, .int zt, .int za, .int zm, .int zc, .int ze, .ref xe, .int zh, .int zi, .int zq])), (xs, .inl (cI, 2, .inl seF)), (xk, .inl (cI, 2, .inl (nR kF))), (xp, .inl (cI, 2, .inl (nR spF))), (xd, .inl (cI, 2, .inl (nR deF))), (xo, .inl (cI, 2, .inl (bR pF))), (xn, .inl (cI, 732, .inl nm1_2)), (xr, .inl (cI, 366, .inl f1_3)), (xi, .inl (cZ, 2, .inl dz1_4)), (xy, .inl (cI, 12, .inl (nR mln))), (xf, .inl (cI, 7, .inl ru))]) (fun _ => rfl) (fun _ H locs hF hst => ?_)
        refine lv_aload_n hx hb dX7_mean_51 rfl (lv_at hl 0 rfl) ?_
        refine lv_iload_n hx hb dX7_mean_52 rfl (lv_at hl 3 rfl) ?_
        refine q_goL (q_rV hE lk_X7_136 (c_X7_told l D cI cJ cZ x xf xs xk xp xd xo xn xr xy xi xt xq xb xw xl xm xe zl1_1 zt za zm zc ze zh zi zq (becA ((monS (ndM seF kF spF deF pF j0) m1).toInt64) ((nI (mln m1)).toInt64)) (becB ((monS (ndM seF kF spF deF pF j0) m1).toInt64) ((nI (mln m1)).toInt64)) p2 H.size) hst [0] rfl rfl rfl rfl rfl hl.1 ⟨(Nat.le_of_ble_eq_true rfl), (Nat.le_of_ble_eq_true rfl)⟩ (rest := []) rfl (Nat.le_of_ble_eq_true rfl) dX7_mean_53 ⟨(Nat.le_of_ble_eq_true rfl), (Nat.le_of_ble_eq_true rfl)⟩) hE hst [0] rfl (fun _ => rfl) (fun (_ : Unit) => [(x, .inr (7, [.ref xf, .ref xs, .ref xk, .ref xp, .ref xd, .ref xo, .ref xn, .ref xr, .ref xy, .ref xi, .int zl1_1, .long (becA ((monS (ndM seF kF spF deF pF j0) m1).toInt64) ((nI (mln m1)).toInt64)), .long (becB ((monS (ndM seF kF spF deF pF j0) m1).toInt64) ((nI (mln m1)).toInt64)), .ref xt, .ref xq, .ref xb, .ref xw, .ref xl, .ref xm, .int zt, .int za, .int zm, .int zc, .int ze, .ref xe, .int zh, .int zi, .int zq])), (xs, .inl (cI, 2, .inl seF)), (xk, .inl (cI, 2, .inl (nR kF))), (xp, .inl (cI, 2, .inl (nR spF))), (xd, .inl (cI, 2, .inl (nR deF))), (xo, .inl (cI, 2, .inl (bR pF))), (xn, .inl (cI, 732, .inl nm1_2)), (xr, .inl (cI, 366, .inl f1_3)), (xi, .inl (cZ, 2, .inl dz1_4)), (xy, .inl (cI, 12, .inl (nR mln))), (xf, .inl (cI, 7, .inl ru))]) (fun _ => rfl) (fun _ H locs hF hst => ?_)
        exact q_retL hQ hE hr hk hst (zl1_1, nm1_2, f1_3, dz1_4, becA ((monS (ndM seF kF spF deF pF j0) m1).toInt64) ((nI (mln m1)).toInt64), becB ((monS (ndM seF kF spF deF pF j0) m1).toInt64) ((nI (mln m1)).toInt64)) (by rw [show ftf (!isJarB (nI j0) || !isMonthB (nI m1)) (!isJarB p2) false false = 0 from (by rw [c_4, c_11, c_24]; rfl), if_pos (rfl : (0 : Int32) = 0)]) (hF0_38) (by simp only [show ftf (!isJarB (nI j0) || !isMonthB (nI m1)) (!isJarB p2) false false = 0 from (by rw [c_4, c_11, c_24]; rfl), ite_true]) dX7_mean_56
      · skip
        have c_24 := b2i_f c_24
        refine lv_aload_n hx hb dX7_mean_27 rfl (lv_at hl 0 rfl) ?_
        refine lv_bipush (v := (-2)) hx hb dX7_mean_28 (by decide) ?_
        refine q_goL (q_rV hE lk_X7_121 (c_X7_noLong l D cI cJ cZ x xf xs xk xp xd xo xn xr xy xi xt xq xb xw xl xm xe zl zt za zm zc ze zh zi zq zu zv ru (-2) (by rw [vp_in_iff]; decide) H.size) hst [0, 10] rfl rfl rfl rfl rfl hl.1 ⟨(Nat.le_of_ble_eq_true rfl), (Nat.le_of_ble_eq_true rfl)⟩ (rest := []) rfl (Nat.le_of_ble_eq_true rfl) dX7_mean_30 ⟨(Nat.le_of_ble_eq_true rfl), (Nat.le_of_ble_eq_true rfl)⟩) hE hst [0, 10] rfl (fun _ => rfl) (fun (_ : Unit) => [(x, .inr (7, [.ref xf, .ref xs, .ref xk, .ref xp, .ref xd, .ref xo, .ref xn, .ref xr, .ref xy, .ref xi, .int zl, .long zu, .long zv, .ref xt, .ref xq, .ref xb, .ref xw, .ref xl, .ref xm, .int zt, .int za, .int zm, .int zc, .int ze, .ref xe, .int zh, .int zi, .int zq])), (xs, .inl (cI, 2, .inl seF)), (xk, .inl (cI, 2, .inl (nR kF))), (xp, .inl (cI, 2, .inl (nR spF))), (xd, .inl (cI, 2, .inl (nR deF))), (xo, .inl (cI, 2, .inl (bR pF))), (xn, .inl (cI, 732, .inl nm)), (xr, .inl (cI, 366, .inl f)), (xi, .inl (cZ, 2, .inl dz)), (xy, .inl (cI, 12, .inl (nR mln))), (xf, .inl (cI, 7, .inl (bmp ru (-2))))]) (fun _ => rfl) (fun _ H locs hF hst => ?_)
        exact q_retL hQ hE hr hk hst (zl, nm, f, dz, zu, zv) (by rw [show ftf (!isJarB (nI j0) || !isMonthB (nI m1)) (!isJarB p2) false false = -2 from (by rw [c_4, c_11, c_24]; rfl), if_neg (show ¬ (-2 : Int32) = 0 by decide)]) (hck) (by simp only [show ftf (!isJarB (nI j0) || !isMonthB (nI m1)) (!isJarB p2) false false = -2 from (by rw [c_4, c_11, c_24]; rfl), if_neg (show ¬ (-2 : Int32) = 0 by decide)]) dX7_mean_33
    · skip
      have c_11 := b2i_f c_11
      refine lv_aload_n hx hb dX7_mean_14 rfl (lv_at hl 0 rfl) ?_
      refine lv_iconst (v := (-1)) hx hb dX7_mean_15 (by decide) ?_
      refine q_goL (q_rV hE lk_X7_121 (c_X7_noLong l D cI cJ cZ x xf xs xk xp xd xo xn xr xy xi xt xq xb xw xl xm xe zl zt za zm zc ze zh zi zq zu zv ru (-1) (by rw [vp_in_iff]; decide) H.size) hst [0, 10] rfl rfl rfl rfl rfl hl.1 ⟨(Nat.le_of_ble_eq_true rfl), (Nat.le_of_ble_eq_true rfl)⟩ (rest := []) rfl (Nat.le_of_ble_eq_true rfl) dX7_mean_16 ⟨(Nat.le_of_ble_eq_true rfl), (Nat.le_of_ble_eq_true rfl)⟩) hE hst [0, 10] rfl (fun _ => rfl) (fun (_ : Unit) => [(x, .inr (7, [.ref xf, .ref xs, .ref xk, .ref xp, .ref xd, .ref xo, .ref xn, .ref xr, .ref xy, .ref xi, .int zl, .long zu, .long zv, .ref xt, .ref xq, .ref xb, .ref xw, .ref xl, .ref xm, .int zt, .int za, .int zm, .int zc, .int ze, .ref xe, .int zh, .int zi, .int zq])), (xs, .inl (cI, 2, .inl seF)), (xk, .inl (cI, 2, .inl (nR kF))), (xp, .inl (cI, 2, .inl (nR spF))), (xd, .inl (cI, 2, .inl (nR deF))), (xo, .inl (cI, 2, .inl (bR pF))), (xn, .inl (cI, 732, .inl nm)), (xr, .inl (cI, 366, .inl f)), (xi, .inl (cZ, 2, .inl dz)), (xy, .inl (cI, 12, .inl (nR mln))), (xf, .inl (cI, 7, .inl (bmp ru (-1))))]) (fun _ => rfl) (fun _ H locs hF hst => ?_)
      exact q_retL hQ hE hr hk hst (zl, nm, f, dz, zu, zv) (by rw [show ftf (!isJarB (nI j0) || !isMonthB p1) (!isJarB p2) false false = -1 from (by rw [c_4, c_11]; rfl), if_neg (show ¬ (-1 : Int32) = 0 by decide)]) (hck) (by simp only [show ftf (!isJarB (nI j0) || !isMonthB p1) (!isJarB p2) false false = -1 from (by rw [c_4, c_11]; rfl), if_neg (show ¬ (-1 : Int32) = 0 by decide)]) dX7_mean_19
set_option maxHeartbeats 4000000 in
set_option maxRecDepth 100000 in
theorem c_X7_worst (l : Launch) (D : va_G) (cI cJ cZ : ClassId) (x : Nat) (xf : Nat) (xs : Nat) (xk : Nat) (xp : Nat) (xd : Nat) (xo : Nat) (xn : Nat) (xr : Nat) (xy : Nat) (xi : Nat) (xt : Nat) (xq : Nat) (xb : Nat) (xw : Nat) (xl : Nat) (xm : Nat) (xe : Nat) (zl : Int32) (zt : Int32) (za : Int32) (zm : Int32) (zc : Int32) (ze : Int32) (zh : Int32) (zi : Int32) (zq : Int32) (zu : Int64) (zv : Int64) (ru : Nat → Int32) (seF : Nat → Int32) (kF : Nat → Nat) (spF : Nat → Nat) (deF : Nat → Nat) (pF : Nat → Bool) (nm : Nat → Int32) (f : Nat → Int32) (dz : Nat → Int32) (j0 : Nat) (p0 : Int32) (hj : j0 < 2) (hsl : isJarB p0 = true → p0 = nI j0) (hjo : joM kF spF deF) (hck : ckM seF kF spF deF pF nm dz) : CtI l D cI cJ cZ yX7_worst cX7_worst 4 (some .int) 5 [.ref x, .int p0] [(x, .inr (7, [.ref xf, .ref xs, .ref xk, .ref xp, .ref xd, .ref xo, .ref xn, .ref xr, .ref xy, .ref xi, .int zl, .long zu, .long zv, .ref xt, .ref xq, .ref xb, .ref xw, .ref xl, .ref xm, .int zt, .int za, .int zm, .int zc, .int ze, .ref xe, .int zh, .int zi, .int zq])), (xs, .inl (cI, 2, .inl seF)), (xk, .inl (cI, 2, .inl (nR kF))), (xp, .inl (cI, 2, .inl (nR spF))), (xd, .inl (cI, 2, .inl (nR deF))), (xo, .inl (cI, 2, .inl (bR pF))), (xn, .inl (cI, 732, .inl nm)), (xr, .inl (cI, 366, .inl f)), (xi, .inl (cZ, 2, .inl dz)), (xy, .inl (cI, 12, .inl (nR mln))), (xf, .inl (cI, 7, .inl ru))] (fun (u : Int32 × (Nat → Int32) × (Nat → Int32) × (Nat → Int32)) => if isJarB p0 = true then nI (wor (ndM seF kF spF deF pF j0) 11) else -1) (fun (u : Int32 × (Nat → Int32) × (Nat → Int32) × (Nat → Int32)) => ckM seF kF spF deF pF u.2.1 u.2.2.2) (fun (u : Int32 × (Nat → Int32) × (Nat → Int32) × (Nat → Int32)) => [(x, .inr (7, [.ref xf, .ref xs, .ref xk, .ref xp, .ref xd, .ref xo, .ref xn, .ref xr, .ref xy, .ref xi, .int u.1, .long zu, .long zv, .ref xt, .ref xq, .ref xb, .ref xw, .ref xl, .ref xm, .int zt, .int za, .int zm, .int zc, .int ze, .ref xe, .int zh, .int zi, .int zq])), (xs, .inl (cI, 2, .inl seF)), (xk, .inl (cI, 2, .inl (nR kF))), (xp, .inl (cI, 2, .inl (nR spF))), (xd, .inl (cI, 2, .inl (nR deF))), (xo, .inl (cI, 2, .inl (bR pF))), (xn, .inl (cI, 732, .inl u.2.1)), (xr, .inl (cI, 366, .inl u.2.2.1)), (xi, .inl (cZ, 2, .inl u.2.2.2)), (xy, .inl (cI, 12, .inl (nR mln))), (xf, .inl (cI, 7, .inl (if isJarB p0 = true then ru else bmp ru (-1))))]) := by
  refine q_entI (own := RX7) rfl rfl (Nat.le_of_ble_eq_true rfl) ?_
  intro p e s m args below meth c A ls QQ hQ hE hx hb hr hk hin hA hl hst
  have hl : lv_has ls 4 [(0, .ref x), (1, .int p0)] := hl
  have loop_17 : ∀ (fu : Nat) (zl2 : Int32) (nm2 : Nat → Int32) (f2 : Nat → Int32) (dz2 : Nat → Int32) (kq : Nat), (ckM seF kF spF deF pF nm2 dz2) → (isJarB p0 = true) → (kq ≤ 11) → (11 - kq) < fu → ∀ (H : Heap) (locs : List Loc) (ls : Array Slot), SS D A s [(x, .inr (7, [.ref xf, .ref xs, .ref xk, .ref xp, .ref xd, .ref xo, .ref xn, .ref xr, .ref xy, .ref xi, .int zl2, .long zu, .long zv, .ref xt, .ref xq, .ref xb, .ref xw, .ref xl, .ref xm, .int zt, .int za, .int zm, .int zc, .int ze, .ref xe, .int zh, .int zi, .int zq])), (xs, .inl (cI, 2, .inl seF)), (xk, .inl (cI, 2, .inl (nR kF))), (xp, .inl (cI, 2, .inl (nR spF))), (xd, .inl (cI, 2, .inl (nR deF))), (xo, .inl (cI, 2, .inl (bR pF))), (xn, .inl (cI, 732, .inl nm2)), (xr, .inl (cI, 366, .inl f2)), (xi, .inl (cZ, 2, .inl dz2)), (xy, .inl (cI, 12, .inl (nR mln))), (xf, .inl (cI, 7, .inl ru))] H locs → lv_has ls 4 [(3, .int (nI (kq + 1))), (2, .int (nI (wor (ndM seF kF spF deF pF j0) kq))), (0, .ref x), (1, .int (nI j0))] → W p l e (rmN 5 0 0) s m args below meth c H locs 0 0 QQ (F0 m 17 ls []) := by
    intro fu
    induction fu with
    | zero =>
      intro zl2 nm2 f2 dz2 kq hck2 hR h1 hn
      exact absurd hn (Nat.not_lt_zero _)
    | succ fu ih =>
      intro zl2 nm2 f2 dz2 kq hck2 hR h1 hn H locs ls hst hl
      have hw := wor_le (ndM seF kF spF deF pF j0) kq
      refine lv_iload_n hx hb dX7_worst_17 rfl (lv_at hl 0 rfl) ?_
      refine lv_bipush (v := 12) hx hb dX7_worst_18 (by decide) ?_
      refine lv_icmp_ge (tgt := 67) hx hb dX7_worst_20 (by decide) (fun c_20 => ?_) (fun c_20 => ?_)
      · skip
        have hk1 : kq = 11 := Nat.le_antisymm h1 (Nat.le_of_not_lt (fun z => nI_ge (a := kq + 1) (b := 12) (by omega) (by decide) c_20))
        subst hk1
        skip
        refine lv_iload_n hx hb dX7_worst_67 rfl (lv_at hl 1 rfl) ?_
        exact q_retI hQ hE hr hk hst (zl2, nm2, f2, dz2) (by rw [if_pos hR]) (hck2) (by simp only [if_pos hR]) dX7_worst_68
      · skip
        have hk1 : kq < 11 := Nat.lt_of_not_le (fun z => c_20 (nI_le (a := 12) (b := kq + 1) (by omega) (by omega)))
        refine lv_aload_n hx hb dX7_worst_23 rfl (lv_at hl 2 rfl) ?_
        refine lv_iload_n hx hb dX7_worst_24 rfl (lv_at hl 3 rfl) ?_
        refine lv_iload_n hx hb dX7_worst_25 rfl (lv_at hl 0 rfl) ?_
        refine q_goL (q_rV hE lk_X7_145 (c_X7_offOf l D cI cJ cZ x xf xs xk xp xd xo xn xr xy xi xt xq xb xw xl xm xe zl2 zt za zm zc ze zh zi zq zu zv seF kF spF deF pF nm2 f2 dz2 j0 (kq + 1) (hj) (hjo) (hck2) (by omega) H.size) hst [0, 1, 2, 3, 4, 5, 6, 7, 8, 9] rfl rfl rfl rfl rfl hl.1 ⟨(Nat.le_of_ble_eq_true rfl), (Nat.le_of_ble_eq_true rfl)⟩ (rest := []) rfl (Nat.le_of_ble_eq_true rfl) dX7_worst_26 ⟨(Nat.le_of_ble_eq_true rfl), (Nat.le_of_ble_eq_true rfl)⟩) hE hst [0, 1, 2, 3, 4, 5, 6, 7, 8, 9] rfl (fun _ => rfl) (fun (u : Int32 × (Nat → Int32) × (Nat → Int32) × (Nat → Int32)) => [(x, .inr (7, [.ref xf, .ref xs, .ref xk, .ref xp, .ref xd, .ref xo, .ref xn, .ref xr, .ref xy, .ref xi, .int u.1, .long zu, .long zv, .ref xt, .ref xq, .ref xb, .ref xw, .ref xl, .ref xm, .int zt, .int za, .int zm, .int zc, .int ze, .ref xe, .int zh, .int zi, .int zq])), (xs, .inl (cI, 2, .inl seF)), (xk, .inl (cI, 2, .inl (nR kF))), (xp, .inl (cI, 2, .inl (nR spF))), (xd, .inl (cI, 2, .inl (nR deF))), (xo, .inl (cI, 2, .inl (bR pF))), (xn, .inl (cI, 732, .inl u.2.1)), (xr, .inl (cI, 366, .inl u.2.2.1)), (xi, .inl (cZ, 2, .inl u.2.2.2)), (xy, .inl (cI, 12, .inl (nR mln))), (xf, .inl (cI, 7, .inl ru))]) (fun _ => rfl) (fun u H locs hF hst => ?_)
        obtain ⟨zl1_1, nm1_2, f1_3, dz1_4⟩ := u
        have hst : SS D A s [(x, .inr (7, [.ref xf, .ref xs, .ref xk, .ref xp, .ref xd, .ref xo, .ref xn, .ref xr, .ref xy, .ref xi, .int zl1_1, .long zu, .long zv, .ref xt, .ref xq, .ref xb, .ref xw, .ref xl, .ref xm, .int zt, .int za, .int zm, .int zc, .int ze, .ref xe, .int zh, .int zi, .int zq])), (xs, .inl (cI, 2, .inl seF)), (xk, .inl (cI, 2, .inl (nR kF))), (xp, .inl (cI, 2, .inl (nR spF))), (xd, .inl (cI, 2, .inl (nR deF))), (xo, .inl (cI, 2, .inl (bR pF))), (xn, .inl (cI, 732, .inl nm1_2)), (xr, .inl (cI, 366, .inl f1_3)), (xi, .inl (cZ, 2, .inl dz1_4)), (xy, .inl (cI, 12, .inl (nR mln))), (xf, .inl (cI, 7, .inl ru))] H locs := hst
        have hF : (ckM seF kF spF deF pF nm1_2 dz1_4) := hF
        have hF0_26 := hF
        refine W.eq (g2 := F0 m 29 ls [.long (monD (ndM seF kF spF deF pF j0) (kq + 1))]) rfl ?_
        refine lv_aload_n hx hb dX7_worst_29 rfl (lv_at hl 2 rfl) ?_
        refine gf_X7_34 hE hst 0 rfl rfl dX7_worst_30 ?_
        refine lv_iload_n hx hb dX7_worst_33 rfl (lv_at hl 1 rfl) ?_
        refine q_aldN hE hst 9 rfl (wor (ndM seF kF spF deF pF j0) kq) (rfl) (by omega) (by decide) dX7_worst_34 ?_
        refine q_top (x' := nI (mln (wor (ndM seF kF spF deF pF j0) kq))) (rfl) ?_
        refine lv_i2l (v := (nI (mln (wor (ndM seF kF spF deF pF j0) kq))).toInt64) hx hb dX7_worst_35 rfl ?_
        refine lv_lmul hx hb dX7_worst_36 ?_
        refine lv_aload_n hx hb dX7_worst_37 rfl (lv_at hl 2 rfl) ?_
        refine lv_iload_n hx hb dX7_worst_38 rfl (lv_at hl 3 rfl) ?_
        refine lv_iload_n hx hb dX7_worst_39 rfl (lv_at hl 1 rfl) ?_
        refine q_goL (q_rV hE lk_X7_145 (c_X7_offOf l D cI cJ cZ x xf xs xk xp xd xo xn xr xy xi xt xq xb xw xl xm xe zl1_1 zt za zm zc ze zh zi zq zu zv seF kF spF deF pF nm1_2 f1_3 dz1_4 j0 (wor (ndM seF kF spF deF pF j0) kq) (hj) (hjo) (hF0_26) (by omega) H.size) hst [0, 1, 2, 3, 4, 5, 6, 7, 8, 9] rfl rfl rfl rfl rfl hl.1 ⟨(Nat.le_of_ble_eq_true rfl), (Nat.le_of_ble_eq_true rfl)⟩ (rest := [.long ((monD (ndM seF kF spF deF pF j0) (kq + 1)) * ((nI (mln (wor (ndM seF kF spF deF pF j0) kq))).toInt64))]) rfl (Nat.le_of_ble_eq_true rfl) dX7_worst_40 ⟨(Nat.le_of_ble_eq_true rfl), (Nat.le_of_ble_eq_true rfl)⟩) hE hst [0, 1, 2, 3, 4, 5, 6, 7, 8, 9] rfl (fun _ => rfl) (fun (u : Int32 × (Nat → Int32) × (Nat → Int32) × (Nat → Int32)) => [(x, .inr (7, [.ref xf, .ref xs, .ref xk, .ref xp, .ref xd, .ref xo, .ref xn, .ref xr, .ref xy, .ref xi, .int u.1, .long zu, .long zv, .ref xt, .ref xq, .ref xb, .ref xw, .ref xl, .ref xm, .int zt, .int za, .int zm, .int zc, .int ze, .ref xe, .int zh, .int zi, .int zq])), (xs, .inl (cI, 2, .inl seF)), (xk, .inl (cI, 2, .inl (nR kF))), (xp, .inl (cI, 2, .inl (nR spF))), (xd, .inl (cI, 2, .inl (nR deF))), (xo, .inl (cI, 2, .inl (bR pF))), (xn, .inl (cI, 732, .inl u.2.1)), (xr, .inl (cI, 366, .inl u.2.2.1)), (xi, .inl (cZ, 2, .inl u.2.2.2)), (xy, .inl (cI, 12, .inl (nR mln))), (xf, .inl (cI, 7, .inl ru))]) (fun _ => rfl) (fun u H locs hF hst => ?_)
        obtain ⟨zl1_5, nm1_6, f1_7, dz1_8⟩ := u
        have hst : SS D A s [(x, .inr (7, [.ref xf, .ref xs, .ref xk, .ref xp, .ref xd, .ref xo, .ref xn, .ref xr, .ref xy, .ref xi, .int zl1_5, .long zu, .long zv, .ref xt, .ref xq, .ref xb, .ref xw, .ref xl, .ref xm, .int zt, .int za, .int zm, .int zc, .int ze, .ref xe, .int zh, .int zi, .int zq])), (xs, .inl (cI, 2, .inl seF)), (xk, .inl (cI, 2, .inl (nR kF))), (xp, .inl (cI, 2, .inl (nR spF))), (xd, .inl (cI, 2, .inl (nR deF))), (xo, .inl (cI, 2, .inl (bR pF))), (xn, .inl (cI, 732, .inl nm1_6)), (xr, .inl (cI, 366, .inl f1_7)), (xi, .inl (cZ, 2, .inl dz1_8)), (xy, .inl (cI, 12, .inl (nR mln))), (xf, .inl (cI, 7, .inl ru))] H locs := hst
        have hF : (ckM seF kF spF deF pF nm1_6 dz1_8) := hF
        have hF0_40 := hF
        refine W.eq (g2 := F0 m 43 ls [.long (monD (ndM seF kF spF deF pF j0) (wor (ndM seF kF spF deF pF j0) kq)), .long ((monD (ndM seF kF spF deF pF j0) (kq + 1)) * ((nI (mln (wor (ndM seF kF spF deF pF j0) kq))).toInt64))]) rfl ?_
        refine lv_aload_n hx hb dX7_worst_43 rfl (lv_at hl 2 rfl) ?_
        refine gf_X7_34 hE hst 0 rfl rfl dX7_worst_44 ?_
        refine lv_iload_n hx hb dX7_worst_47 rfl (lv_at hl 0 rfl) ?_
        refine q_aldN hE hst 9 rfl (kq + 1) (rfl) (by omega) (by decide) dX7_worst_48 ?_
        refine q_top (x' := nI (mln (kq + 1))) (rfl) ?_
        refine lv_i2l (v := (nI (mln (kq + 1))).toInt64) hx hb dX7_worst_49 rfl ?_
        refine lv_lmul hx hb dX7_worst_50 ?_
        refine W.lcmp hx hb dX7_worst_51 ?_
        refine lv_if_le (tgt := 59) hx hb dX7_worst_52 (by decide) (fun c_52 => ?_) (fun c_52 => ?_)
        · skip
          have c_52 := lc_le.mp c_52
          refine lv_iload_n hx hb dX7_worst_59 rfl (lv_at hl 1 rfl) ?_
          refine lv_istore_n (lv' := [(2, .int (nI (wor (ndM seF kF spF deF pF j0) kq))), (3, .int (nI (kq + 1))), (0, .ref x), (1, .int (nI j0))]) hx hb dX7_worst_60 rfl hl (by decide) rfl (fun ls hl => ?_)
          have hl : lv_has ls 4 [(2, .int (nI (wor (ndM seF kF spF deF pF j0) (kq + 1)))), (3, .int (nI (kq + 1))), (0, .ref x), (1, .int (nI j0))] := by rw [show wor (ndM seF kF spF deF pF j0) (kq + 1) = wor (ndM seF kF spF deF pF j0) kq from by rw [wor, if_pos c_52]]; exact hl
          refine lv_iinc (v := nI ((kq + 1) + 1)) (lv' := [(3, .int (nI ((kq + 1) + 1))), (2, .int (nI (wor (ndM seF kF spF deF pF j0) (kq + 1)))), (0, .ref x), (1, .int (nI j0))]) hx hb dX7_worst_61 hl (k := 1) rfl (nI_next _) (by decide) rfl (fun ls hl => ?_)
          refine lv_goto (tgt := 17) hx hb dX7_worst_64 (by decide) ?_
          exact ih zl1_5 nm1_6 f1_7 dz1_8 (kq + 1) (hF0_40) (hR) (by omega) (by omega) _ _ _ (hst) (lv_sub hl [0, 1, 2, 3] rfl)
        · skip
          have c_52 := (not_congr lc_le).mp c_52
          refine lv_iload_n hx hb dX7_worst_55 rfl (lv_at hl 0 rfl) ?_
          refine lv_goto (tgt := 60) hx hb dX7_worst_56 (by decide) ?_
          refine lv_istore_n (lv' := [(2, .int (nI (kq + 1))), (3, .int (nI (kq + 1))), (0, .ref x), (1, .int (nI j0))]) hx hb dX7_worst_60 rfl hl (by decide) rfl (fun ls hl => ?_)
          have hl : lv_has ls 4 [(2, .int (nI (wor (ndM seF kF spF deF pF j0) (kq + 1)))), (3, .int (nI (kq + 1))), (0, .ref x), (1, .int (nI j0))] := by rw [show wor (ndM seF kF spF deF pF j0) (kq + 1) = kq + 1 from by rw [wor, if_neg c_52]]; exact hl
          refine lv_iinc (v := nI ((kq + 1) + 1)) (lv' := [(3, .int (nI ((kq + 1) + 1))), (2, .int (nI (wor (ndM seF kF spF deF pF j0) (kq + 1)))), (0, .ref x), (1, .int (nI j0))]) hx hb dX7_worst_61 hl (k := 1) rfl (nI_next _) (by decide) rfl (fun ls hl => ?_)
          refine lv_goto (tgt := 17) hx hb dX7_worst_64 (by decide) ?_
          exact ih zl1_5 nm1_6 f1_7 dz1_8 (kq + 1) (hF0_40) (hR) (by omega) (by omega) _ _ _ (hst) (lv_sub hl [0, 1, 2, 3] rfl)
  refine lv_iload_n hx hb dX7_worst_0 rfl (lv_at hl 1 rfl) ?_
  refine q_goI (q_rS hE lk_X7_77 (c_X7_isJar l D cI cJ cZ p0 s.heap.size) hst [] rfl rfl rfl hl.1 ⟨(Nat.le_of_ble_eq_true rfl), (Nat.le_of_ble_eq_true rfl)⟩ (rest := []) rfl (Nat.le_of_ble_eq_true rfl) dX7_worst_1 ⟨(Nat.le_of_ble_eq_true rfl), (Nat.le_of_ble_eq_true rfl)⟩) hE hst [] rfl (fun _ => rfl) (fun (_ : Unit) => [(x, .inr (7, [.ref xf, .ref xs, .ref xk, .ref xp, .ref xd, .ref xo, .ref xn, .ref xr, .ref xy, .ref xi, .int zl, .long zu, .long zv, .ref xt, .ref xq, .ref xb, .ref xw, .ref xl, .ref xm, .int zt, .int za, .int zm, .int zc, .int ze, .ref xe, .int zh, .int zi, .int zq])), (xs, .inl (cI, 2, .inl seF)), (xk, .inl (cI, 2, .inl (nR kF))), (xp, .inl (cI, 2, .inl (nR spF))), (xd, .inl (cI, 2, .inl (nR deF))), (xo, .inl (cI, 2, .inl (bR pF))), (xn, .inl (cI, 732, .inl nm)), (xr, .inl (cI, 366, .inl f)), (xi, .inl (cZ, 2, .inl dz)), (xy, .inl (cI, 12, .inl (nR mln))), (xf, .inl (cI, 7, .inl ru))]) (fun _ => rfl) (fun _ H locs hF hst => ?_)
  refine lv_if_ne (tgt := 13) hx hb dX7_worst_4 (by decide) (fun c_4 => ?_) (fun c_4 => ?_)
  · skip
    have c_4 := b2i_t c_4
    have hR := c_4
    obtain rfl := hsl c_4
    skip
    refine lv_iconst (v := 0) hx hb dX7_worst_13 (by decide) ?_
    refine lv_istore_n (lv' := [(2, .int 0), (0, .ref x), (1, .int (nI j0))]) hx hb dX7_worst_14 rfl hl (by decide) rfl (fun ls hl => ?_)
    refine lv_iconst (v := 1) hx hb dX7_worst_15 (by decide) ?_
    refine lv_istore_n (lv' := [(3, .int 1), (2, .int 0), (0, .ref x), (1, .int (nI j0))]) hx hb dX7_worst_16 rfl hl (by decide) rfl (fun ls hl => ?_)
    exact loop_17 (12) zl nm f dz 0 (hck) (hR) (by decide) (by decide) _ _ _ (hst) (lv_sub hl [0, 1, 2, 3] rfl)
  · skip
    have c_4 := b2i_f c_4
    have hR : ¬ isJarB p0 = true := by rw [c_4]; decide
    refine lv_aload_n hx hb dX7_worst_7 rfl (lv_at hl 0 rfl) ?_
    refine lv_iconst (v := (-1)) hx hb dX7_worst_8 (by decide) ?_
    refine q_goI (q_rV hE lk_X7_81 (c_X7_no l D cI cJ cZ x xf xs xk xp xd xo xn xr xy xi xt xq xb xw xl xm xe zl zt za zm zc ze zh zi zq zu zv ru (-1) (by rw [vp_in_iff]; decide) H.size) hst [0, 10] rfl rfl rfl rfl rfl hl.1 ⟨(Nat.le_of_ble_eq_true rfl), (Nat.le_of_ble_eq_true rfl)⟩ (rest := []) rfl (Nat.le_of_ble_eq_true rfl) dX7_worst_9 ⟨(Nat.le_of_ble_eq_true rfl), (Nat.le_of_ble_eq_true rfl)⟩) hE hst [0, 10] rfl (fun _ => rfl) (fun (_ : Unit) => [(x, .inr (7, [.ref xf, .ref xs, .ref xk, .ref xp, .ref xd, .ref xo, .ref xn, .ref xr, .ref xy, .ref xi, .int zl, .long zu, .long zv, .ref xt, .ref xq, .ref xb, .ref xw, .ref xl, .ref xm, .int zt, .int za, .int zm, .int zc, .int ze, .ref xe, .int zh, .int zi, .int zq])), (xs, .inl (cI, 2, .inl seF)), (xk, .inl (cI, 2, .inl (nR kF))), (xp, .inl (cI, 2, .inl (nR spF))), (xd, .inl (cI, 2, .inl (nR deF))), (xo, .inl (cI, 2, .inl (bR pF))), (xn, .inl (cI, 732, .inl nm)), (xr, .inl (cI, 366, .inl f)), (xi, .inl (cZ, 2, .inl dz)), (xy, .inl (cI, 12, .inl (nR mln))), (xf, .inl (cI, 7, .inl (bmp ru (-1))))]) (fun _ => rfl) (fun _ H locs hF hst => ?_)
    exact q_retI hQ hE hr hk hst (zl, nm, f, dz) (by rw [if_neg hR]) (hck) (by simp only [if_neg hR]) dX7_worst_12
set_option maxHeartbeats 4000000 in
set_option maxRecDepth 100000 in
theorem c_X7_bornIn (l : Launch) (D : va_G) (cI cJ cZ : ClassId) (x : Nat) (xf : Nat) (xs : Nat) (xk : Nat) (xp : Nat) (xd : Nat) (xo : Nat) (xn : Nat) (xr : Nat) (xy : Nat) (xi : Nat) (xt : Nat) (xq : Nat) (xb : Nat) (xw : Nat) (xl : Nat) (xm : Nat) (xe : Nat) (zl : Int32) (zt : Int32) (za : Int32) (zc : Int32) (ze : Int32) (zh : Int32) (zi : Int32) (zq : Int32) (zu : Int64) (zv : Int64) (nq : Nat) (bi : Nat → Int32) (p0 : Int32) (hn : nq ≤ 60) (hbi : ∀ j, j < nq → vp_in (bi j) 366) : CtI l D cI cJ cZ yX7_bornIn cX7_bornIn 4 (some .int) 2 [.ref x, .int p0] [(x, .inr (7, [.ref xf, .ref xs, .ref xk, .ref xp, .ref xd, .ref xo, .ref xn, .ref xr, .ref xy, .ref xi, .int zl, .long zu, .long zv, .ref xt, .ref xq, .ref xb, .ref xw, .ref xl, .ref xm, .int zt, .int za, .int (nI nq), .int zc, .int ze, .ref xe, .int zh, .int zi, .int zq])), (xy, .inl (cI, 12, .inl (nR mln))), (xb, .inl (cI, 60, .inl bi))] (fun (_ : Unit) => cntI (fun m => decide (monOf (bi m) = p0)) nq) (fun (_ : Unit) => True) (fun (_ : Unit) => [(x, .inr (7, [.ref xf, .ref xs, .ref xk, .ref xp, .ref xd, .ref xo, .ref xn, .ref xr, .ref xy, .ref xi, .int zl, .long zu, .long zv, .ref xt, .ref xq, .ref xb, .ref xw, .ref xl, .ref xm, .int zt, .int za, .int (nI nq), .int zc, .int ze, .ref xe, .int zh, .int zi, .int zq])), (xy, .inl (cI, 12, .inl (nR mln))), (xb, .inl (cI, 60, .inl bi))]) := by
  refine q_entI (own := RX7) rfl rfl (Nat.le_of_ble_eq_true rfl) ?_
  intro p e s m args below meth c A ls QQ hQ hE hx hb hr hk hin hA hl hst
  have hl : lv_has ls 4 [(0, .ref x), (1, .int p0)] := hl
  have loop_4 : ∀ (fu : Nat) (kq : Nat), (kq ≤ nq) → (nq - kq) < fu → ∀ (H : Heap) (locs : List Loc) (ls : Array Slot), SS D A s [(x, .inr (7, [.ref xf, .ref xs, .ref xk, .ref xp, .ref xd, .ref xo, .ref xn, .ref xr, .ref xy, .ref xi, .int zl, .long zu, .long zv, .ref xt, .ref xq, .ref xb, .ref xw, .ref xl, .ref xm, .int zt, .int za, .int (nI nq), .int zc, .int ze, .ref xe, .int zh, .int zi, .int zq])), (xy, .inl (cI, 12, .inl (nR mln))), (xb, .inl (cI, 60, .inl bi))] H locs → lv_has ls 4 [(3, .int (nI kq)), (2, .int (cntI (fun m => decide (monOf (bi m) = p0)) kq)), (0, .ref x), (1, .int p0)] → W p l e (rmN 2 0 0) s m args below meth c H locs 0 0 QQ (F0 m 4 ls []) := by
    intro fu
    induction fu with
    | zero =>
      intro kq h1 hn
      exact absurd hn (Nat.not_lt_zero _)
    | succ fu ih =>
      intro kq h1 hn H locs ls hst hl
      refine lv_iload_n hx hb dX7_bornIn_4 rfl (lv_at hl 0 rfl) ?_
      refine lv_aload_n hx hb dX7_bornIn_5 rfl (lv_at hl 2 rfl) ?_
      refine gf_X7_163 hE hst 0 rfl rfl dX7_bornIn_6 ?_
      refine lv_icmp_ge (tgt := 40) hx hb dX7_bornIn_9 (by decide) (fun c_9 => ?_) (fun c_9 => ?_)
      · skip
        have hk1 : nq = kq := Nat.le_antisymm (Nat.le_of_not_lt (fun z => nI_ge z (by omega) c_9)) h1
        subst hk1
        skip
        refine lv_iload_n hx hb dX7_bornIn_40 rfl (lv_at hl 1 rfl) ?_
        exact q_retI hQ hE hr hk hst () (rfl) (trivial) (rfl) dX7_bornIn_41
      · skip
        have hk1 : kq < nq := Nat.lt_of_not_le (fun z => c_9 (nI_le z (by omega)))
        obtain ⟨bd, hbd, ebd⟩ := vp_in_of (hbi kq hk1) (by decide)
        refine lv_iload_n hx hb dX7_bornIn_12 rfl (lv_at hl 1 rfl) ?_
        refine lv_aload_n hx hb dX7_bornIn_13 rfl (lv_at hl 2 rfl) ?_
        refine lv_aload_n hx hb dX7_bornIn_14 rfl (lv_at hl 2 rfl) ?_
        refine gf_X7_47 hE hst 0 rfl rfl dX7_bornIn_15 ?_
        refine lv_iload_n hx hb dX7_bornIn_18 rfl (lv_at hl 0 rfl) ?_
        refine q_aldN hE hst 2 rfl kq (rfl) (by omega) (by decide) dX7_bornIn_19 ?_
        refine q_top (x' := nI bd) (ebd) ?_
        refine q_goI (q_rV hE lk_X7_199 (c_X7_monthOf l D cI cJ cZ x xf xs xk xp xd xo xn xr xy xi xt xq xb xw xl xm xe zl zt za (nI nq) zc ze zh zi zq zu zv bd (hbd) H.size) hst [0, 1] rfl rfl rfl rfl rfl hl.1 ⟨(Nat.le_of_ble_eq_true rfl), (Nat.le_of_ble_eq_true rfl)⟩ (rest := [.int (cntI (fun m => decide (monOf (bi m) = p0)) kq)]) rfl (Nat.le_of_ble_eq_true rfl) dX7_bornIn_20 ⟨(Nat.le_of_ble_eq_true rfl), (Nat.le_of_ble_eq_true rfl)⟩) hE hst [0, 1] rfl (fun _ => rfl) (fun (_ : Unit) => [(x, .inr (7, [.ref xf, .ref xs, .ref xk, .ref xp, .ref xd, .ref xo, .ref xn, .ref xr, .ref xy, .ref xi, .int zl, .long zu, .long zv, .ref xt, .ref xq, .ref xb, .ref xw, .ref xl, .ref xm, .int zt, .int za, .int (nI nq), .int zc, .int ze, .ref xe, .int zh, .int zi, .int zq])), (xy, .inl (cI, 12, .inl (nR mln))), (xb, .inl (cI, 60, .inl bi))]) (fun _ => rfl) (fun _ H locs hF hst => ?_)
        refine q_top (x' := monOf (bi kq)) (by rw [ebd]) ?_
        refine lv_iload_n hx hb dX7_bornIn_23 rfl (lv_at hl 3 rfl) ?_
        refine lv_icmp_ne (tgt := 31) hx hb dX7_bornIn_24 (by decide) (fun c_24 => ?_) (fun c_24 => ?_)
        · skip
          refine lv_iconst (v := 0) hx hb dX7_bornIn_31 (by decide) ?_
          refine lv_iadd hx hb dX7_bornIn_32 ?_
          refine q_top (x' := cntI (fun m => decide (monOf (bi m) = p0)) (kq + 1)) (by rw [cnt_f (f := fun m => decide (monOf (bi m) = p0)) (decide_eq_false c_24)]; exact Int32.add_zero _) ?_
          refine lv_istore_n (lv' := [(2, .int (cntI (fun m => decide (monOf (bi m) = p0)) (kq + 1))), (3, .int (nI kq)), (0, .ref x), (1, .int p0)]) hx hb dX7_bornIn_33 rfl hl (by decide) rfl (fun ls hl => ?_)
          refine lv_iinc (v := nI (kq + 1)) (lv' := [(3, .int (nI (kq + 1))), (2, .int (cntI (fun m => decide (monOf (bi m) = p0)) (kq + 1))), (0, .ref x), (1, .int p0)]) hx hb dX7_bornIn_34 hl (k := 1) rfl (nI_next _) (by decide) rfl (fun ls hl => ?_)
          refine lv_goto (tgt := 4) hx hb dX7_bornIn_37 (by decide) ?_
          exact ih (kq + 1) (by omega) (by omega) _ _ _ (hst) (lv_sub hl [0, 1, 2, 3] rfl)
        · skip
          refine lv_iconst (v := 1) hx hb dX7_bornIn_27 (by decide) ?_
          refine lv_goto (tgt := 32) hx hb dX7_bornIn_28 (by decide) ?_
          refine lv_iadd hx hb dX7_bornIn_32 ?_
          refine q_top (x' := cntI (fun m => decide (monOf (bi m) = p0)) (kq + 1)) (by rw [cnt_t (f := fun m => decide (monOf (bi m) = p0)) (decide_eq_true c_24)]) ?_
          refine lv_istore_n (lv' := [(2, .int (cntI (fun m => decide (monOf (bi m) = p0)) (kq + 1))), (3, .int (nI kq)), (0, .ref x), (1, .int p0)]) hx hb dX7_bornIn_33 rfl hl (by decide) rfl (fun ls hl => ?_)
          refine lv_iinc (v := nI (kq + 1)) (lv' := [(3, .int (nI (kq + 1))), (2, .int (cntI (fun m => decide (monOf (bi m) = p0)) (kq + 1))), (0, .ref x), (1, .int p0)]) hx hb dX7_bornIn_34 hl (k := 1) rfl (nI_next _) (by decide) rfl (fun ls hl => ?_)
          refine lv_goto (tgt := 4) hx hb dX7_bornIn_37 (by decide) ?_
          exact ih (kq + 1) (by omega) (by omega) _ _ _ (hst) (lv_sub hl [0, 1, 2, 3] rfl)
  refine lv_iconst (v := 0) hx hb dX7_bornIn_0 (by decide) ?_
  refine lv_istore_n (lv' := [(2, .int 0), (0, .ref x), (1, .int p0)]) hx hb dX7_bornIn_1 rfl hl (by decide) rfl (fun ls hl => ?_)
  refine lv_iconst (v := 0) hx hb dX7_bornIn_2 (by decide) ?_
  refine lv_istore_n (lv' := [(3, .int 0), (2, .int 0), (0, .ref x), (1, .int p0)]) hx hb dX7_bornIn_3 rfl hl (by decide) rfl (fun ls hl => ?_)
  exact loop_4 (nq + 1) 0 (Nat.zero_le _) (by omega) _ _ _ (hst) (lv_sub hl [0, 1, 2, 3] rfl)
set_option maxHeartbeats 4000000 in
set_option maxRecDepth 100000 in
theorem c_X7_shown (l : Launch) (D : va_G) (cI cJ cZ : ClassId) (x : Nat) (xf : Nat) (xs : Nat) (xk : Nat) (xp : Nat) (xd : Nat) (xo : Nat) (xn : Nat) (xr : Nat) (xy : Nat) (xi : Nat) (xt : Nat) (xq : Nat) (xb : Nat) (xw : Nat) (xl : Nat) (xm : Nat) (xe : Nat) (zl : Int32) (zt : Int32) (za : Int32) (zc : Int32) (ze : Int32) (zh : Int32) (zi : Int32) (zq : Int32) (zu : Int64) (zv : Int64) (nq : Nat) (bi : Nat → Int32) (hn : nq ≤ 60) (hbi : ∀ j, j < nq → vp_in (bi j) 366) : CtI l D cI cJ cZ yX7_shown cX7_shown 3 (some .int) 3 [.ref x] [(x, .inr (7, [.ref xf, .ref xs, .ref xk, .ref xp, .ref xd, .ref xo, .ref xn, .ref xr, .ref xy, .ref xi, .int zl, .long zu, .long zv, .ref xt, .ref xq, .ref xb, .ref xw, .ref xl, .ref xm, .int zt, .int za, .int (nI nq), .int zc, .int ze, .ref xe, .int zh, .int zi, .int zq])), (xy, .inl (cI, 12, .inl (nR mln))), (xb, .inl (cI, 60, .inl bi))] (fun (_ : Unit) => shwI (fun kq => decide (ze ≤ cntI (fun m => decide (monOf (bi m) = nI kq)) nq)) 12) (fun (_ : Unit) => True) (fun (_ : Unit) => [(x, .inr (7, [.ref xf, .ref xs, .ref xk, .ref xp, .ref xd, .ref xo, .ref xn, .ref xr, .ref xy, .ref xi, .int zl, .long zu, .long zv, .ref xt, .ref xq, .ref xb, .ref xw, .ref xl, .ref xm, .int zt, .int za, .int (nI nq), .int zc, .int ze, .ref xe, .int zh, .int zi, .int zq])), (xy, .inl (cI, 12, .inl (nR mln))), (xb, .inl (cI, 60, .inl bi))]) := by
  refine q_entI (own := RX7) rfl rfl (Nat.le_of_ble_eq_true rfl) ?_
  intro p e s m args below meth c A ls QQ hQ hE hx hb hr hk hin hA hl hst
  have hl : lv_has ls 3 [(0, .ref x)] := hl
  have loop_4 : ∀ (fu : Nat) (kq : Nat), (kq ≤ 12) → (12 - kq) < fu → ∀ (H : Heap) (locs : List Loc) (ls : Array Slot), SS D A s [(x, .inr (7, [.ref xf, .ref xs, .ref xk, .ref xp, .ref xd, .ref xo, .ref xn, .ref xr, .ref xy, .ref xi, .int zl, .long zu, .long zv, .ref xt, .ref xq, .ref xb, .ref xw, .ref xl, .ref xm, .int zt, .int za, .int (nI nq), .int zc, .int ze, .ref xe, .int zh, .int zi, .int zq])), (xy, .inl (cI, 12, .inl (nR mln))), (xb, .inl (cI, 60, .inl bi))] H locs → lv_has ls 3 [(2, .int (nI kq)), (1, .int (shwI (fun kq => decide (ze ≤ cntI (fun m => decide (monOf (bi m) = nI kq)) nq)) kq)), (0, .ref x)] → W p l e (rmN 3 0 0) s m args below meth c H locs 0 0 QQ (F0 m 4 ls []) := by
    intro fu
    induction fu with
    | zero =>
      intro kq h1 hn
      exact absurd hn (Nat.not_lt_zero _)
    | succ fu ih =>
      intro kq h1 hn H locs ls hst hl
      refine lv_iload_n hx hb dX7_shown_4 rfl (lv_at hl 0 rfl) ?_
      refine lv_bipush (v := 12) hx hb dX7_shown_5 (by decide) ?_
      refine lv_icmp_ge (tgt := 38) hx hb dX7_shown_7 (by decide) (fun c_7 => ?_) (fun c_7 => ?_)
      · skip
        have hk1 : kq = 12 := Nat.le_antisymm h1 (Nat.le_of_not_lt (fun z => nI_ge z (by decide) c_7))
        subst hk1
        skip
        refine lv_iload_n hx hb dX7_shown_38 rfl (lv_at hl 1 rfl) ?_
        exact q_retI hQ hE hr hk hst () (rfl) (trivial) (rfl) dX7_shown_39
      · skip
        have hk1 : kq < 12 := Nat.lt_of_not_le (fun z => c_7 (nI_le z (by omega)))
        refine lv_iload_n hx hb dX7_shown_10 rfl (lv_at hl 1 rfl) ?_
        refine lv_aload_n hx hb dX7_shown_11 rfl (lv_at hl 2 rfl) ?_
        refine lv_iload_n hx hb dX7_shown_12 rfl (lv_at hl 0 rfl) ?_
        refine q_goI (q_rV hE lk_X7_202 (c_X7_bornIn l D cI cJ cZ x xf xs xk xp xd xo xn xr xy xi xt xq xb xw xl xm xe zl zt za zc ze zh zi zq zu zv nq bi (nI kq) (by first | assumption | decide | omega) (by first | assumption | decide | omega) H.size) hst [0, 1, 2] rfl rfl rfl rfl rfl hl.1 ⟨(Nat.le_of_ble_eq_true rfl), (Nat.le_of_ble_eq_true rfl)⟩ (rest := [.int (shwI (fun kq => decide (ze ≤ cntI (fun m => decide (monOf (bi m) = nI kq)) nq)) kq)]) rfl (Nat.le_of_ble_eq_true rfl) dX7_shown_13 ⟨(Nat.le_of_ble_eq_true rfl), (Nat.le_of_ble_eq_true rfl)⟩) hE hst [0, 1, 2] rfl (fun _ => rfl) (fun (_ : Unit) => [(x, .inr (7, [.ref xf, .ref xs, .ref xk, .ref xp, .ref xd, .ref xo, .ref xn, .ref xr, .ref xy, .ref xi, .int zl, .long zu, .long zv, .ref xt, .ref xq, .ref xb, .ref xw, .ref xl, .ref xm, .int zt, .int za, .int (nI nq), .int zc, .int ze, .ref xe, .int zh, .int zi, .int zq])), (xy, .inl (cI, 12, .inl (nR mln))), (xb, .inl (cI, 60, .inl bi))]) (fun _ => rfl) (fun _ H locs hF hst => ?_)
        refine lv_aload_n hx hb dX7_shown_16 rfl (lv_at hl 2 rfl) ?_
        refine gf_X7_63 hE hst 0 rfl rfl dX7_shown_17 ?_
        refine lv_icmp_lt (tgt := 29) hx hb dX7_shown_20 (by decide) (fun c_20 => ?_) (fun c_20 => ?_)
        · skip
          refine lv_iconst (v := 0) hx hb dX7_shown_29 (by decide) ?_
          refine lv_ior hx hb dX7_shown_30 ?_
          refine q_top (x' := shwI (fun kq => decide (ze ≤ cntI (fun m => decide (monOf (bi m) = nI kq)) nq)) (kq + 1)) (by rw [shw_f (f := fun kq => decide (ze ≤ cntI (fun m => decide (monOf (bi m) = nI kq)) nq)) (decide_eq_false (Int32.not_le.mpr c_20))]; exact Int32.or_zero) ?_
          refine lv_istore_n (lv' := [(1, .int (shwI (fun kq => decide (ze ≤ cntI (fun m => decide (monOf (bi m) = nI kq)) nq)) (kq + 1))), (2, .int (nI kq)), (0, .ref x)]) hx hb dX7_shown_31 rfl hl (by decide) rfl (fun ls hl => ?_)
          refine lv_iinc (v := nI (kq + 1)) (lv' := [(2, .int (nI (kq + 1))), (1, .int (shwI (fun kq => decide (ze ≤ cntI (fun m => decide (monOf (bi m) = nI kq)) nq)) (kq + 1))), (0, .ref x)]) hx hb dX7_shown_32 hl (k := 1) rfl (nI_next _) (by decide) rfl (fun ls hl => ?_)
          refine lv_goto (tgt := 4) hx hb dX7_shown_35 (by decide) ?_
          exact ih (kq + 1) (by omega) (by omega) _ _ _ (hst) (lv_sub hl [0, 1, 2] rfl)
        · skip
          refine lv_iconst (v := 1) hx hb dX7_shown_23 (by decide) ?_
          refine lv_iload_n hx hb dX7_shown_24 rfl (lv_at hl 0 rfl) ?_
          refine lv_ishl hx hb dX7_shown_25 ?_
          refine lv_goto (tgt := 30) hx hb dX7_shown_26 (by decide) ?_
          refine lv_ior hx hb dX7_shown_30 ?_
          refine q_top (x' := shwI (fun kq => decide (ze ≤ cntI (fun m => decide (monOf (bi m) = nI kq)) nq)) (kq + 1)) (by rw [shw_t (f := fun kq => decide (ze ≤ cntI (fun m => decide (monOf (bi m) = nI kq)) nq)) (decide_eq_true (Int32.not_lt.mp c_20))]) ?_
          refine lv_istore_n (lv' := [(1, .int (shwI (fun kq => decide (ze ≤ cntI (fun m => decide (monOf (bi m) = nI kq)) nq)) (kq + 1))), (2, .int (nI kq)), (0, .ref x)]) hx hb dX7_shown_31 rfl hl (by decide) rfl (fun ls hl => ?_)
          refine lv_iinc (v := nI (kq + 1)) (lv' := [(2, .int (nI (kq + 1))), (1, .int (shwI (fun kq => decide (ze ≤ cntI (fun m => decide (monOf (bi m) = nI kq)) nq)) (kq + 1))), (0, .ref x)]) hx hb dX7_shown_32 hl (k := 1) rfl (nI_next _) (by decide) rfl (fun ls hl => ?_)
          refine lv_goto (tgt := 4) hx hb dX7_shown_35 (by decide) ?_
          exact ih (kq + 1) (by omega) (by omega) _ _ _ (hst) (lv_sub hl [0, 1, 2] rfl)
  refine lv_iconst (v := 0) hx hb dX7_shown_0 (by decide) ?_
  refine lv_istore_n (lv' := [(1, .int 0), (0, .ref x)]) hx hb dX7_shown_1 rfl hl (by decide) rfl (fun ls hl => ?_)
  refine lv_iconst (v := 0) hx hb dX7_shown_2 (by decide) ?_
  refine lv_istore_n (lv' := [(2, .int 0), (1, .int 0), (0, .ref x)]) hx hb dX7_shown_3 rfl hl (by decide) rfl (fun ls hl => ?_)
  exact loop_4 (13) 0 (by decide) (by decide) _ _ _ (hst) (lv_sub hl [0, 1, 2] rfl)
set_option maxHeartbeats 4000000 in
set_option maxRecDepth 100000 in
theorem c_X7_wageOf (l : Launch) (D : va_G) (cI cJ cZ : ClassId) (x : Nat) (xf : Nat) (xs : Nat) (xk : Nat) (xp : Nat) (xd : Nat) (xo : Nat) (xn : Nat) (xr : Nat) (xy : Nat) (xi : Nat) (xt : Nat) (xq : Nat) (xb : Nat) (xw : Nat) (xl : Nat) (xm : Nat) (xe : Nat) (zl : Int32) (zt : Int32) (za : Int32) (zm : Int32) (zc : Int32) (ze : Int32) (zh : Int32) (zi : Int32) (zq : Int32) (zu : Int64) (zv : Int64) (seF : Nat → Int32) (kF : Nat → Nat) (spF : Nat → Nat) (deF : Nat → Nat) (pF : Nat → Bool) (nm : Nat → Int32) (f : Nat → Int32) (dz : Nat → Int32) (ki : Nat → Int32) (bi : Nat → Int32) (pa : Nat → Int32) (la : Nat → Int32) (j0 : Nat) (m0 : Nat) (y0 : Nat) (hj : j0 < 2) (hjo : joM kF spF deF) (hck : ckM seF kF spF deF pF nm dz) (hm : m0 < 60) (hbi : vp_in (bi m0) 366) (hki : vp_in (ki m0) 6) (hpa : vp_in (pa m0) 10000) (hla : ∀ i, i < 5 → vp_in (la i) 1000) (hy : y0 ≤ 40) : CtL l D cI cJ cZ yX7_wageOf cX7_wageOf 7 (some .long) 5 [.ref x, .int (nI j0), .int (nI m0), .int (nI y0)] [(x, .inr (7, [.ref xf, .ref xs, .ref xk, .ref xp, .ref xd, .ref xo, .ref xn, .ref xr, .ref xy, .ref xi, .int zl, .long zu, .long zv, .ref xt, .ref xq, .ref xb, .ref xw, .ref xl, .ref xm, .int zt, .int za, .int zm, .int zc, .int ze, .ref xe, .int zh, .int zi, .int zq])), (xs, .inl (cI, 2, .inl seF)), (xk, .inl (cI, 2, .inl (nR kF))), (xp, .inl (cI, 2, .inl (nR spF))), (xd, .inl (cI, 2, .inl (nR deF))), (xo, .inl (cI, 2, .inl (bR pF))), (xn, .inl (cI, 732, .inl nm)), (xr, .inl (cI, 366, .inl f)), (xi, .inl (cZ, 2, .inl dz)), (xq, .inl (cI, 60, .inl ki)), (xb, .inl (cI, 60, .inl bi)), (xw, .inl (cI, 60, .inl pa)), (xl, .inl (cI, 5, .inl la))] (fun (u : Int32 × (Nat → Int32) × (Nat → Int32) × (Nat → Int32)) => (wagF zc (ndM seF kF spF deF pF j0) ki bi pa la (nI y0) m0).toInt64) (fun (u : Int32 × (Nat → Int32) × (Nat → Int32) × (Nat → Int32)) => ckM seF kF spF deF pF u.2.1 u.2.2.2) (fun (u : Int32 × (Nat → Int32) × (Nat → Int32) × (Nat → Int32)) => [(x, .inr (7, [.ref xf, .ref xs, .ref xk, .ref xp, .ref xd, .ref xo, .ref xn, .ref xr, .ref xy, .ref xi, .int u.1, .long zu, .long zv, .ref xt, .ref xq, .ref xb, .ref xw, .ref xl, .ref xm, .int zt, .int za, .int zm, .int zc, .int ze, .ref xe, .int zh, .int zi, .int zq])), (xs, .inl (cI, 2, .inl seF)), (xk, .inl (cI, 2, .inl (nR kF))), (xp, .inl (cI, 2, .inl (nR spF))), (xd, .inl (cI, 2, .inl (nR deF))), (xo, .inl (cI, 2, .inl (bR pF))), (xn, .inl (cI, 732, .inl u.2.1)), (xr, .inl (cI, 366, .inl u.2.2.1)), (xi, .inl (cZ, 2, .inl u.2.2.2)), (xq, .inl (cI, 60, .inl ki)), (xb, .inl (cI, 60, .inl bi)), (xw, .inl (cI, 60, .inl pa)), (xl, .inl (cI, 5, .inl la))]) := by
  refine q_entL (own := RX7) rfl rfl (Nat.le_of_ble_eq_true rfl) ?_
  intro p e s m args below meth c A ls QQ hQ hE hx hb hr hk hin hA hl hst
  have hl : lv_has ls 7 [(0, .ref x), (1, .int (nI j0)), (2, .int (nI m0)), (3, .int (nI y0))] := hl
  refine lv_aload_n hx hb dX7_wageOf_0 rfl (lv_at hl 0 rfl) ?_
  refine gf_X7_50 hE hst 0 rfl rfl dX7_wageOf_1 ?_
  refine lv_iload_n hx hb dX7_wageOf_4 rfl (lv_at hl 2 rfl) ?_
  refine q_aldN hE hst 11 rfl m0 (rfl) (hm) (by decide) dX7_wageOf_5 ?_
  refine lv_aload_n hx hb dX7_wageOf_6 rfl (lv_at hl 0 rfl) ?_
  refine gf_X7_53 hE hst 0 rfl rfl dX7_wageOf_7 ?_
  refine lv_iconst (v := 0) hx hb dX7_wageOf_10 (by decide) ?_
  refine q_aldN hE hst 12 rfl 0 (rfl) (by decide) (by decide) dX7_wageOf_11 ?_
  refine lv_iload_n hx hb dX7_wageOf_12 rfl (lv_at hl 3 rfl) ?_
  refine lv_imul hx hb dX7_wageOf_13 ?_
  refine lv_iadd hx hb dX7_wageOf_14 ?_
  refine lv_i2l (v := ((pa m0) + ((la 0) * (nI y0))).toInt64) hx hb dX7_wageOf_15 rfl ?_
  refine lv_lstore (lv' := [(4, .long (((pa m0) + ((la 0) * (nI y0))).toInt64)), (0, .ref x), (1, .int (nI j0)), (2, .int (nI m0)), (3, .int (nI y0))]) hx hb dX7_wageOf_16 hl (by decide) rfl (fun ls hl => ?_)
  refine lv_aload_n hx hb dX7_wageOf_18 rfl (lv_at hl 1 rfl) ?_
  refine lv_iload_n hx hb dX7_wageOf_19 rfl (lv_at hl 2 rfl) ?_
  refine lv_iload_n hx hb dX7_wageOf_20 rfl (lv_at hl 3 rfl) ?_
  refine q_goI (q_rV hE lk_X7_177 (c_X7_servedAs l D cI cJ cZ x xf xs xk xp xd xo xn xr xy xi xt xq xb xw xl xm xe zl zt za zm zc ze zh zi zq zu zv seF kF spF deF pF nm f dz ki bi j0 m0 (by first | assumption | decide | omega) (by first | assumption | decide | omega) (by first | assumption | decide | omega) (by first | assumption | decide | omega) (by first | assumption | decide | omega) (by first | assumption | decide | omega) s.heap.size) hst [0, 1, 2, 3, 4, 5, 6, 7, 8, 9, 10] rfl rfl rfl rfl rfl hl.1 ⟨(Nat.le_of_ble_eq_true rfl), (Nat.le_of_ble_eq_true rfl)⟩ (rest := []) rfl (Nat.le_of_ble_eq_true rfl) dX7_wageOf_21 ⟨(Nat.le_of_ble_eq_true rfl), (Nat.le_of_ble_eq_true rfl)⟩) hE hst [0, 1, 2, 3, 4, 5, 6, 7, 8, 9, 10] rfl (fun _ => rfl) (fun (u : Int32 × (Nat → Int32) × (Nat → Int32) × (Nat → Int32)) => [(x, .inr (7, [.ref xf, .ref xs, .ref xk, .ref xp, .ref xd, .ref xo, .ref xn, .ref xr, .ref xy, .ref xi, .int u.1, .long zu, .long zv, .ref xt, .ref xq, .ref xb, .ref xw, .ref xl, .ref xm, .int zt, .int za, .int zm, .int zc, .int ze, .ref xe, .int zh, .int zi, .int zq])), (xs, .inl (cI, 2, .inl seF)), (xk, .inl (cI, 2, .inl (nR kF))), (xp, .inl (cI, 2, .inl (nR spF))), (xd, .inl (cI, 2, .inl (nR deF))), (xo, .inl (cI, 2, .inl (bR pF))), (xn, .inl (cI, 732, .inl u.2.1)), (xr, .inl (cI, 366, .inl u.2.2.1)), (xi, .inl (cZ, 2, .inl u.2.2.2)), (xq, .inl (cI, 60, .inl ki)), (xb, .inl (cI, 60, .inl bi)), (xw, .inl (cI, 60, .inl pa)), (xl, .inl (cI, 5, .inl la))]) (fun _ => rfl) (fun u H locs hF hst => ?_)
  obtain ⟨zl1_1, nm1_2, f1_3, dz1_4⟩ := u
  have hst : SS D A s [(x, .inr (7, [.ref xf, .ref xs, .ref xk, .ref xp, .ref xd, .ref xo, .ref xn, .ref xr, .ref xy, .ref xi, .int zl1_1, .long zu, .long zv, .ref xt, .ref xq, .ref xb, .ref xw, .ref xl, .ref xm, .int zt, .int za, .int zm, .int zc, .int ze, .ref xe, .int zh, .int zi, .int zq])), (xs, .inl (cI, 2, .inl seF)), (xk, .inl (cI, 2, .inl (nR kF))), (xp, .inl (cI, 2, .inl (nR spF))), (xd, .inl (cI, 2, .inl (nR deF))), (xo, .inl (cI, 2, .inl (bR pF))), (xn, .inl (cI, 732, .inl nm1_2)), (xr, .inl (cI, 366, .inl f1_3)), (xi, .inl (cZ, 2, .inl dz1_4)), (xq, .inl (cI, 60, .inl ki)), (xb, .inl (cI, 60, .inl bi)), (xw, .inl (cI, 60, .inl pa)), (xl, .inl (cI, 5, .inl la))] H locs := hst
  have hF : (ckM seF kF spF deF pF nm1_2 dz1_4) := hF
  have hF0_21 := hF
  refine W.eq (g2 := F0 m 24 ls [.int (svF zc (ndM seF kF spF deF pF j0) ki bi m0)]) rfl ?_
  refine lv_istore (lv' := [(6, .int (svF zc (ndM seF kF spF deF pF j0) ki bi m0)), (4, .long (((pa m0) + ((la 0) * (nI y0))).toInt64)), (0, .ref x), (1, .int (nI j0)), (2, .int (nI m0)), (3, .int (nI y0))]) hx hb dX7_wageOf_24 hl (by decide) rfl (fun ls hl => ?_)
  refine lv_iload hx hb dX7_wageOf_26 (lv_at hl 0 rfl) ?_
  refine lv_iconst (v := 1) hx hb dX7_wageOf_28 (by decide) ?_
  refine lv_icmp_ne (tgt := 43) hx hb dX7_wageOf_29 (by decide) (fun c_29 => ?_) (fun c_29 => ?_)
  · skip
    refine lv_iload hx hb dX7_wageOf_43 (lv_at hl 0 rfl) ?_
    refine lv_iconst (v := 2) hx hb dX7_wageOf_45 (by decide) ?_
    refine lv_icmp_ne (tgt := 62) hx hb dX7_wageOf_46 (by decide) (fun c_46 => ?_) (fun c_46 => ?_)
    · skip
      refine lv_iload hx hb dX7_wageOf_62 (lv_at hl 0 rfl) ?_
      refine lv_iconst (v := 3) hx hb dX7_wageOf_64 (by decide) ?_
      refine lv_icmp_ne (tgt := 80) hx hb dX7_wageOf_65 (by decide) (fun c_65 => ?_) (fun c_65 => ?_)
      · skip
        refine lv_aload_n hx hb dX7_wageOf_80 rfl (lv_at hl 2 rfl) ?_
        refine lv_iload_n hx hb dX7_wageOf_81 rfl (lv_at hl 3 rfl) ?_
        refine lv_iload_n hx hb dX7_wageOf_82 rfl (lv_at hl 4 rfl) ?_
        refine q_goI (q_rV hE lk_X7_173 (c_X7_isCalled l D cI cJ cZ x xf xs xk xp xd xo xn xr xy xi xt xq xb xw xl xm xe zl1_1 zt za zm zc ze zh zi zq zu zv seF kF spF deF pF nm1_2 f1_3 dz1_4 bi j0 m0 (by first | assumption | decide | omega) (by first | assumption | decide | omega) (by first | assumption | decide | omega) (by first | assumption | decide | omega) (by first | assumption | decide | omega) H.size) hst [0, 1, 2, 3, 4, 5, 6, 7, 8, 10] rfl rfl rfl rfl rfl hl.1 ⟨(Nat.le_of_ble_eq_true rfl), (Nat.le_of_ble_eq_true rfl)⟩ (rest := []) rfl (Nat.le_of_ble_eq_true rfl) dX7_wageOf_83 ⟨(Nat.le_of_ble_eq_true rfl), (Nat.le_of_ble_eq_true rfl)⟩) hE hst [0, 1, 2, 3, 4, 5, 6, 7, 8, 10] rfl (fun _ => rfl) (fun (u : Int32 × (Nat → Int32) × (Nat → Int32) × (Nat → Int32)) => [(x, .inr (7, [.ref xf, .ref xs, .ref xk, .ref xp, .ref xd, .ref xo, .ref xn, .ref xr, .ref xy, .ref xi, .int u.1, .long zu, .long zv, .ref xt, .ref xq, .ref xb, .ref xw, .ref xl, .ref xm, .int zt, .int za, .int zm, .int zc, .int ze, .ref xe, .int zh, .int zi, .int zq])), (xs, .inl (cI, 2, .inl seF)), (xk, .inl (cI, 2, .inl (nR kF))), (xp, .inl (cI, 2, .inl (nR spF))), (xd, .inl (cI, 2, .inl (nR deF))), (xo, .inl (cI, 2, .inl (bR pF))), (xn, .inl (cI, 732, .inl u.2.1)), (xr, .inl (cI, 366, .inl u.2.2.1)), (xi, .inl (cZ, 2, .inl u.2.2.2)), (xq, .inl (cI, 60, .inl ki)), (xb, .inl (cI, 60, .inl bi)), (xw, .inl (cI, 60, .inl pa)), (xl, .inl (cI, 5, .inl la))]) (fun _ => rfl) (fun u H locs hF hst => ?_)
        obtain ⟨zl1_5, nm1_6, f1_7, dz1_8⟩ := u
        have hst : SS D A s [(x, .inr (7, [.ref xf, .ref xs, .ref xk, .ref xp, .ref xd, .ref xo, .ref xn, .ref xr, .ref xy, .ref xi, .int zl1_5, .long zu, .long zv, .ref xt, .ref xq, .ref xb, .ref xw, .ref xl, .ref xm, .int zt, .int za, .int zm, .int zc, .int ze, .ref xe, .int zh, .int zi, .int zq])), (xs, .inl (cI, 2, .inl seF)), (xk, .inl (cI, 2, .inl (nR kF))), (xp, .inl (cI, 2, .inl (nR spF))), (xd, .inl (cI, 2, .inl (nR deF))), (xo, .inl (cI, 2, .inl (bR pF))), (xn, .inl (cI, 732, .inl nm1_6)), (xr, .inl (cI, 366, .inl f1_7)), (xi, .inl (cZ, 2, .inl dz1_8)), (xq, .inl (cI, 60, .inl ki)), (xb, .inl (cI, 60, .inl bi)), (xw, .inl (cI, 60, .inl pa)), (xl, .inl (cI, 5, .inl la))] H locs := hst
        have hF : (ckM seF kF spF deF pF nm1_6 dz1_8) := hF
        have hF0_83 := hF
        refine W.eq (g2 := F0 m 86 ls [.int (b2i (calF zc (ndM seF kF spF deF pF j0) bi m0))]) rfl ?_
        refine lv_if_eq (tgt := 102) hx hb dX7_wageOf_86 (by decide) (fun c_86 => ?_) (fun c_86 => ?_)
        · skip
          have c_86 := b2i_f c_86
          refine lv_lload hx hb dX7_wageOf_102 (lv_at hl 1 rfl) ?_
          exact q_retL hQ hE hr hk hst (zl1_5, nm1_6, f1_7, dz1_8) (by obtain ⟨-, -, -, -, e⟩ := wag_v (cut := zc) (nd := ndM seF kF spF deF pF j0) (ki := ki) (bi := bi) hpa hla hy; rw [e, chg_0 c_29 c_46 c_65, Int64.add_zero, if_neg (by rw [show clB zc (mnum (ndM seF kF spF deF pF j0) bi m0) = false from c_86]; decide), show (0 : Int32).toInt64 = 0 from rfl, Int64.sub_zero]) (hF0_83) (rfl) dX7_wageOf_104
        · skip
          have c_86 := b2i_t c_86
          refine lv_lload hx hb dX7_wageOf_89 (lv_at hl 1 rfl) ?_
          refine lv_aload_n hx hb dX7_wageOf_91 rfl (lv_at hl 2 rfl) ?_
          refine gf_X7_53 hE hst 0 rfl rfl dX7_wageOf_92 ?_
          refine lv_iconst (v := 4) hx hb dX7_wageOf_95 (by decide) ?_
          refine q_aldN hE hst 12 rfl 4 (rfl) (by decide) (by decide) dX7_wageOf_96 ?_
          refine lv_i2l (v := (la 4).toInt64) hx hb dX7_wageOf_97 rfl ?_
          refine lv_lsub hx hb dX7_wageOf_98 ?_
          refine lv_goto (tgt := 104) hx hb dX7_wageOf_99 (by decide) ?_
          exact q_retL hQ hE hr hk hst (zl1_5, nm1_6, f1_7, dz1_8) (by obtain ⟨-, -, -, -, e⟩ := wag_v (cut := zc) (nd := ndM seF kF spF deF pF j0) (ki := ki) (bi := bi) hpa hla hy; rw [e, chg_0 c_29 c_46 c_65, Int64.add_zero, if_pos (show clB zc (mnum (ndM seF kF spF deF pF j0) bi m0) = true from c_86)]) (hF0_83) (rfl) dX7_wageOf_104
      · skip
        refine lv_lload hx hb dX7_wageOf_68 (lv_at hl 1 rfl) ?_
        refine lv_aload_n hx hb dX7_wageOf_70 rfl (lv_at hl 2 rfl) ?_
        refine gf_X7_53 hE hst 0 rfl rfl dX7_wageOf_71 ?_
        refine lv_iconst (v := 3) hx hb dX7_wageOf_74 (by decide) ?_
        refine q_aldN hE hst 12 rfl 3 (rfl) (by decide) (by decide) dX7_wageOf_75 ?_
        refine lv_i2l (v := (la 3).toInt64) hx hb dX7_wageOf_76 rfl ?_
        refine lv_ladd hx hb dX7_wageOf_77 ?_
        refine lv_lstore (lv' := [(4, .long ((((pa m0) + ((la 0) * (nI y0))).toInt64) + ((la 3).toInt64))), (6, .int (svF zc (ndM seF kF spF deF pF j0) ki bi m0)), (0, .ref x), (1, .int (nI j0)), (2, .int (nI m0)), (3, .int (nI y0))]) hx hb dX7_wageOf_78 hl (by decide) rfl (fun ls hl => ?_)
        refine lv_aload_n hx hb dX7_wageOf_80 rfl (lv_at hl 2 rfl) ?_
        refine lv_iload_n hx hb dX7_wageOf_81 rfl (lv_at hl 3 rfl) ?_
        refine lv_iload_n hx hb dX7_wageOf_82 rfl (lv_at hl 4 rfl) ?_
        refine q_goI (q_rV hE lk_X7_173 (c_X7_isCalled l D cI cJ cZ x xf xs xk xp xd xo xn xr xy xi xt xq xb xw xl xm xe zl1_1 zt za zm zc ze zh zi zq zu zv seF kF spF deF pF nm1_2 f1_3 dz1_4 bi j0 m0 (by first | assumption | decide | omega) (by first | assumption | decide | omega) (by first | assumption | decide | omega) (by first | assumption | decide | omega) (by first | assumption | decide | omega) H.size) hst [0, 1, 2, 3, 4, 5, 6, 7, 8, 10] rfl rfl rfl rfl rfl hl.1 ⟨(Nat.le_of_ble_eq_true rfl), (Nat.le_of_ble_eq_true rfl)⟩ (rest := []) rfl (Nat.le_of_ble_eq_true rfl) dX7_wageOf_83 ⟨(Nat.le_of_ble_eq_true rfl), (Nat.le_of_ble_eq_true rfl)⟩) hE hst [0, 1, 2, 3, 4, 5, 6, 7, 8, 10] rfl (fun _ => rfl) (fun (u : Int32 × (Nat → Int32) × (Nat → Int32) × (Nat → Int32)) => [(x, .inr (7, [.ref xf, .ref xs, .ref xk, .ref xp, .ref xd, .ref xo, .ref xn, .ref xr, .ref xy, .ref xi, .int u.1, .long zu, .long zv, .ref xt, .ref xq, .ref xb, .ref xw, .ref xl, .ref xm, .int zt, .int za, .int zm, .int zc, .int ze, .ref xe, .int zh, .int zi, .int zq])), (xs, .inl (cI, 2, .inl seF)), (xk, .inl (cI, 2, .inl (nR kF))), (xp, .inl (cI, 2, .inl (nR spF))), (xd, .inl (cI, 2, .inl (nR deF))), (xo, .inl (cI, 2, .inl (bR pF))), (xn, .inl (cI, 732, .inl u.2.1)), (xr, .inl (cI, 366, .inl u.2.2.1)), (xi, .inl (cZ, 2, .inl u.2.2.2)), (xq, .inl (cI, 60, .inl ki)), (xb, .inl (cI, 60, .inl bi)), (xw, .inl (cI, 60, .inl pa)), (xl, .inl (cI, 5, .inl la))]) (fun _ => rfl) (fun u H locs hF hst => ?_)
        obtain ⟨zl1_9, nm1_10, f1_11, dz1_12⟩ := u
        have hst : SS D A s [(x, .inr (7, [.ref xf, .ref xs, .ref xk, .ref xp, .ref xd, .ref xo, .ref xn, .ref xr, .ref xy, .ref xi, .int zl1_9, .long zu, .long zv, .ref xt, .ref xq, .ref xb, .ref xw, .ref xl, .ref xm, .int zt, .int za, .int zm, .int zc, .int ze, .ref xe, .int zh, .int zi, .int zq])), (xs, .inl (cI, 2, .inl seF)), (xk, .inl (cI, 2, .inl (nR kF))), (xp, .inl (cI, 2, .inl (nR spF))), (xd, .inl (cI, 2, .inl (nR deF))), (xo, .inl (cI, 2, .inl (bR pF))), (xn, .inl (cI, 732, .inl nm1_10)), (xr, .inl (cI, 366, .inl f1_11)), (xi, .inl (cZ, 2, .inl dz1_12)), (xq, .inl (cI, 60, .inl ki)), (xb, .inl (cI, 60, .inl bi)), (xw, .inl (cI, 60, .inl pa)), (xl, .inl (cI, 5, .inl la))] H locs := hst
        have hF : (ckM seF kF spF deF pF nm1_10 dz1_12) := hF
        have hF0_83 := hF
        refine W.eq (g2 := F0 m 86 ls [.int (b2i (calF zc (ndM seF kF spF deF pF j0) bi m0))]) rfl ?_
        refine lv_if_eq (tgt := 102) hx hb dX7_wageOf_86 (by decide) (fun c_86 => ?_) (fun c_86 => ?_)
        · skip
          have c_86 := b2i_f c_86
          refine lv_lload hx hb dX7_wageOf_102 (lv_at hl 0 rfl) ?_
          exact q_retL hQ hE hr hk hst (zl1_9, nm1_10, f1_11, dz1_12) (by obtain ⟨-, -, -, -, e⟩ := wag_v (cut := zc) (nd := ndM seF kF spF deF pF j0) (ki := ki) (bi := bi) hpa hla hy; rw [e, chg_3 c_65, if_neg (by rw [show clB zc (mnum (ndM seF kF spF deF pF j0) bi m0) = false from c_86]; decide), show (0 : Int32).toInt64 = 0 from rfl, Int64.sub_zero]) (hF0_83) (rfl) dX7_wageOf_104
        · skip
          have c_86 := b2i_t c_86
          refine lv_lload hx hb dX7_wageOf_89 (lv_at hl 0 rfl) ?_
          refine lv_aload_n hx hb dX7_wageOf_91 rfl (lv_at hl 2 rfl) ?_
          refine gf_X7_53 hE hst 0 rfl rfl dX7_wageOf_92 ?_
          refine lv_iconst (v := 4) hx hb dX7_wageOf_95 (by decide) ?_
          refine q_aldN hE hst 12 rfl 4 (rfl) (by decide) (by decide) dX7_wageOf_96 ?_
          refine lv_i2l (v := (la 4).toInt64) hx hb dX7_wageOf_97 rfl ?_
          refine lv_lsub hx hb dX7_wageOf_98 ?_
          refine lv_goto (tgt := 104) hx hb dX7_wageOf_99 (by decide) ?_
          exact q_retL hQ hE hr hk hst (zl1_9, nm1_10, f1_11, dz1_12) (by obtain ⟨-, -, -, -, e⟩ := wag_v (cut := zc) (nd := ndM seF kF spF deF pF j0) (ki := ki) (bi := bi) hpa hla hy; rw [e, chg_3 c_65, if_pos (show clB zc (mnum (ndM seF kF spF deF pF j0) bi m0) = true from c_86)]) (hF0_83) (rfl) dX7_wageOf_104
    · skip
      refine lv_lload hx hb dX7_wageOf_49 (lv_at hl 1 rfl) ?_
      refine lv_aload_n hx hb dX7_wageOf_51 rfl (lv_at hl 2 rfl) ?_
      refine lv_iload_n hx hb dX7_wageOf_52 rfl (lv_at hl 5 rfl) ?_
      refine q_goI (q_rV hE lk_X7_180 (c_X7_lossIn l D cI cJ cZ x xf xs xk xp xd xo xn xr xy xi xt xq xb xw xl xm xe zl1_1 zt za zm zc ze zh zi zq zu zv la (nI y0) H.size) hst [0, 12] rfl rfl rfl rfl rfl hl.1 ⟨(Nat.le_of_ble_eq_true rfl), (Nat.le_of_ble_eq_true rfl)⟩ (rest := [.long (((pa m0) + ((la 0) * (nI y0))).toInt64)]) rfl (Nat.le_of_ble_eq_true rfl) dX7_wageOf_53 ⟨(Nat.le_of_ble_eq_true rfl), (Nat.le_of_ble_eq_true rfl)⟩) hE hst [0, 12] rfl (fun _ => rfl) (fun (_ : Unit) => [(x, .inr (7, [.ref xf, .ref xs, .ref xk, .ref xp, .ref xd, .ref xo, .ref xn, .ref xr, .ref xy, .ref xi, .int zl1_1, .long zu, .long zv, .ref xt, .ref xq, .ref xb, .ref xw, .ref xl, .ref xm, .int zt, .int za, .int zm, .int zc, .int ze, .ref xe, .int zh, .int zi, .int zq])), (xs, .inl (cI, 2, .inl seF)), (xk, .inl (cI, 2, .inl (nR kF))), (xp, .inl (cI, 2, .inl (nR spF))), (xd, .inl (cI, 2, .inl (nR deF))), (xo, .inl (cI, 2, .inl (bR pF))), (xn, .inl (cI, 732, .inl nm1_2)), (xr, .inl (cI, 366, .inl f1_3)), (xi, .inl (cZ, 2, .inl dz1_4)), (xq, .inl (cI, 60, .inl ki)), (xb, .inl (cI, 60, .inl bi)), (xw, .inl (cI, 60, .inl pa)), (xl, .inl (cI, 5, .inl la))]) (fun _ => rfl) (fun _ H locs hF hst => ?_)
      refine lv_iconst (v := 2) hx hb dX7_wageOf_56 (by decide) ?_
      refine lv_idiv hx hb dX7_wageOf_57 (by decide) ?_
      refine lv_i2l (v := ((losI la (nI y0)) / 2).toInt64) hx hb dX7_wageOf_58 rfl ?_
      refine lv_lsub hx hb dX7_wageOf_59 ?_
      refine lv_lstore (lv' := [(4, .long ((((pa m0) + ((la 0) * (nI y0))).toInt64) - (((losI la (nI y0)) / 2).toInt64))), (6, .int (svF zc (ndM seF kF spF deF pF j0) ki bi m0)), (0, .ref x), (1, .int (nI j0)), (2, .int (nI m0)), (3, .int (nI y0))]) hx hb dX7_wageOf_60 hl (by decide) rfl (fun ls hl => ?_)
      refine lv_iload hx hb dX7_wageOf_62 (lv_at hl 1 rfl) ?_
      refine lv_iconst (v := 3) hx hb dX7_wageOf_64 (by decide) ?_
      refine lv_icmp_ne (tgt := 80) hx hb dX7_wageOf_65 (by decide) (fun c_65 => ?_) (fun c_65 => ?_)
      · skip
        refine lv_aload_n hx hb dX7_wageOf_80 rfl (lv_at hl 2 rfl) ?_
        refine lv_iload_n hx hb dX7_wageOf_81 rfl (lv_at hl 3 rfl) ?_
        refine lv_iload_n hx hb dX7_wageOf_82 rfl (lv_at hl 4 rfl) ?_
        refine q_goI (q_rV hE lk_X7_173 (c_X7_isCalled l D cI cJ cZ x xf xs xk xp xd xo xn xr xy xi xt xq xb xw xl xm xe zl1_1 zt za zm zc ze zh zi zq zu zv seF kF spF deF pF nm1_2 f1_3 dz1_4 bi j0 m0 (by first | assumption | decide | omega) (by first | assumption | decide | omega) (by first | assumption | decide | omega) (by first | assumption | decide | omega) (by first | assumption | decide | omega) H.size) hst [0, 1, 2, 3, 4, 5, 6, 7, 8, 10] rfl rfl rfl rfl rfl hl.1 ⟨(Nat.le_of_ble_eq_true rfl), (Nat.le_of_ble_eq_true rfl)⟩ (rest := []) rfl (Nat.le_of_ble_eq_true rfl) dX7_wageOf_83 ⟨(Nat.le_of_ble_eq_true rfl), (Nat.le_of_ble_eq_true rfl)⟩) hE hst [0, 1, 2, 3, 4, 5, 6, 7, 8, 10] rfl (fun _ => rfl) (fun (u : Int32 × (Nat → Int32) × (Nat → Int32) × (Nat → Int32)) => [(x, .inr (7, [.ref xf, .ref xs, .ref xk, .ref xp, .ref xd, .ref xo, .ref xn, .ref xr, .ref xy, .ref xi, .int u.1, .long zu, .long zv, .ref xt, .ref xq, .ref xb, .ref xw, .ref xl, .ref xm, .int zt, .int za, .int zm, .int zc, .int ze, .ref xe, .int zh, .int zi, .int zq])), (xs, .inl (cI, 2, .inl seF)), (xk, .inl (cI, 2, .inl (nR kF))), (xp, .inl (cI, 2, .inl (nR spF))), (xd, .inl (cI, 2, .inl (nR deF))), (xo, .inl (cI, 2, .inl (bR pF))), (xn, .inl (cI, 732, .inl u.2.1)), (xr, .inl (cI, 366, .inl u.2.2.1)), (xi, .inl (cZ, 2, .inl u.2.2.2)), (xq, .inl (cI, 60, .inl ki)), (xb, .inl (cI, 60, .inl bi)), (xw, .inl (cI, 60, .inl pa)), (xl, .inl (cI, 5, .inl la))]) (fun _ => rfl) (fun u H locs hF hst => ?_)
        obtain ⟨zl1_13, nm1_14, f1_15, dz1_16⟩ := u
        have hst : SS D A s [(x, .inr (7, [.ref xf, .ref xs, .ref xk, .ref xp, .ref xd, .ref xo, .ref xn, .ref xr, .ref xy, .ref xi, .int zl1_13, .long zu, .long zv, .ref xt, .ref xq, .ref xb, .ref xw, .ref xl, .ref xm, .int zt, .int za, .int zm, .int zc, .int ze, .ref xe, .int zh, .int zi, .int zq])), (xs, .inl (cI, 2, .inl seF)), (xk, .inl (cI, 2, .inl (nR kF))), (xp, .inl (cI, 2, .inl (nR spF))), (xd, .inl (cI, 2, .inl (nR deF))), (xo, .inl (cI, 2, .inl (bR pF))), (xn, .inl (cI, 732, .inl nm1_14)), (xr, .inl (cI, 366, .inl f1_15)), (xi, .inl (cZ, 2, .inl dz1_16)), (xq, .inl (cI, 60, .inl ki)), (xb, .inl (cI, 60, .inl bi)), (xw, .inl (cI, 60, .inl pa)), (xl, .inl (cI, 5, .inl la))] H locs := hst
        have hF : (ckM seF kF spF deF pF nm1_14 dz1_16) := hF
        have hF0_83 := hF
        refine W.eq (g2 := F0 m 86 ls [.int (b2i (calF zc (ndM seF kF spF deF pF j0) bi m0))]) rfl ?_
        refine lv_if_eq (tgt := 102) hx hb dX7_wageOf_86 (by decide) (fun c_86 => ?_) (fun c_86 => ?_)
        · skip
          have c_86 := b2i_f c_86
          refine lv_lload hx hb dX7_wageOf_102 (lv_at hl 0 rfl) ?_
          exact q_retL hQ hE hr hk hst (zl1_13, nm1_14, f1_15, dz1_16) (by obtain ⟨-, -, -, -, e⟩ := wag_v (cut := zc) (nd := ndM seF kF spF deF pF j0) (ki := ki) (bi := bi) hpa hla hy; rw [e, chg_2 hla hy c_46, ← Int64.sub_eq_add_neg, if_neg (by rw [show clB zc (mnum (ndM seF kF spF deF pF j0) bi m0) = false from c_86]; decide), show (0 : Int32).toInt64 = 0 from rfl, Int64.sub_zero]) (hF0_83) (rfl) dX7_wageOf_104
        · skip
          have c_86 := b2i_t c_86
          refine lv_lload hx hb dX7_wageOf_89 (lv_at hl 0 rfl) ?_
          refine lv_aload_n hx hb dX7_wageOf_91 rfl (lv_at hl 2 rfl) ?_
          refine gf_X7_53 hE hst 0 rfl rfl dX7_wageOf_92 ?_
          refine lv_iconst (v := 4) hx hb dX7_wageOf_95 (by decide) ?_
          refine q_aldN hE hst 12 rfl 4 (rfl) (by decide) (by decide) dX7_wageOf_96 ?_
          refine lv_i2l (v := (la 4).toInt64) hx hb dX7_wageOf_97 rfl ?_
          refine lv_lsub hx hb dX7_wageOf_98 ?_
          refine lv_goto (tgt := 104) hx hb dX7_wageOf_99 (by decide) ?_
          exact q_retL hQ hE hr hk hst (zl1_13, nm1_14, f1_15, dz1_16) (by obtain ⟨-, -, -, -, e⟩ := wag_v (cut := zc) (nd := ndM seF kF spF deF pF j0) (ki := ki) (bi := bi) hpa hla hy; rw [e, chg_2 hla hy c_46, ← Int64.sub_eq_add_neg, if_pos (show clB zc (mnum (ndM seF kF spF deF pF j0) bi m0) = true from c_86)]) (hF0_83) (rfl) dX7_wageOf_104
      · skip
        refine lv_lload hx hb dX7_wageOf_68 (lv_at hl 0 rfl) ?_
        refine lv_aload_n hx hb dX7_wageOf_70 rfl (lv_at hl 2 rfl) ?_
        refine gf_X7_53 hE hst 0 rfl rfl dX7_wageOf_71 ?_
        refine lv_iconst (v := 3) hx hb dX7_wageOf_74 (by decide) ?_
        refine q_aldN hE hst 12 rfl 3 (rfl) (by decide) (by decide) dX7_wageOf_75 ?_
        refine lv_i2l (v := (la 3).toInt64) hx hb dX7_wageOf_76 rfl ?_
        refine lv_ladd hx hb dX7_wageOf_77 ?_
        refine lv_lstore (lv' := [(4, .long (((((pa m0) + ((la 0) * (nI y0))).toInt64) - (((losI la (nI y0)) / 2).toInt64)) + ((la 3).toInt64))), (6, .int (svF zc (ndM seF kF spF deF pF j0) ki bi m0)), (0, .ref x), (1, .int (nI j0)), (2, .int (nI m0)), (3, .int (nI y0))]) hx hb dX7_wageOf_78 hl (by decide) rfl (fun ls hl => ?_)
        refine lv_aload_n hx hb dX7_wageOf_80 rfl (lv_at hl 2 rfl) ?_
        refine lv_iload_n hx hb dX7_wageOf_81 rfl (lv_at hl 3 rfl) ?_
        refine lv_iload_n hx hb dX7_wageOf_82 rfl (lv_at hl 4 rfl) ?_
        refine q_goI (q_rV hE lk_X7_173 (c_X7_isCalled l D cI cJ cZ x xf xs xk xp xd xo xn xr xy xi xt xq xb xw xl xm xe zl1_1 zt za zm zc ze zh zi zq zu zv seF kF spF deF pF nm1_2 f1_3 dz1_4 bi j0 m0 (by first | assumption | decide | omega) (by first | assumption | decide | omega) (by first | assumption | decide | omega) (by first | assumption | decide | omega) (by first | assumption | decide | omega) H.size) hst [0, 1, 2, 3, 4, 5, 6, 7, 8, 10] rfl rfl rfl rfl rfl hl.1 ⟨(Nat.le_of_ble_eq_true rfl), (Nat.le_of_ble_eq_true rfl)⟩ (rest := []) rfl (Nat.le_of_ble_eq_true rfl) dX7_wageOf_83 ⟨(Nat.le_of_ble_eq_true rfl), (Nat.le_of_ble_eq_true rfl)⟩) hE hst [0, 1, 2, 3, 4, 5, 6, 7, 8, 10] rfl (fun _ => rfl) (fun (u : Int32 × (Nat → Int32) × (Nat → Int32) × (Nat → Int32)) => [(x, .inr (7, [.ref xf, .ref xs, .ref xk, .ref xp, .ref xd, .ref xo, .ref xn, .ref xr, .ref xy, .ref xi, .int u.1, .long zu, .long zv, .ref xt, .ref xq, .ref xb, .ref xw, .ref xl, .ref xm, .int zt, .int za, .int zm, .int zc, .int ze, .ref xe, .int zh, .int zi, .int zq])), (xs, .inl (cI, 2, .inl seF)), (xk, .inl (cI, 2, .inl (nR kF))), (xp, .inl (cI, 2, .inl (nR spF))), (xd, .inl (cI, 2, .inl (nR deF))), (xo, .inl (cI, 2, .inl (bR pF))), (xn, .inl (cI, 732, .inl u.2.1)), (xr, .inl (cI, 366, .inl u.2.2.1)), (xi, .inl (cZ, 2, .inl u.2.2.2)), (xq, .inl (cI, 60, .inl ki)), (xb, .inl (cI, 60, .inl bi)), (xw, .inl (cI, 60, .inl pa)), (xl, .inl (cI, 5, .inl la))]) (fun _ => rfl) (fun u H locs hF hst => ?_)
        obtain ⟨zl1_17, nm1_18, f1_19, dz1_20⟩ := u
        have hst : SS D A s [(x, .inr (7, [.ref xf, .ref xs, .ref xk, .ref xp, .ref xd, .ref xo, .ref xn, .ref xr, .ref xy, .ref xi, .int zl1_17, .long zu, .long zv, .ref xt, .ref xq, .ref xb, .ref xw, .ref xl, .ref xm, .int zt, .int za, .int zm, .int zc, .int ze, .ref xe, .int zh, .int zi, .int zq])), (xs, .inl (cI, 2, .inl seF)), (xk, .inl (cI, 2, .inl (nR kF))), (xp, .inl (cI, 2, .inl (nR spF))), (xd, .inl (cI, 2, .inl (nR deF))), (xo, .inl (cI, 2, .inl (bR pF))), (xn, .inl (cI, 732, .inl nm1_18)), (xr, .inl (cI, 366, .inl f1_19)), (xi, .inl (cZ, 2, .inl dz1_20)), (xq, .inl (cI, 60, .inl ki)), (xb, .inl (cI, 60, .inl bi)), (xw, .inl (cI, 60, .inl pa)), (xl, .inl (cI, 5, .inl la))] H locs := hst
        have hF : (ckM seF kF spF deF pF nm1_18 dz1_20) := hF
        have hF0_83 := hF
        refine W.eq (g2 := F0 m 86 ls [.int (b2i (calF zc (ndM seF kF spF deF pF j0) bi m0))]) rfl ?_
        refine lv_if_eq (tgt := 102) hx hb dX7_wageOf_86 (by decide) (fun c_86 => ?_) (fun c_86 => ?_)
        · skip
          have c_86 := b2i_f c_86
          refine lv_lload hx hb dX7_wageOf_102 (lv_at hl 0 rfl) ?_
          exact q_retL hQ hE hr hk hst (zl1_17, nm1_18, f1_19, dz1_20) (absurd (c_46.symm.trans c_65) (by decide)) (hF0_83) (rfl) dX7_wageOf_104
        · skip
          have c_86 := b2i_t c_86
          refine lv_lload hx hb dX7_wageOf_89 (lv_at hl 0 rfl) ?_
          refine lv_aload_n hx hb dX7_wageOf_91 rfl (lv_at hl 2 rfl) ?_
          refine gf_X7_53 hE hst 0 rfl rfl dX7_wageOf_92 ?_
          refine lv_iconst (v := 4) hx hb dX7_wageOf_95 (by decide) ?_
          refine q_aldN hE hst 12 rfl 4 (rfl) (by decide) (by decide) dX7_wageOf_96 ?_
          refine lv_i2l (v := (la 4).toInt64) hx hb dX7_wageOf_97 rfl ?_
          refine lv_lsub hx hb dX7_wageOf_98 ?_
          refine lv_goto (tgt := 104) hx hb dX7_wageOf_99 (by decide) ?_
          exact q_retL hQ hE hr hk hst (zl1_17, nm1_18, f1_19, dz1_20) (absurd (c_46.symm.trans c_65) (by decide)) (hF0_83) (rfl) dX7_wageOf_104
  · skip
    refine lv_lload hx hb dX7_wageOf_32 (lv_at hl 1 rfl) ?_
    refine lv_aload_n hx hb dX7_wageOf_34 rfl (lv_at hl 2 rfl) ?_
    refine lv_iload_n hx hb dX7_wageOf_35 rfl (lv_at hl 5 rfl) ?_
    refine q_goI (q_rV hE lk_X7_180 (c_X7_lossIn l D cI cJ cZ x xf xs xk xp xd xo xn xr xy xi xt xq xb xw xl xm xe zl1_1 zt za zm zc ze zh zi zq zu zv la (nI y0) H.size) hst [0, 12] rfl rfl rfl rfl rfl hl.1 ⟨(Nat.le_of_ble_eq_true rfl), (Nat.le_of_ble_eq_true rfl)⟩ (rest := [.long (((pa m0) + ((la 0) * (nI y0))).toInt64)]) rfl (Nat.le_of_ble_eq_true rfl) dX7_wageOf_36 ⟨(Nat.le_of_ble_eq_true rfl), (Nat.le_of_ble_eq_true rfl)⟩) hE hst [0, 12] rfl (fun _ => rfl) (fun (_ : Unit) => [(x, .inr (7, [.ref xf, .ref xs, .ref xk, .ref xp, .ref xd, .ref xo, .ref xn, .ref xr, .ref xy, .ref xi, .int zl1_1, .long zu, .long zv, .ref xt, .ref xq, .ref xb, .ref xw, .ref xl, .ref xm, .int zt, .int za, .int zm, .int zc, .int ze, .ref xe, .int zh, .int zi, .int zq])), (xs, .inl (cI, 2, .inl seF)), (xk, .inl (cI, 2, .inl (nR kF))), (xp, .inl (cI, 2, .inl (nR spF))), (xd, .inl (cI, 2, .inl (nR deF))), (xo, .inl (cI, 2, .inl (bR pF))), (xn, .inl (cI, 732, .inl nm1_2)), (xr, .inl (cI, 366, .inl f1_3)), (xi, .inl (cZ, 2, .inl dz1_4)), (xq, .inl (cI, 60, .inl ki)), (xb, .inl (cI, 60, .inl bi)), (xw, .inl (cI, 60, .inl pa)), (xl, .inl (cI, 5, .inl la))]) (fun _ => rfl) (fun _ H locs hF hst => ?_)
    refine lv_i2l (v := (losI la (nI y0)).toInt64) hx hb dX7_wageOf_39 rfl ?_
    refine lv_lsub hx hb dX7_wageOf_40 ?_
    refine lv_lstore (lv' := [(4, .long ((((pa m0) + ((la 0) * (nI y0))).toInt64) - ((losI la (nI y0)).toInt64))), (6, .int (svF zc (ndM seF kF spF deF pF j0) ki bi m0)), (0, .ref x), (1, .int (nI j0)), (2, .int (nI m0)), (3, .int (nI y0))]) hx hb dX7_wageOf_41 hl (by decide) rfl (fun ls hl => ?_)
    refine lv_iload hx hb dX7_wageOf_43 (lv_at hl 1 rfl) ?_
    refine lv_iconst (v := 2) hx hb dX7_wageOf_45 (by decide) ?_
    refine lv_icmp_ne (tgt := 62) hx hb dX7_wageOf_46 (by decide) (fun c_46 => ?_) (fun c_46 => ?_)
    · skip
      refine lv_iload hx hb dX7_wageOf_62 (lv_at hl 1 rfl) ?_
      refine lv_iconst (v := 3) hx hb dX7_wageOf_64 (by decide) ?_
      refine lv_icmp_ne (tgt := 80) hx hb dX7_wageOf_65 (by decide) (fun c_65 => ?_) (fun c_65 => ?_)
      · skip
        refine lv_aload_n hx hb dX7_wageOf_80 rfl (lv_at hl 2 rfl) ?_
        refine lv_iload_n hx hb dX7_wageOf_81 rfl (lv_at hl 3 rfl) ?_
        refine lv_iload_n hx hb dX7_wageOf_82 rfl (lv_at hl 4 rfl) ?_
        refine q_goI (q_rV hE lk_X7_173 (c_X7_isCalled l D cI cJ cZ x xf xs xk xp xd xo xn xr xy xi xt xq xb xw xl xm xe zl1_1 zt za zm zc ze zh zi zq zu zv seF kF spF deF pF nm1_2 f1_3 dz1_4 bi j0 m0 (by first | assumption | decide | omega) (by first | assumption | decide | omega) (by first | assumption | decide | omega) (by first | assumption | decide | omega) (by first | assumption | decide | omega) H.size) hst [0, 1, 2, 3, 4, 5, 6, 7, 8, 10] rfl rfl rfl rfl rfl hl.1 ⟨(Nat.le_of_ble_eq_true rfl), (Nat.le_of_ble_eq_true rfl)⟩ (rest := []) rfl (Nat.le_of_ble_eq_true rfl) dX7_wageOf_83 ⟨(Nat.le_of_ble_eq_true rfl), (Nat.le_of_ble_eq_true rfl)⟩) hE hst [0, 1, 2, 3, 4, 5, 6, 7, 8, 10] rfl (fun _ => rfl) (fun (u : Int32 × (Nat → Int32) × (Nat → Int32) × (Nat → Int32)) => [(x, .inr (7, [.ref xf, .ref xs, .ref xk, .ref xp, .ref xd, .ref xo, .ref xn, .ref xr, .ref xy, .ref xi, .int u.1, .long zu, .long zv, .ref xt, .ref xq, .ref xb, .ref xw, .ref xl, .ref xm, .int zt, .int za, .int zm, .int zc, .int ze, .ref xe, .int zh, .int zi, .int zq])), (xs, .inl (cI, 2, .inl seF)), (xk, .inl (cI, 2, .inl (nR kF))), (xp, .inl (cI, 2, .inl (nR spF))), (xd, .inl (cI, 2, .inl (nR deF))), (xo, .inl (cI, 2, .inl (bR pF))), (xn, .inl (cI, 732, .inl u.2.1)), (xr, .inl (cI, 366, .inl u.2.2.1)), (xi, .inl (cZ, 2, .inl u.2.2.2)), (xq, .inl (cI, 60, .inl ki)), (xb, .inl (cI, 60, .inl bi)), (xw, .inl (cI, 60, .inl pa)), (xl, .inl (cI, 5, .inl la))]) (fun _ => rfl) (fun u H locs hF hst => ?_)
        obtain ⟨zl1_21, nm1_22, f1_23, dz1_24⟩ := u
        have hst : SS D A s [(x, .inr (7, [.ref xf, .ref xs, .ref xk, .ref xp, .ref xd, .ref xo, .ref xn, .ref xr, .ref xy, .ref xi, .int zl1_21, .long zu, .long zv, .ref xt, .ref xq, .ref xb, .ref xw, .ref xl, .ref xm, .int zt, .int za, .int zm, .int zc, .int ze, .ref xe, .int zh, .int zi, .int zq])), (xs, .inl (cI, 2, .inl seF)), (xk, .inl (cI, 2, .inl (nR kF))), (xp, .inl (cI, 2, .inl (nR spF))), (xd, .inl (cI, 2, .inl (nR deF))), (xo, .inl (cI, 2, .inl (bR pF))), (xn, .inl (cI, 732, .inl nm1_22)), (xr, .inl (cI, 366, .inl f1_23)), (xi, .inl (cZ, 2, .inl dz1_24)), (xq, .inl (cI, 60, .inl ki)), (xb, .inl (cI, 60, .inl bi)), (xw, .inl (cI, 60, .inl pa)), (xl, .inl (cI, 5, .inl la))] H locs := hst
        have hF : (ckM seF kF spF deF pF nm1_22 dz1_24) := hF
        have hF0_83 := hF
        refine W.eq (g2 := F0 m 86 ls [.int (b2i (calF zc (ndM seF kF spF deF pF j0) bi m0))]) rfl ?_
        refine lv_if_eq (tgt := 102) hx hb dX7_wageOf_86 (by decide) (fun c_86 => ?_) (fun c_86 => ?_)
        · skip
          have c_86 := b2i_f c_86
          refine lv_lload hx hb dX7_wageOf_102 (lv_at hl 0 rfl) ?_
          exact q_retL hQ hE hr hk hst (zl1_21, nm1_22, f1_23, dz1_24) (by obtain ⟨-, -, -, -, e⟩ := wag_v (cut := zc) (nd := ndM seF kF spF deF pF j0) (ki := ki) (bi := bi) hpa hla hy; rw [e, chg_1 hla hy c_29, ← Int64.sub_eq_add_neg, if_neg (by rw [show clB zc (mnum (ndM seF kF spF deF pF j0) bi m0) = false from c_86]; decide), show (0 : Int32).toInt64 = 0 from rfl, Int64.sub_zero]) (hF0_83) (rfl) dX7_wageOf_104
        · skip
          have c_86 := b2i_t c_86
          refine lv_lload hx hb dX7_wageOf_89 (lv_at hl 0 rfl) ?_
          refine lv_aload_n hx hb dX7_wageOf_91 rfl (lv_at hl 2 rfl) ?_
          refine gf_X7_53 hE hst 0 rfl rfl dX7_wageOf_92 ?_
          refine lv_iconst (v := 4) hx hb dX7_wageOf_95 (by decide) ?_
          refine q_aldN hE hst 12 rfl 4 (rfl) (by decide) (by decide) dX7_wageOf_96 ?_
          refine lv_i2l (v := (la 4).toInt64) hx hb dX7_wageOf_97 rfl ?_
          refine lv_lsub hx hb dX7_wageOf_98 ?_
          refine lv_goto (tgt := 104) hx hb dX7_wageOf_99 (by decide) ?_
          exact q_retL hQ hE hr hk hst (zl1_21, nm1_22, f1_23, dz1_24) (by obtain ⟨-, -, -, -, e⟩ := wag_v (cut := zc) (nd := ndM seF kF spF deF pF j0) (ki := ki) (bi := bi) hpa hla hy; rw [e, chg_1 hla hy c_29, ← Int64.sub_eq_add_neg, if_pos (show clB zc (mnum (ndM seF kF spF deF pF j0) bi m0) = true from c_86)]) (hF0_83) (rfl) dX7_wageOf_104
      · skip
        refine lv_lload hx hb dX7_wageOf_68 (lv_at hl 0 rfl) ?_
        refine lv_aload_n hx hb dX7_wageOf_70 rfl (lv_at hl 2 rfl) ?_
        refine gf_X7_53 hE hst 0 rfl rfl dX7_wageOf_71 ?_
        refine lv_iconst (v := 3) hx hb dX7_wageOf_74 (by decide) ?_
        refine q_aldN hE hst 12 rfl 3 (rfl) (by decide) (by decide) dX7_wageOf_75 ?_
        refine lv_i2l (v := (la 3).toInt64) hx hb dX7_wageOf_76 rfl ?_
        refine lv_ladd hx hb dX7_wageOf_77 ?_
        refine lv_lstore (lv' := [(4, .long (((((pa m0) + ((la 0) * (nI y0))).toInt64) - ((losI la (nI y0)).toInt64)) + ((la 3).toInt64))), (6, .int (svF zc (ndM seF kF spF deF pF j0) ki bi m0)), (0, .ref x), (1, .int (nI j0)), (2, .int (nI m0)), (3, .int (nI y0))]) hx hb dX7_wageOf_78 hl (by decide) rfl (fun ls hl => ?_)
        refine lv_aload_n hx hb dX7_wageOf_80 rfl (lv_at hl 2 rfl) ?_
        refine lv_iload_n hx hb dX7_wageOf_81 rfl (lv_at hl 3 rfl) ?_
        refine lv_iload_n hx hb dX7_wageOf_82 rfl (lv_at hl 4 rfl) ?_
        refine q_goI (q_rV hE lk_X7_173 (c_X7_isCalled l D cI cJ cZ x xf xs xk xp xd xo xn xr xy xi xt xq xb xw xl xm xe zl1_1 zt za zm zc ze zh zi zq zu zv seF kF spF deF pF nm1_2 f1_3 dz1_4 bi j0 m0 (by first | assumption | decide | omega) (by first | assumption | decide | omega) (by first | assumption | decide | omega) (by first | assumption | decide | omega) (by first | assumption | decide | omega) H.size) hst [0, 1, 2, 3, 4, 5, 6, 7, 8, 10] rfl rfl rfl rfl rfl hl.1 ⟨(Nat.le_of_ble_eq_true rfl), (Nat.le_of_ble_eq_true rfl)⟩ (rest := []) rfl (Nat.le_of_ble_eq_true rfl) dX7_wageOf_83 ⟨(Nat.le_of_ble_eq_true rfl), (Nat.le_of_ble_eq_true rfl)⟩) hE hst [0, 1, 2, 3, 4, 5, 6, 7, 8, 10] rfl (fun _ => rfl) (fun (u : Int32 × (Nat → Int32) × (Nat → Int32) × (Nat → Int32)) => [(x, .inr (7, [.ref xf, .ref xs, .ref xk, .ref xp, .ref xd, .ref xo, .ref xn, .ref xr, .ref xy, .ref xi, .int u.1, .long zu, .long zv, .ref xt, .ref xq, .ref xb, .ref xw, .ref xl, .ref xm, .int zt, .int za, .int zm, .int zc, .int ze, .ref xe, .int zh, .int zi, .int zq])), (xs, .inl (cI, 2, .inl seF)), (xk, .inl (cI, 2, .inl (nR kF))), (xp, .inl (cI, 2, .inl (nR spF))), (xd, .inl (cI, 2, .inl (nR deF))), (xo, .inl (cI, 2, .inl (bR pF))), (xn, .inl (cI, 732, .inl u.2.1)), (xr, .inl (cI, 366, .inl u.2.2.1)), (xi, .inl (cZ, 2, .inl u.2.2.2)), (xq, .inl (cI, 60, .inl ki)), (xb, .inl (cI, 60, .inl bi)), (xw, .inl (cI, 60, .inl pa)), (xl, .inl (cI, 5, .inl la))]) (fun _ => rfl) (fun u H locs hF hst => ?_)
        obtain ⟨zl1_25, nm1_26, f1_27, dz1_28⟩ := u
        have hst : SS D A s [(x, .inr (7, [.ref xf, .ref xs, .ref xk, .ref xp, .ref xd, .ref xo, .ref xn, .ref xr, .ref xy, .ref xi, .int zl1_25, .long zu, .long zv, .ref xt, .ref xq, .ref xb, .ref xw, .ref xl, .ref xm, .int zt, .int za, .int zm, .int zc, .int ze, .ref xe, .int zh, .int zi, .int zq])), (xs, .inl (cI, 2, .inl seF)), (xk, .inl (cI, 2, .inl (nR kF))), (xp, .inl (cI, 2, .inl (nR spF))), (xd, .inl (cI, 2, .inl (nR deF))), (xo, .inl (cI, 2, .inl (bR pF))), (xn, .inl (cI, 732, .inl nm1_26)), (xr, .inl (cI, 366, .inl f1_27)), (xi, .inl (cZ, 2, .inl dz1_28)), (xq, .inl (cI, 60, .inl ki)), (xb, .inl (cI, 60, .inl bi)), (xw, .inl (cI, 60, .inl pa)), (xl, .inl (cI, 5, .inl la))] H locs := hst
        have hF : (ckM seF kF spF deF pF nm1_26 dz1_28) := hF
        have hF0_83 := hF
        refine W.eq (g2 := F0 m 86 ls [.int (b2i (calF zc (ndM seF kF spF deF pF j0) bi m0))]) rfl ?_
        refine lv_if_eq (tgt := 102) hx hb dX7_wageOf_86 (by decide) (fun c_86 => ?_) (fun c_86 => ?_)
        · skip
          have c_86 := b2i_f c_86
          refine lv_lload hx hb dX7_wageOf_102 (lv_at hl 0 rfl) ?_
          exact q_retL hQ hE hr hk hst (zl1_25, nm1_26, f1_27, dz1_28) (absurd (c_29.symm.trans c_65) (by decide)) (hF0_83) (rfl) dX7_wageOf_104
        · skip
          have c_86 := b2i_t c_86
          refine lv_lload hx hb dX7_wageOf_89 (lv_at hl 0 rfl) ?_
          refine lv_aload_n hx hb dX7_wageOf_91 rfl (lv_at hl 2 rfl) ?_
          refine gf_X7_53 hE hst 0 rfl rfl dX7_wageOf_92 ?_
          refine lv_iconst (v := 4) hx hb dX7_wageOf_95 (by decide) ?_
          refine q_aldN hE hst 12 rfl 4 (rfl) (by decide) (by decide) dX7_wageOf_96 ?_
          refine lv_i2l (v := (la 4).toInt64) hx hb dX7_wageOf_97 rfl ?_
          refine lv_lsub hx hb dX7_wageOf_98 ?_
          refine lv_goto (tgt := 104) hx hb dX7_wageOf_99 (by decide) ?_
          exact q_retL hQ hE hr hk hst (zl1_25, nm1_26, f1_27, dz1_28) (absurd (c_29.symm.trans c_65) (by decide)) (hF0_83) (rfl) dX7_wageOf_104
    · skip
      refine lv_lload hx hb dX7_wageOf_49 (lv_at hl 0 rfl) ?_
      refine lv_aload_n hx hb dX7_wageOf_51 rfl (lv_at hl 2 rfl) ?_
      refine lv_iload_n hx hb dX7_wageOf_52 rfl (lv_at hl 5 rfl) ?_
      refine q_goI (q_rV hE lk_X7_180 (c_X7_lossIn l D cI cJ cZ x xf xs xk xp xd xo xn xr xy xi xt xq xb xw xl xm xe zl1_1 zt za zm zc ze zh zi zq zu zv la (nI y0) H.size) hst [0, 12] rfl rfl rfl rfl rfl hl.1 ⟨(Nat.le_of_ble_eq_true rfl), (Nat.le_of_ble_eq_true rfl)⟩ (rest := [.long ((((pa m0) + ((la 0) * (nI y0))).toInt64) - ((losI la (nI y0)).toInt64))]) rfl (Nat.le_of_ble_eq_true rfl) dX7_wageOf_53 ⟨(Nat.le_of_ble_eq_true rfl), (Nat.le_of_ble_eq_true rfl)⟩) hE hst [0, 12] rfl (fun _ => rfl) (fun (_ : Unit) => [(x, .inr (7, [.ref xf, .ref xs, .ref xk, .ref xp, .ref xd, .ref xo, .ref xn, .ref xr, .ref xy, .ref xi, .int zl1_1, .long zu, .long zv, .ref xt, .ref xq, .ref xb, .ref xw, .ref xl, .ref xm, .int zt, .int za, .int zm, .int zc, .int ze, .ref xe, .int zh, .int zi, .int zq])), (xs, .inl (cI, 2, .inl seF)), (xk, .inl (cI, 2, .inl (nR kF))), (xp, .inl (cI, 2, .inl (nR spF))), (xd, .inl (cI, 2, .inl (nR deF))), (xo, .inl (cI, 2, .inl (bR pF))), (xn, .inl (cI, 732, .inl nm1_2)), (xr, .inl (cI, 366, .inl f1_3)), (xi, .inl (cZ, 2, .inl dz1_4)), (xq, .inl (cI, 60, .inl ki)), (xb, .inl (cI, 60, .inl bi)), (xw, .inl (cI, 60, .inl pa)), (xl, .inl (cI, 5, .inl la))]) (fun _ => rfl) (fun _ H locs hF hst => ?_)
      refine lv_iconst (v := 2) hx hb dX7_wageOf_56 (by decide) ?_
      refine lv_idiv hx hb dX7_wageOf_57 (by decide) ?_
      refine lv_i2l (v := ((losI la (nI y0)) / 2).toInt64) hx hb dX7_wageOf_58 rfl ?_
      refine lv_lsub hx hb dX7_wageOf_59 ?_
      refine lv_lstore (lv' := [(4, .long (((((pa m0) + ((la 0) * (nI y0))).toInt64) - ((losI la (nI y0)).toInt64)) - (((losI la (nI y0)) / 2).toInt64))), (6, .int (svF zc (ndM seF kF spF deF pF j0) ki bi m0)), (0, .ref x), (1, .int (nI j0)), (2, .int (nI m0)), (3, .int (nI y0))]) hx hb dX7_wageOf_60 hl (by decide) rfl (fun ls hl => ?_)
      refine lv_iload hx hb dX7_wageOf_62 (lv_at hl 1 rfl) ?_
      refine lv_iconst (v := 3) hx hb dX7_wageOf_64 (by decide) ?_
      refine lv_icmp_ne (tgt := 80) hx hb dX7_wageOf_65 (by decide) (fun c_65 => ?_) (fun c_65 => ?_)
      · skip
        refine lv_aload_n hx hb dX7_wageOf_80 rfl (lv_at hl 2 rfl) ?_
        refine lv_iload_n hx hb dX7_wageOf_81 rfl (lv_at hl 3 rfl) ?_
        refine lv_iload_n hx hb dX7_wageOf_82 rfl (lv_at hl 4 rfl) ?_
        refine q_goI (q_rV hE lk_X7_173 (c_X7_isCalled l D cI cJ cZ x xf xs xk xp xd xo xn xr xy xi xt xq xb xw xl xm xe zl1_1 zt za zm zc ze zh zi zq zu zv seF kF spF deF pF nm1_2 f1_3 dz1_4 bi j0 m0 (by first | assumption | decide | omega) (by first | assumption | decide | omega) (by first | assumption | decide | omega) (by first | assumption | decide | omega) (by first | assumption | decide | omega) H.size) hst [0, 1, 2, 3, 4, 5, 6, 7, 8, 10] rfl rfl rfl rfl rfl hl.1 ⟨(Nat.le_of_ble_eq_true rfl), (Nat.le_of_ble_eq_true rfl)⟩ (rest := []) rfl (Nat.le_of_ble_eq_true rfl) dX7_wageOf_83 ⟨(Nat.le_of_ble_eq_true rfl), (Nat.le_of_ble_eq_true rfl)⟩) hE hst [0, 1, 2, 3, 4, 5, 6, 7, 8, 10] rfl (fun _ => rfl) (fun (u : Int32 × (Nat → Int32) × (Nat → Int32) × (Nat → Int32)) => [(x, .inr (7, [.ref xf, .ref xs, .ref xk, .ref xp, .ref xd, .ref xo, .ref xn, .ref xr, .ref xy, .ref xi, .int u.1, .long zu, .long zv, .ref xt, .ref xq, .ref xb, .ref xw, .ref xl, .ref xm, .int zt, .int za, .int zm, .int zc, .int ze, .ref xe, .int zh, .int zi, .int zq])), (xs, .inl (cI, 2, .inl seF)), (xk, .inl (cI, 2, .inl (nR kF))), (xp, .inl (cI, 2, .inl (nR spF))), (xd, .inl (cI, 2, .inl (nR deF))), (xo, .inl (cI, 2, .inl (bR pF))), (xn, .inl (cI, 732, .inl u.2.1)), (xr, .inl (cI, 366, .inl u.2.2.1)), (xi, .inl (cZ, 2, .inl u.2.2.2)), (xq, .inl (cI, 60, .inl ki)), (xb, .inl (cI, 60, .inl bi)), (xw, .inl (cI, 60, .inl pa)), (xl, .inl (cI, 5, .inl la))]) (fun _ => rfl) (fun u H locs hF hst => ?_)
        obtain ⟨zl1_29, nm1_30, f1_31, dz1_32⟩ := u
        have hst : SS D A s [(x, .inr (7, [.ref xf, .ref xs, .ref xk, .ref xp, .ref xd, .ref xo, .ref xn, .ref xr, .ref xy, .ref xi, .int zl1_29, .long zu, .long zv, .ref xt, .ref xq, .ref xb, .ref xw, .ref xl, .ref xm, .int zt, .int za, .int zm, .int zc, .int ze, .ref xe, .int zh, .int zi, .int zq])), (xs, .inl (cI, 2, .inl seF)), (xk, .inl (cI, 2, .inl (nR kF))), (xp, .inl (cI, 2, .inl (nR spF))), (xd, .inl (cI, 2, .inl (nR deF))), (xo, .inl (cI, 2, .inl (bR pF))), (xn, .inl (cI, 732, .inl nm1_30)), (xr, .inl (cI, 366, .inl f1_31)), (xi, .inl (cZ, 2, .inl dz1_32)), (xq, .inl (cI, 60, .inl ki)), (xb, .inl (cI, 60, .inl bi)), (xw, .inl (cI, 60, .inl pa)), (xl, .inl (cI, 5, .inl la))] H locs := hst
        have hF : (ckM seF kF spF deF pF nm1_30 dz1_32) := hF
        have hF0_83 := hF
        refine W.eq (g2 := F0 m 86 ls [.int (b2i (calF zc (ndM seF kF spF deF pF j0) bi m0))]) rfl ?_
        refine lv_if_eq (tgt := 102) hx hb dX7_wageOf_86 (by decide) (fun c_86 => ?_) (fun c_86 => ?_)
        · skip
          have c_86 := b2i_f c_86
          refine lv_lload hx hb dX7_wageOf_102 (lv_at hl 0 rfl) ?_
          exact q_retL hQ hE hr hk hst (zl1_29, nm1_30, f1_31, dz1_32) (absurd (c_29.symm.trans c_46) (by decide)) (hF0_83) (rfl) dX7_wageOf_104
        · skip
          have c_86 := b2i_t c_86
          refine lv_lload hx hb dX7_wageOf_89 (lv_at hl 0 rfl) ?_
          refine lv_aload_n hx hb dX7_wageOf_91 rfl (lv_at hl 2 rfl) ?_
          refine gf_X7_53 hE hst 0 rfl rfl dX7_wageOf_92 ?_
          refine lv_iconst (v := 4) hx hb dX7_wageOf_95 (by decide) ?_
          refine q_aldN hE hst 12 rfl 4 (rfl) (by decide) (by decide) dX7_wageOf_96 ?_
          refine lv_i2l (v := (la 4).toInt64) hx hb dX7_wageOf_97 rfl ?_
          refine lv_lsub hx hb dX7_wageOf_98 ?_
          refine lv_goto (tgt := 104) hx hb dX7_wageOf_99 (by decide) ?_
          exact q_retL hQ hE hr hk hst (zl1_29, nm1_30, f1_31, dz1_32) (absurd (c_29.symm.trans c_46) (by decide)) (hF0_83) (rfl) dX7_wageOf_104
      · skip
        refine lv_lload hx hb dX7_wageOf_68 (lv_at hl 0 rfl) ?_
        refine lv_aload_n hx hb dX7_wageOf_70 rfl (lv_at hl 2 rfl) ?_
        refine gf_X7_53 hE hst 0 rfl rfl dX7_wageOf_71 ?_
        refine lv_iconst (v := 3) hx hb dX7_wageOf_74 (by decide) ?_
        refine q_aldN hE hst 12 rfl 3 (rfl) (by decide) (by decide) dX7_wageOf_75 ?_
        refine lv_i2l (v := (la 3).toInt64) hx hb dX7_wageOf_76 rfl ?_
        refine lv_ladd hx hb dX7_wageOf_77 ?_
        refine lv_lstore (lv' := [(4, .long ((((((pa m0) + ((la 0) * (nI y0))).toInt64) - ((losI la (nI y0)).toInt64)) - (((losI la (nI y0)) / 2).toInt64)) + ((la 3).toInt64))), (6, .int (svF zc (ndM seF kF spF deF pF j0) ki bi m0)), (0, .ref x), (1, .int (nI j0)), (2, .int (nI m0)), (3, .int (nI y0))]) hx hb dX7_wageOf_78 hl (by decide) rfl (fun ls hl => ?_)
        refine lv_aload_n hx hb dX7_wageOf_80 rfl (lv_at hl 2 rfl) ?_
        refine lv_iload_n hx hb dX7_wageOf_81 rfl (lv_at hl 3 rfl) ?_
        refine lv_iload_n hx hb dX7_wageOf_82 rfl (lv_at hl 4 rfl) ?_
        refine q_goI (q_rV hE lk_X7_173 (c_X7_isCalled l D cI cJ cZ x xf xs xk xp xd xo xn xr xy xi xt xq xb xw xl xm xe zl1_1 zt za zm zc ze zh zi zq zu zv seF kF spF deF pF nm1_2 f1_3 dz1_4 bi j0 m0 (by first | assumption | decide | omega) (by first | assumption | decide | omega) (by first | assumption | decide | omega) (by first | assumption | decide | omega) (by first | assumption | decide | omega) H.size) hst [0, 1, 2, 3, 4, 5, 6, 7, 8, 10] rfl rfl rfl rfl rfl hl.1 ⟨(Nat.le_of_ble_eq_true rfl), (Nat.le_of_ble_eq_true rfl)⟩ (rest := []) rfl (Nat.le_of_ble_eq_true rfl) dX7_wageOf_83 ⟨(Nat.le_of_ble_eq_true rfl), (Nat.le_of_ble_eq_true rfl)⟩) hE hst [0, 1, 2, 3, 4, 5, 6, 7, 8, 10] rfl (fun _ => rfl) (fun (u : Int32 × (Nat → Int32) × (Nat → Int32) × (Nat → Int32)) => [(x, .inr (7, [.ref xf, .ref xs, .ref xk, .ref xp, .ref xd, .ref xo, .ref xn, .ref xr, .ref xy, .ref xi, .int u.1, .long zu, .long zv, .ref xt, .ref xq, .ref xb, .ref xw, .ref xl, .ref xm, .int zt, .int za, .int zm, .int zc, .int ze, .ref xe, .int zh, .int zi, .int zq])), (xs, .inl (cI, 2, .inl seF)), (xk, .inl (cI, 2, .inl (nR kF))), (xp, .inl (cI, 2, .inl (nR spF))), (xd, .inl (cI, 2, .inl (nR deF))), (xo, .inl (cI, 2, .inl (bR pF))), (xn, .inl (cI, 732, .inl u.2.1)), (xr, .inl (cI, 366, .inl u.2.2.1)), (xi, .inl (cZ, 2, .inl u.2.2.2)), (xq, .inl (cI, 60, .inl ki)), (xb, .inl (cI, 60, .inl bi)), (xw, .inl (cI, 60, .inl pa)), (xl, .inl (cI, 5, .inl la))]) (fun _ => rfl) (fun u H locs hF hst => ?_)
        obtain ⟨zl1_33, nm1_34, f1_35, dz1_36⟩ := u
        have hst : SS D A s [(x, .inr (7, [.ref xf, .ref xs, .ref xk, .ref xp, .ref xd, .ref xo, .ref xn, .ref xr, .ref xy, .ref xi, .int zl1_33, .long zu, .long zv, .ref xt, .ref xq, .ref xb, .ref xw, .ref xl, .ref xm, .int zt, .int za, .int zm, .int zc, .int ze, .ref xe, .int zh, .int zi, .int zq])), (xs, .inl (cI, 2, .inl seF)), (xk, .inl (cI, 2, .inl (nR kF))), (xp, .inl (cI, 2, .inl (nR spF))), (xd, .inl (cI, 2, .inl (nR deF))), (xo, .inl (cI, 2, .inl (bR pF))), (xn, .inl (cI, 732, .inl nm1_34)), (xr, .inl (cI, 366, .inl f1_35)), (xi, .inl (cZ, 2, .inl dz1_36)), (xq, .inl (cI, 60, .inl ki)), (xb, .inl (cI, 60, .inl bi)), (xw, .inl (cI, 60, .inl pa)), (xl, .inl (cI, 5, .inl la))] H locs := hst
        have hF : (ckM seF kF spF deF pF nm1_34 dz1_36) := hF
        have hF0_83 := hF
        refine W.eq (g2 := F0 m 86 ls [.int (b2i (calF zc (ndM seF kF spF deF pF j0) bi m0))]) rfl ?_
        refine lv_if_eq (tgt := 102) hx hb dX7_wageOf_86 (by decide) (fun c_86 => ?_) (fun c_86 => ?_)
        · skip
          have c_86 := b2i_f c_86
          refine lv_lload hx hb dX7_wageOf_102 (lv_at hl 0 rfl) ?_
          exact q_retL hQ hE hr hk hst (zl1_33, nm1_34, f1_35, dz1_36) (absurd (c_29.symm.trans c_46) (by decide)) (hF0_83) (rfl) dX7_wageOf_104
        · skip
          have c_86 := b2i_t c_86
          refine lv_lload hx hb dX7_wageOf_89 (lv_at hl 0 rfl) ?_
          refine lv_aload_n hx hb dX7_wageOf_91 rfl (lv_at hl 2 rfl) ?_
          refine gf_X7_53 hE hst 0 rfl rfl dX7_wageOf_92 ?_
          refine lv_iconst (v := 4) hx hb dX7_wageOf_95 (by decide) ?_
          refine q_aldN hE hst 12 rfl 4 (rfl) (by decide) (by decide) dX7_wageOf_96 ?_
          refine lv_i2l (v := (la 4).toInt64) hx hb dX7_wageOf_97 rfl ?_
          refine lv_lsub hx hb dX7_wageOf_98 ?_
          refine lv_goto (tgt := 104) hx hb dX7_wageOf_99 (by decide) ?_
          exact q_retL hQ hE hr hk hst (zl1_33, nm1_34, f1_35, dz1_36) (absurd (c_29.symm.trans c_46) (by decide)) (hF0_83) (rfl) dX7_wageOf_104
