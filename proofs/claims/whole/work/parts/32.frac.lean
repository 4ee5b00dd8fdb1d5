/-! whole numbers behind int and long -/
def iZ (z : Int) : Int32 := Int32.ofInt z
def lZ (z : Int) : Int64 := Int64.ofInt z
def lM (n : Nat) : Int64 := lZ (n : Int)
theorem iZ_n (n : Nat) : nI n = iZ n := (Int32.ofInt_eq_ofNat).symm
theorem iZ_add (a b : Int) : iZ a + iZ b = iZ (a + b) := (Int32.ofInt_add a b).symm
theorem iZ_sub (a b : Int) : iZ a - iZ b = iZ (a - b) := (Int32.ofInt_sub a b).symm
theorem iZ_mul (a b : Int) : iZ a * iZ b = iZ (a * b) := (Int32.ofInt_mul a b).symm
theorem iZ_neg (a : Int) : -iZ a = iZ (-a) := (Int32.ofInt_neg a).symm
theorem lZ_add (a b : Int) : lZ a + lZ b = lZ (a + b) := (Int64.ofInt_add a b).symm
theorem lZ_sub (a b : Int) : lZ a - lZ b = lZ (a - b) := (Int64.ofInt_sub a b).symm
theorem lZ_mul (a b : Int) : lZ a * lZ b = lZ (a * b) := (Int64.ofInt_mul a b).symm
theorem lZ_neg (a : Int) : -lZ a = lZ (-a) := (Int64.ofInt_neg a).symm
theorem iZ_wide {z : Int} (h1 : -2147483648 ≤ z) (h2 : z ≤ 2147483647) : (iZ z).toInt64 = lZ z := Int32.toInt64_ofInt (by rw [Int32.toInt_minValue]; omega) (by rw [Int32.toInt_maxValue]; omega)
theorem nI_wide {n : Nat} (h : n ≤ 2147483647) : (nI n).toInt64 = lM n := by rw [iZ_n]; exact iZ_wide (by omega) (by omega)
theorem lZ_t {z : Int} (h1 : -9223372036854775808 ≤ z) (h2 : z ≤ 9223372036854775807) : (lZ z).toInt = z := Int64.toInt_ofInt_of_le (by omega) (by omega)
theorem lZ_inj {a b : Int} (h1 : -9223372036854775808 ≤ a) (h2 : a ≤ 9223372036854775807) (h3 : -9223372036854775808 ≤ b) (h4 : b ≤ 9223372036854775807) (h : lZ a = lZ b) : a = b := by
  have := congrArg Int64.toInt h
  rwa [lZ_t h1 h2, lZ_t h3 h4] at this
theorem lZ_0 : lZ 0 = 0 := rfl
theorem lZ_1 : lZ 1 = 1 := rfl
theorem lZ_lt {a b : Int} (h1 : -9223372036854775808 ≤ a) (h2 : a ≤ 9223372036854775807) (h3 : -9223372036854775808 ≤ b) (h4 : b ≤ 9223372036854775807) : lZ a < lZ b ↔ a < b := by rw [Int64.lt_iff_toInt_lt, lZ_t h1 h2, lZ_t h3 h4]
theorem lZ_le {a b : Int} (h1 : -9223372036854775808 ≤ a) (h2 : a ≤ 9223372036854775807) (h3 : -9223372036854775808 ≤ b) (h4 : b ≤ 9223372036854775807) : lZ a ≤ lZ b ↔ a ≤ b := by rw [Int64.le_iff_toInt_le, lZ_t h1 h2, lZ_t h3 h4]
theorem lZ_div {a b : Int} (h1 : -9223372036854775808 ≤ a) (h2 : a ≤ 9223372036854775807) (h3 : -9223372036854775808 ≤ b) (h4 : b ≤ 9223372036854775807) : lZ a / lZ b = lZ (a.tdiv b) :=
  (Int64.ofInt_tdiv (by rw [Int64.toInt_minValue]; omega) (by rw [Int64.toInt_maxValue]; omega) (by rw [Int64.toInt_minValue]; omega) (by rw [Int64.toInt_maxValue]; omega)).symm
theorem iZ_div {a b : Int} (h1 : -2147483648 ≤ a) (h2 : a ≤ 2147483647) (h3 : -2147483648 ≤ b) (h4 : b ≤ 2147483647) : iZ a / iZ b = iZ (a.tdiv b) :=
  (Int32.ofInt_tdiv (by rw [Int32.toInt_minValue]; omega) (by rw [Int32.toInt_maxValue]; omega) (by rw [Int32.toInt_minValue]; omega) (by rw [Int32.toInt_maxValue]; omega)).symm
theorem lM_rem {a b : Nat} (ha : a < 9223372036854775808) (hb : b < 9223372036854775808) (h0 : 0 < b) : lM a - lM a / lM b * lM b = lM (a % b) := by
  unfold lM
  rw [lZ_div (by omega) (by omega) (by omega) (by omega), lZ_mul, lZ_sub, ← Int.ofNat_tdiv, ← Int.natCast_mul]
  congr 1
  have h := Nat.div_add_mod a b
  rw [Nat.mul_comm] at h
  omega
theorem lM_0 {d : Nat} (hd : d < 9223372036854775808) (h : lM d = 0) : d = 0 := by
  have := lZ_inj (a := (d : Int)) (b := 0) (by omega) (by omega) (by omega) (by omega) (h.trans lZ_0.symm)
  omega
theorem lM_n0 {d : Nat} (h0 : 0 < d) (hd : d < 9223372036854775808) : ¬ lM d = 0 := fun h => by have := lM_0 hd h; omega
/-! the greatest common divisor -/
def gcdN : Nat → Nat → Nat → Nat
  | 0, g, _ => g
  | n + 1, g, d => if d = 0 then g else gcdN n d (g % d)
def gst : Nat → Nat → Nat → Bool
  | 0, _, d => decide (d = 0)
  | n + 1, g, d => decide (d = 0) || gst n d (g % d)
theorem gst_ok : ∀ (j g d : Nat), d < 2 ^ j → gst (2 * j + 2) g d = true
  | 0, g, d, h => by
    rw [gst, decide_eq_true (show d = 0 by omega), Bool.true_or]
  | j + 1, g, d, h => by
    rw [show 2 * (j + 1) + 2 = (2 * j + 2) + 1 + 1 by omega, gst]
    by_cases h0 : d = 0
    · rw [decide_eq_true h0, Bool.true_or]
    · rw [gst, decide_eq_false h0, Bool.false_or]
      have hr := Nat.mod_lt g (show d > 0 by omega)
      by_cases h1 : g % d = 0
      · rw [decide_eq_true h1, Bool.true_or]
      · rw [gst_ok j (g % d) (d % (g % d)) ?_, Bool.or_true]
        have hp : 2 ^ (j + 1) = 2 * 2 ^ j := by rw [Nat.pow_succ, Nat.mul_comm]
        have hm := Nat.mod_lt d (show g % d > 0 by omega)
        by_cases h2 : 2 * (g % d) ≤ d
        · omega
        · have he : d % (g % d) = d - g % d := by
            rw [Nat.mod_eq_sub_mod (by omega), Nat.mod_eq_of_lt (by omega)]
          omega
theorem gst_0 {n g d : Nat} (h : gst n g d = true) (hd : ¬ d = 0) : ∃ k, n = k + 1 ∧ gst k d (g % d) = true := by
  cases n with
  | zero => rw [gst, decide_eq_false hd] at h; cases h
  | succ k => rw [gst, decide_eq_false hd, Bool.false_or] at h; exact ⟨k, rfl, h⟩
theorem gcdN_0 (n g : Nat) : gcdN n g 0 = g := by
  cases n with
  | zero => rfl
  | succ n => rw [gcdN, if_pos rfl]
theorem gcdN_pos : ∀ (n g d : Nat), (0 < g ∨ 0 < d) → gst n g d = true → 0 < gcdN n g d
  | 0, g, d, h, hs => by rw [gst, decide_eq_true_iff] at hs; rw [gcdN]; omega
  | n + 1, g, d, h, hs => by
    rw [gcdN]
    by_cases h0 : d = 0
    · rw [if_pos h0]; omega
    · rw [if_neg h0]
      obtain ⟨k, hk, hg⟩ := gst_0 hs h0
      rw [show k = n by omega] at hg
      exact gcdN_pos n d (g % d) (Or.inl (by omega)) hg
theorem gcdN_le : ∀ (n g d M : Nat), g ≤ M → d ≤ M → gcdN n g d ≤ M
  | 0, g, d, M, h1, h2 => h1
  | n + 1, g, d, M, h1, h2 => by
    rw [gcdN]
    by_cases h0 : d = 0
    · rw [if_pos h0]; exact h1
    · rw [if_neg h0]; exact gcdN_le n d (g % d) M h2 (by have := Nat.mod_lt g (show d > 0 by omega); omega)
theorem gcdL_N : ∀ (n g d : Nat), g < 9223372036854775808 → d < 9223372036854775808 → gcdL n (lM g) (lM d) = lM (gcdN n g d)
  | 0, g, d, _, _ => rfl
  | n + 1, g, d, hg, hd => by
    rw [gcdL, gcdN]
    by_cases h0 : d = 0
    · rw [if_pos h0, if_pos (by rw [h0]; rfl)]
    · rw [if_neg h0, if_neg (lM_n0 (by omega) hd), lM_rem hg hd (by omega)]
      exact gcdL_N n d (g % d) hd (by have := Nat.mod_lt g (show d > 0 by omega); omega)
theorem absL_Z {z : Int} (h1 : -4611686018427387904 ≤ z) (h2 : z ≤ 4611686018427387904) : absL (lZ z) = lM z.natAbs := by
  have e : 0 < lZ z ↔ 0 < z := by rw [← lZ_0]; exact lZ_lt (by omega) (by omega) (by omega) (by omega)
  unfold absL lM
  rw [lZ_neg]
  by_cases h : 0 < z
  · rw [if_pos (e.mpr h)]; congr 1; omega
  · rw [if_neg (fun q => h (e.mp q))]; congr 1; omega
/-- above and below of a fraction, within bounds -/
def okAB (a b : Int64) : Prop := ∃ ua ub : Int, (-4611686018427387904 ≤ ua ∧ ua ≤ 4611686018427387904) ∧ (-281474976710656 ≤ ub ∧ ub ≤ 281474976710656) ∧ ub ≠ 0 ∧ a = lZ ua ∧ b = lZ ub
theorem gst_ab {ua ub : Int} (h1 : -4611686018427387904 ≤ ua ∧ ua ≤ 4611686018427387904) (h2 : -281474976710656 ≤ ub ∧ ub ≤ 281474976710656) : gst 100 ua.natAbs ub.natAbs = true := gst_ok 49 _ _ (by omega)
theorem divi_ab {ua ub : Int} (h1 : -4611686018427387904 ≤ ua ∧ ua ≤ 4611686018427387904) (h2 : -281474976710656 ≤ ub ∧ ub ≤ 281474976710656) : divi (lZ ua) (lZ ub) = lM (gcdN 100 ua.natAbs ub.natAbs) := by
  unfold divi
  rw [absL_Z h1.1 h1.2, absL_Z (by omega) (by omega), gcdL_N _ _ _ (by omega) (by omega)]
theorem gcd_le {ua ub : Int} (h1 : -4611686018427387904 ≤ ua ∧ ua ≤ 4611686018427387904) (h2 : -281474976710656 ≤ ub ∧ ub ≤ 281474976710656) : gcdN 100 ua.natAbs ub.natAbs ≤ 4611686018427387904 := gcdN_le _ _ _ _ (by omega) (by omega)
theorem gcd_pos {ua ub : Int} (h1 : -4611686018427387904 ≤ ua ∧ ua ≤ 4611686018427387904) (h2 : -281474976710656 ≤ ub ∧ ub ≤ 281474976710656) (h0 : ub ≠ 0) : 0 < gcdN 100 ua.natAbs ub.natAbs := gcdN_pos _ _ _ (Or.inr (by omega)) (gst_ab h1 h2)
theorem ub_n0 {ua ub : Int} (h1 : -4611686018427387904 ≤ ua ∧ ua ≤ 4611686018427387904) (h2 : -281474976710656 ≤ ub ∧ ub ≤ 281474976710656) (h0 : ub ≠ 0) : ¬ lZ ub = 0 := fun h => h0 (lZ_inj (by omega) (by omega) (by omega) (by omega) (h.trans lZ_0.symm))
theorem bec_eq {ua ub : Int} (h1 : -4611686018427387904 ≤ ua ∧ ua ≤ 4611686018427387904) (h2 : -281474976710656 ≤ ub ∧ ub ≤ 281474976710656) (h0 : ub ≠ 0) {g : Nat} (hg : gcdN 100 ua.natAbs ub.natAbs = g) : becA (lZ ua) (lZ ub) = (if 0 ≤ lZ ub then 1 else -1) * (lZ ua / lM g) ∧ becB (lZ ua) (lZ ub) = (if 0 ≤ lZ ub then 1 else -1) * (lZ ub / lM g) := by
  have hp := gcd_pos h1 h2 h0
  have hl := gcd_le h1 h2
  rw [becA, becB, divi_ab h1 h2, hg] 
  rw [hg] at hp hl
  rw [if_neg (ub_n0 h1 h2 h0), if_neg (ub_n0 h1 h2 h0), if_neg (lM_n0 hp (by omega)), if_neg (lM_n0 hp (by omega))]
  exact ⟨rfl, rfl⟩
theorem bec_t {ua ub : Int} (h1 : -4611686018427387904 ≤ ua ∧ ua ≤ 4611686018427387904) (h2 : -281474976710656 ≤ ub ∧ ub ≤ 281474976710656) (h0 : ub ≠ 0) {g : Nat} (hg : gcdN 100 ua.natAbs ub.natAbs = g) (hb : 0 ≤ lZ ub) : becA (lZ ua) (lZ ub) = lZ ua / lM g ∧ becB (lZ ua) (lZ ub) = lZ ub / lM g := by
  obtain ⟨e1, e2⟩ := bec_eq h1 h2 h0 hg
  rw [e1, e2, if_pos hb, Int64.one_mul, Int64.one_mul]
  exact ⟨rfl, rfl⟩
theorem bec_f {ua ub : Int} (h1 : -4611686018427387904 ≤ ua ∧ ua ≤ 4611686018427387904) (h2 : -281474976710656 ≤ ub ∧ ub ≤ 281474976710656) (h0 : ub ≠ 0) {g : Nat} (hg : gcdN 100 ua.natAbs ub.natAbs = g) (hb : ¬ 0 ≤ lZ ub) : becA (lZ ua) (lZ ub) = -lZ ua / lM g ∧ becB (lZ ua) (lZ ub) = -lZ ub / lM g := by
  obtain ⟨e1, e2⟩ := bec_eq h1 h2 h0 hg
  have hl := gcd_le h1 h2
  rw [hg] at hl
  rw [e1, e2, if_neg hb]
  have k : ∀ z : Int, -4611686018427387904 ≤ z → z ≤ 4611686018427387904 → (-1 : Int64) * (lZ z / lM g) = -lZ z / lM g := by
    intro z z1 z2
    unfold lM
    rw [lZ_neg, lZ_div (by omega) (by omega) (by omega) (by omega), lZ_div (by omega) (by omega) (by omega) (by omega), show (-1 : Int64) = lZ (-1) from rfl, lZ_mul, Int.neg_tdiv]
    congr 1
    omega
  exact ⟨k ua h1.1 h1.2, k ub (by omega) (by omega)⟩
theorem bec_val {ua ub : Int} (h1 : -4611686018427387904 ≤ ua ∧ ua ≤ 4611686018427387904) (h2 : -281474976710656 ≤ ub ∧ ub ≤ 281474976710656) (h0 : ub ≠ 0) : ∃ za zb : Int, becA (lZ ua) (lZ ub) = lZ za ∧ becB (lZ ua) (lZ ub) = lZ zb ∧ za.natAbs ≤ ua.natAbs ∧ zb.natAbs ≤ ub.natAbs ∧ 0 < zb := by
  have hp := gcd_pos h1 h2 h0
  have hl := gcd_le h1 h2
  have hx := bec_eq h1 h2 h0 rfl
  have hdv : gcdN 100 ua.natAbs ub.natAbs ∣ ub.natAbs := by
    have : ∀ (n g d : Nat), gst n g d = true → gcdN n g d ∣ g ∧ gcdN n g d ∣ d := by
      intro n
      induction n with
      | zero => intro g d h; rw [gst, decide_eq_true_iff] at h; rw [gcdN, h]; exact ⟨Nat.dvd_refl _, Nat.dvd_zero _⟩
      | succ n ih =>
        intro g d h
        rw [gcdN]
        by_cases h0 : d = 0
        · rw [if_pos h0, h0]; exact ⟨Nat.dvd_refl _, Nat.dvd_zero _⟩
        · rw [if_neg h0]
          obtain ⟨k, hk, hg⟩ := gst_0 h h0
          rw [show k = n by omega] at hg
          obtain ⟨a1, a2⟩ := ih d (g % d) hg
          exact ⟨(Nat.dvd_mod_iff a1).mp a2, a1⟩
    exact (this 100 _ _ (gst_ab h1 h2)).2
  revert hx hp hl hdv
  generalize gcdN 100 ua.natAbs ub.natAbs = g
  intro hp hl hx hdv
  have kd : ∀ z : Int, (z.tdiv (g : Int)).natAbs = z.natAbs / g := fun z => by rw [Int.natAbs_tdiv]; rfl
  have kl : ∀ z : Int, (z.tdiv (g : Int)).natAbs ≤ z.natAbs := fun z => by rw [kd]; exact Nat.div_le_self _ _
  have kp : 0 < ub.natAbs / g := Nat.div_pos (Nat.le_of_dvd (by omega) hdv) hp
  rw [hx.1, hx.2, show lM g = lZ (g : Int) from rfl, lZ_div (by omega) (by omega) (by omega) (by omega), lZ_div (by omega) (by omega) (by omega) (by omega)]
  have e : 0 ≤ lZ ub ↔ 0 ≤ ub := by rw [← lZ_0]; exact lZ_le (by omega) (by omega) (by omega) (by omega)
  have k1 := kl ua
  have k2 := kl ub
  have k3 := kd ub
  by_cases hb : 0 ≤ ub
  · rw [if_pos (e.mpr hb), Int64.one_mul, Int64.one_mul]
    refine ⟨_, _, rfl, rfl, k1, k2, ?_⟩
    have := Int.tdiv_nonneg hb (show (0 : Int) ≤ (g : Int) by omega)
    omega
  · rw [if_neg (fun q => hb (e.mp q)), show (-1 : Int64) = lZ (-1) from rfl, lZ_mul, lZ_mul]
    refine ⟨_, _, rfl, rfl, by omega, by omega, ?_⟩
    have := Int.tdiv_nonneg (a := -ub) (by omega) (show (0 : Int) ≤ (g : Int) by omega)
    rw [Int.neg_tdiv] at this
    omega
theorem abs_t {z : Int} (h1 : -4611686018427387904 ≤ z) (h2 : z ≤ 4611686018427387904) (h : 0 ≤ lZ z) : lM z.natAbs = lZ z := by
  rw [← absL_Z h1 h2, absL_t h]
theorem abs_f {z : Int} (h1 : -4611686018427387904 ≤ z) (h2 : z ≤ 4611686018427387904) (h : ¬ 0 ≤ lZ z) : lM z.natAbs = -lZ z := by
  rw [← absL_Z h1 h2, absL_f h]
set_option maxHeartbeats 4000000 in
set_option maxRecDepth 100000 in
theorem c_X7_lessens (l : Launch) (D : va_G) (cI cJ cZ : ClassId) (x : Nat) (xf : Nat) (xs : Nat) (xk : Nat) (xp : Nat) (xd : Nat) (xo : Nat) (xn : Nat) (xr : Nat) (xy : Nat) (xi : Nat) (xt : Nat) (xq : Nat) (xb : Nat) (xw : Nat) (xl : Nat) (xm : Nat) (xe : Nat) (zl : Int32) (zt : Int32) (za : Int32) (zm : Int32) (zc : Int32) (ze : Int32) (zh : Int32) (zi : Int32) (zq : Int32) (zu : Int64) (zv : Int64) (a0 : Int64) (b0 : Int64) (hab : okAB a0 b0) : CtV l D cI cJ cZ yX7_lessens cX7_lessens 11 none 0 0 0 [.ref x, .long a0, .long b0] [(x, .inr (7, [.ref xf, .ref xs, .ref xk, .ref xp, .ref xd, .ref xo, .ref xn, .ref xr, .ref xy, .ref xi, .int zl, .long zu, .long zv, .ref xt, .ref xq, .ref xb, .ref xw, .ref xl, .ref xm, .int zt, .int za, .int zm, .int zc, .int ze, .ref xe, .int zh, .int zi, .int zq]))] (fun (_ : Unit) => True) (fun (_ : Unit) => [(x, .inr (7, [.ref xf, .ref xs, .ref xk, .ref xp, .ref xd, .ref xo, .ref xn, .ref xr, .ref xy, .ref xi, .int zl, .long (becA a0 b0), .long (becB a0 b0), .ref xt, .ref xq, .ref xb, .ref xw, .ref xl, .ref xm, .int zt, .int za, .int zm, .int zc, .int ze, .ref xe, .int zh, .int zi, .int zq]))]) := by
  refine q_entV (own := RX7) rfl rfl (Nat.le_of_ble_eq_true rfl) ?_
  intro p e s m args below meth c A ls QQ hQ hE hx hb hr hk hin hA hl hst
  have hl : lv_has ls 11 [(0, .ref x), (1, .long a0), (3, .long b0)] := hl
  obtain ⟨ua, ub, ha, hbb, h0, rfl, rfl⟩ := hab
  have loop_28 : ∀ (fu : Nat) (kq : Nat) (g : Nat) (d : Nat), (kq ≤ 100) → (gst (100 - kq) g d = true) → (gcdN 100 ua.natAbs ub.natAbs = gcdN (100 - kq) g d) → (g < 9223372036854775808) → (d < 9223372036854775808) → (101 - kq) < fu → ∀ (H : Heap) (locs : List Loc) (ls : Array Slot), SS D A s [(x, .inr (7, [.ref xf, .ref xs, .ref xk, .ref xp, .ref xd, .ref xo, .ref xn, .ref xr, .ref xy, .ref xi, .int zl, .long zu, .long zv, .ref xt, .ref xq, .ref xb, .ref xw, .ref xl, .ref xm, .int zt, .int za, .int zm, .int zc, .int ze, .ref xe, .int zh, .int zi, .int zq]))] H locs → lv_has ls 11 [(5, .long (lM g)), (7, .long (lM d)), (0, .ref x), (1, .long (lZ ua)), (3, .long (lZ ub))] → W p l e (rmN 0 0 0) s m args below meth c H locs 0 0 QQ (F0 m 28 ls []) := by
    intro fu
    induction fu with
    | zero =>
      intro kq g d h1 hg he b1 b2 hn
      exact absurd hn (Nat.not_lt_zero _)
    | succ fu ih =>
      intro kq g d h1 hg he b1 b2 hn H locs ls hst hl
      refine lv_lload hx hb dX7_lessens_28 (lv_at hl 1 rfl) ?_
      refine lv_lconst (v := 0) hx hb dX7_lessens_30 (by decide) ?_
      refine W.lcmp hx hb dX7_lessens_31 ?_
      refine lv_if_eq (tgt := 53) hx hb dX7_lessens_32 (by decide) (fun c_32 => ?_) (fun c_32 => ?_)
      · skip
        have c_32 := lc_eq.mp c_32
        have hd0 := lM_0 b2 c_32
        rw [hd0, gcdN_0] at he
        have hgp := gcd_pos ha hbb h0
        have hgl := gcd_le ha hbb
        rw [he] at hgp hgl
        have hgn := lM_n0 hgp (by omega)
        refine lv_aload_n hx hb dX7_lessens_53 rfl (lv_at hl 2 rfl) ?_
        suffices kJ : ∀ (H : Heap) (locs : List Loc), SS D A s [(x, .inr (7, [.ref xf, .ref xs, .ref xk, .ref xp, .ref xd, .ref xo, .ref xn, .ref xr, .ref xy, .ref xi, .int zl, .long zu, .long zv, .ref xt, .ref xq, .ref xb, .ref xw, .ref xl, .ref xm, .int zt, .int za, .int zm, .int zc, .int ze, .ref xe, .int zh, .int zi, .int zq]))] H locs → W p l e (rmN 0 0 0) s m args below meth c H locs 0 0 QQ (F0 m 72 ls [.long (becA (lZ ua) (lZ ub)), .ref x]) by
          refine lv_lload_n hx hb dX7_lessens_54 rfl (lv_at hl 4 rfl) ?_
          refine lv_lconst (v := 0) hx hb dX7_lessens_55 (by decide) ?_
          refine W.lcmp hx hb dX7_lessens_56 ?_
          refine lv_if_ge (tgt := 68) hx hb dX7_lessens_57 (by decide) (fun c_57 => ?_) (fun c_57 => ?_)
          · skip
            have c_57 := lc_ge.mp c_57
            refine lv_lload_n hx hb dX7_lessens_68 rfl (lv_at hl 3 rfl) ?_
            refine lv_lload hx hb dX7_lessens_69 (lv_at hl 0 rfl) ?_
            refine lv_ldiv hx hb dX7_lessens_71 (hgn) ?_
            have kJ := kJ _ _ hst
            rw [show (becA (lZ ua) (lZ ub)) = (lZ ua) / (lM g) from (bec_t ha hbb h0 he c_57).1] at kJ
            exact kJ
          · skip
            have c_57 := (not_congr lc_ge).mp c_57
            refine lv_lload_n hx hb dX7_lessens_60 rfl (lv_at hl 3 rfl) ?_
            refine lv_lneg hx hb dX7_lessens_61 ?_
            refine lv_lload hx hb dX7_lessens_62 (lv_at hl 0 rfl) ?_
            refine lv_ldiv hx hb dX7_lessens_64 (hgn) ?_
            refine lv_goto (tgt := 72) hx hb dX7_lessens_65 (by decide) ?_
            have kJ := kJ _ _ hst
            rw [show (becA (lZ ua) (lZ ub)) = (-(lZ ua)) / (lM g) from (bec_f ha hbb h0 he c_57).1] at kJ
            exact kJ
        intro H locs hst
        refine pf_X7_111 hE hst 0 rfl (rfl) (rfl) (Nat.le_of_ble_eq_true rfl) [(x, .inr (7, [.ref xf, .ref xs, .ref xk, .ref xp, .ref xd, .ref xo, .ref xn, .ref xr, .ref xy, .ref xi, .int zl, .long (becA (lZ ua) (lZ ub)), .long zv, .ref xt, .ref xq, .ref xb, .ref xw, .ref xl, .ref xm, .int zt, .int za, .int zm, .int zc, .int ze, .ref xe, .int zh, .int zi, .int zq]))] rfl dX7_lessens_72 (fun H locs hst => ?_)
        refine lv_aload_n hx hb dX7_lessens_75 rfl (lv_at hl 2 rfl) ?_
        suffices kJ : ∀ (H : Heap) (locs : List Loc), SS D A s [(x, .inr (7, [.ref xf, .ref xs, .ref xk, .ref xp, .ref xd, .ref xo, .ref xn, .ref xr, .ref xy, .ref xi, .int zl, .long (becA (lZ ua) (lZ ub)), .long zv, .ref xt, .ref xq, .ref xb, .ref xw, .ref xl, .ref xm, .int zt, .int za, .int zm, .int zc, .int ze, .ref xe, .int zh, .int zi, .int zq]))] H locs → W p l e (rmN 0 0 0) s m args below meth c H locs 0 0 QQ (F0 m 94 ls [.long (becB (lZ ua) (lZ ub)), .ref x]) by
          refine lv_lload_n hx hb dX7_lessens_76 rfl (lv_at hl 4 rfl) ?_
          refine lv_lconst (v := 0) hx hb dX7_lessens_77 (by decide) ?_
          refine W.lcmp hx hb dX7_lessens_78 ?_
          refine lv_if_ge (tgt := 90) hx hb dX7_lessens_79 (by decide) (fun c_79 => ?_) (fun c_79 => ?_)
          · skip
            have c_79 := lc_ge.mp c_79
            refine lv_lload_n hx hb dX7_lessens_90 rfl (lv_at hl 4 rfl) ?_
            refine lv_lload hx hb dX7_lessens_91 (lv_at hl 0 rfl) ?_
            refine lv_ldiv hx hb dX7_lessens_93 (hgn) ?_
            have kJ := kJ _ _ hst
            rw [show (becB (lZ ua) (lZ ub)) = (lZ ub) / (lM g) from (bec_t ha hbb h0 he c_79).2] at kJ
            exact kJ
          · skip
            have c_79 := (not_congr lc_ge).mp c_79
            refine lv_lload_n hx hb dX7_lessens_82 rfl (lv_at hl 4 rfl) ?_
            refine lv_lneg hx hb dX7_lessens_83 ?_
            refine lv_lload hx hb dX7_lessens_84 (lv_at hl 0 rfl) ?_
            refine lv_ldiv hx hb dX7_lessens_86 (hgn) ?_
            refine lv_goto (tgt := 94) hx hb dX7_lessens_87 (by decide) ?_
            have kJ := kJ _ _ hst
            rw [show (becB (lZ ua) (lZ ub)) = (-(lZ ub)) / (lM g) from (bec_f ha hbb h0 he c_79).2] at kJ
            exact kJ
        intro H locs hst
        refine pf_X7_115 hE hst 0 rfl (rfl) (rfl) (Nat.le_of_ble_eq_true rfl) [(x, .inr (7, [.ref xf, .ref xs, .ref xk, .ref xp, .ref xd, .ref xo, .ref xn, .ref xr, .ref xy, .ref xi, .int zl, .long (becA (lZ ua) (lZ ub)), .long (becB (lZ ua) (lZ ub)), .ref xt, .ref xq, .ref xb, .ref xw, .ref xl, .ref xm, .int zt, .int za, .int zm, .int zc, .int ze, .ref xe, .int zh, .int zi, .int zq]))] rfl dX7_lessens_94 (fun H locs hst => ?_)
        exact q_retV hQ hE hr hk hst () (trivial) (rfl) dX7_lessens_97
      · skip
        have c_32 := (not_congr lc_eq).mp c_32
        have hd0 : ¬ d = 0 := fun z => c_32 (by rw [z]; rfl)
        obtain ⟨k1, ek1, hg1⟩ := gst_0 hg hd0
        refine lv_lload hx hb dX7_lessens_35 (lv_at hl 0 rfl) ?_
        refine lv_lload hx hb dX7_lessens_37 (lv_at hl 1 rfl) ?_
        refine lv_lrem hx hb dX7_lessens_39 (c_32) ?_
        refine q_topL (x' := lM (g % d)) (lM_rem b1 b2 (by omega)) ?_
        refine lv_lstore (lv' := [(9, .long (lM (g % d))), (5, .long (lM g)), (7, .long (lM d)), (0, .ref x), (1, .long (lZ ua)), (3, .long (lZ ub))]) hx hb dX7_lessens_40 hl (by decide) rfl (fun ls hl => ?_)
        refine lv_lload hx hb dX7_lessens_42 (lv_at hl 2 rfl) ?_
        refine lv_lstore (lv' := [(5, .long (lM d)), (9, .long (lM (g % d))), (7, .long (lM d)), (0, .ref x), (1, .long (lZ ua)), (3, .long (lZ ub))]) hx hb dX7_lessens_44 hl (by decide) rfl (fun ls hl => ?_)
        refine lv_lload hx hb dX7_lessens_46 (lv_at hl 1 rfl) ?_
        refine lv_lstore (lv' := [(7, .long (lM (g % d))), (5, .long (lM d)), (9, .long (lM (g % d))), (0, .ref x), (1, .long (lZ ua)), (3, .long (lZ ub))]) hx hb dX7_lessens_48 hl (by decide) rfl (fun ls hl => ?_)
        refine lv_goto (tgt := 28) hx hb dX7_lessens_50 (by decide) ?_
        exact ih (kq + 1) d (g % d) (by omega) (by rw [show 100 - (kq + 1) = k1 by omega]; exact hg1) (by rw [he, ek1, show 100 - (kq + 1) = k1 by omega, gcdN, if_neg hd0]) (b2) (by have := Nat.mod_lt g (show d > 0 by omega); omega) (by omega) _ _ _ (hst) (lv_sub hl [1, 0, 3, 4, 5] rfl)
  suffices kJ : ∀ (H : Heap) (locs : List Loc), SS D A s [(x, .inr (7, [.ref xf, .ref xs, .ref xk, .ref xp, .ref xd, .ref xo, .ref xn, .ref xr, .ref xy, .ref xi, .int zl, .long zu, .long zv, .ref xt, .ref xq, .ref xb, .ref xw, .ref xl, .ref xm, .int zt, .int za, .int zm, .int zc, .int ze, .ref xe, .int zh, .int zi, .int zq]))] H locs → W p l e (rmN 0 0 0) s m args below meth c H locs 0 0 QQ (F0 m 12 ls [.long (lM ua.natAbs)]) by
    refine lv_lload_n hx hb dX7_lessens_0 rfl (lv_at hl 1 rfl) ?_
    refine lv_lconst (v := 0) hx hb dX7_lessens_1 (by decide) ?_
    refine W.lcmp hx hb dX7_lessens_2 ?_
    refine lv_if_ge (tgt := 11) hx hb dX7_lessens_3 (by decide) (fun c_3 => ?_) (fun c_3 => ?_)
    · skip
      have c_3 := lc_ge.mp c_3
      refine lv_lload_n hx hb dX7_lessens_11 rfl (lv_at hl 1 rfl) ?_
      have kJ := kJ _ _ hst
      rw [show (lM ua.natAbs) = lZ ua from abs_t ha.1 ha.2 c_3] at kJ
      exact kJ
    · skip
      have c_3 := (not_congr lc_ge).mp c_3
      refine lv_lload_n hx hb dX7_lessens_6 rfl (lv_at hl 1 rfl) ?_
      refine lv_lneg hx hb dX7_lessens_7 ?_
      refine lv_goto (tgt := 12) hx hb dX7_lessens_8 (by decide) ?_
      have kJ := kJ _ _ hst
      rw [show (lM ua.natAbs) = -(lZ ua) from abs_f ha.1 ha.2 c_3] at kJ
      exact kJ
  intro H locs hst
  refine lv_lstore (lv' := [(5, .long (lM ua.natAbs)), (0, .ref x), (1, .long (lZ ua)), (3, .long (lZ ub))]) hx hb dX7_lessens_12 hl (by decide) rfl (fun ls hl => ?_)
  suffices kJ : ∀ (H : Heap) (locs : List Loc), SS D A s [(x, .inr (7, [.ref xf, .ref xs, .ref xk, .ref xp, .ref xd, .ref xo, .ref xn, .ref xr, .ref xy, .ref xi, .int zl, .long zu, .long zv, .ref xt, .ref xq, .ref xb, .ref xw, .ref xl, .ref xm, .int zt, .int za, .int zm, .int zc, .int ze, .ref xe, .int zh, .int zi, .int zq]))] H locs → W p l e (rmN 0 0 0) s m args below meth c H locs 0 0 QQ (F0 m 26 ls [.long (lM ub.natAbs)]) by
    refine lv_lload_n hx hb dX7_lessens_14 rfl (lv_at hl 3 rfl) ?_
    refine lv_lconst (v := 0) hx hb dX7_lessens_15 (by decide) ?_
    refine W.lcmp hx hb dX7_lessens_16 ?_
    refine lv_if_ge (tgt := 25) hx hb dX7_lessens_17 (by decide) (fun c_17 => ?_) (fun c_17 => ?_)
    · skip
      have c_17 := lc_ge.mp c_17
      refine lv_lload_n hx hb dX7_lessens_25 rfl (lv_at hl 3 rfl) ?_
      have kJ := kJ _ _ hst
      rw [show (lM ub.natAbs) = lZ ub from abs_t (by omega) (by omega) c_17] at kJ
      exact kJ
    · skip
      have c_17 := (not_congr lc_ge).mp c_17
      refine lv_lload_n hx hb dX7_lessens_20 rfl (lv_at hl 3 rfl) ?_
      refine lv_lneg hx hb dX7_lessens_21 ?_
      refine lv_goto (tgt := 26) hx hb dX7_lessens_22 (by decide) ?_
      have kJ := kJ _ _ hst
      rw [show (lM ub.natAbs) = -(lZ ub) from abs_f (by omega) (by omega) c_17] at kJ
      exact kJ
  intro H locs hst
  refine lv_lstore (lv' := [(7, .long (lM ub.natAbs)), (5, .long (lM ua.natAbs)), (0, .ref x), (1, .long (lZ ua)), (3, .long (lZ ub))]) hx hb dX7_lessens_26 hl (by decide) rfl (fun ls hl => ?_)
  exact loop_28 (102) 0 ua.natAbs ub.natAbs (by decide) (gst_ab ha hbb) (rfl) (by omega) (by omega) (by decide) _ _ _ (hst) (lv_sub hl [1, 0, 2, 3, 4] rfl)
