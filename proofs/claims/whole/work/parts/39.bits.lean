/-! turned pairs: counting bits is counting days -/
def pcB (f : Nat → Bool) : Nat → Nat
  | 0 => 0
  | k + 1 => if f k = true then pcB f k + 1 else pcB f k
theorem pcB_ext {f g : Nat → Bool} : ∀ k, (∀ i, i < k → f i = g i) → pcB f k = pcB g k
  | 0, _ => rfl
  | k + 1, h => by rw [pcB, pcB, h k (by omega), pcB_ext k (fun i hi => h i (by omega))]
theorem pcB_0 {f : Nat → Bool} : ∀ k, (∀ i, i < k → f i = false) → pcB f k = 0
  | 0, _ => rfl
  | k + 1, h => by rw [pcB, if_neg (by rw [h k (by omega)]; decide), pcB_0 k (fun i hi => h i (by omega))]
theorem pcB_add (f : Nat → Bool) (a : Nat) : ∀ b, pcB f (a + b) = pcB f a + pcB (fun i => f (a + i)) b
  | 0 => rfl
  | b + 1 => by
    rw [← Nat.add_assoc, pcB, pcB, pcB_add f a b]
    by_cases h : f (a + b) = true
    · rw [if_pos h, if_pos h]; omega
    · rw [if_neg h, if_neg h]
theorem pcB_set {f g : Nat → Bool} {q : Nat} : ∀ k, q < k → f q = false → (∀ i, i < k → g i = (f i || decide (i = q))) → pcB g k = pcB f k + 1
  | 0, h, _, _ => absurd h (Nat.not_lt_zero _)
  | k + 1, h, h0, hg => by
    rw [pcB, pcB, hg k (by omega)]
    by_cases e : k = q
    · subst e
      rw [h0, decide_eq_true rfl, if_pos (show (false || true) = true from rfl), if_neg (show ¬ false = true by decide), pcB_ext (f := g) (g := f) k (fun i hi => by rw [hg i (by omega), decide_eq_false (by omega), Bool.or_false])]
    · rw [decide_eq_false e, Bool.or_false, pcB_set k (by omega) h0 (fun i hi => hg i (by omega))]
      by_cases h2 : f k = true
      · rw [if_pos h2, if_pos h2]
      · rw [if_neg h2, if_neg h2]
/-! by bytes -/
def repM (q : Nat) : Nat → Nat
  | 0 => 0
  | k + 1 => q + 256 * repM q k
theorem and_spl {a q A M : Nat} (ha : a < 256) (hq : q < 256) : (a + 256 * A) &&& (q + 256 * M) = (a &&& q) + 256 * (A &&& M) := by
  apply Nat.eq_of_testBit_eq
  intro i
  rw [Nat.testBit_and, Nat.add_comm a, Nat.add_comm q, Nat.add_comm (a &&& q), show (256 : Nat) = 2 ^ 8 from rfl, Nat.testBit_two_pow_mul_add _ ha, Nat.testBit_two_pow_mul_add _ hq, Nat.testBit_two_pow_mul_add _ (Nat.lt_of_le_of_lt Nat.and_le_left ha)]
  by_cases h : i < 8
  · rw [if_pos h, if_pos h, if_pos h, Nat.testBit_and]
  · rw [if_neg h, if_neg h, if_neg h, Nat.testBit_and]
theorem shr_spl {a q A M s : Nat} (ha : a < 256) (hs : s < 8) (hq : q < 2 ^ (8 - s)) : ((a + 256 * A) >>> s) &&& (q + 256 * M) = ((a >>> s) &&& q) + 256 * ((A >>> s) &&& M) := by
  have hq8 : q < 2 ^ 8 := Nat.lt_of_lt_of_le hq (Nat.pow_le_pow_right (by decide) (by omega))
  have hl : (a >>> s) &&& q < 2 ^ 8 := Nat.lt_of_le_of_lt Nat.and_le_right hq8
  apply Nat.eq_of_testBit_eq
  intro i
  rw [Nat.testBit_and, Nat.testBit_shiftRight, Nat.add_comm a, Nat.add_comm q, Nat.add_comm ((a >>> s) &&& q), show (256 : Nat) = 2 ^ 8 from rfl, Nat.testBit_two_pow_mul_add _ ha, Nat.testBit_two_pow_mul_add _ hq8, Nat.testBit_two_pow_mul_add _ hl]
  by_cases h : i < 8
  · rw [if_pos h, if_pos h, Nat.testBit_and, Nat.testBit_shiftRight]
    by_cases h2 : s + i < 8
    · rw [if_pos h2]
    · rw [if_neg h2, Nat.testBit_lt_two_pow (Nat.lt_of_lt_of_le hq (Nat.pow_le_pow_right (by decide) (by omega))), Bool.and_false, Bool.and_false]
  · rw [if_neg h, if_neg h, if_neg (by omega), Nat.testBit_and, Nat.testBit_shiftRight, show s + i - 8 = s + (i - 8) by omega]
def byT (a : Nat) : Nat := a - ((a >>> 1) &&& 85)
def byU (a : Nat) : Nat := (byT a &&& 51) + ((byT a >>> 2) &&& 51)
def byP (a : Nat) : Nat := pcB (fun i => a.testBit i) 8
theorem by_all : ∀ a, a < 256 → (a >>> 1) &&& 85 ≤ a ∧ byT a < 256 ∧ byU a ≤ 68 ∧ byU a % 16 ≤ 4 ∧ (byU a + byU a / 16) % 16 = byP a ∧ byP a ≤ 8 := by decide +kernel
def w1N (k X : Nat) : Nat := X - ((X >>> 1) &&& repM 85 k)
def w2N (k X : Nat) : Nat := (X &&& repM 51 k) + ((X >>> 2) &&& repM 51 k)
def w3N (k X : Nat) : Nat := (X + X >>> 4) &&& repM 15 k
def hN (k : Nat) (X : Nat) : Nat := match k with
  | 0 => 0
  | k + 1 => byU (X % 256) + 256 * hN k (X / 256)
def kN (k : Nat) (X : Nat) : Nat := match k with
  | 0 => 0
  | k + 1 => byP (X % 256) + 256 * kN k (X / 256)
theorem w1_s (k : Nat) {a A : Nat} (ha : a < 256) : w1N (k + 1) (a + 256 * A) = byT a + 256 * w1N k A := by
  have h1 := (by_all a ha).1
  have h2 : (A >>> 1) &&& repM 85 k ≤ A := Nat.le_trans Nat.and_le_left (by rw [Nat.shiftRight_eq_div_pow]; exact Nat.div_le_self _ _)
  unfold w1N byT
  rw [repM, shr_spl ha (by decide) (by decide)]
  omega
theorem w2_s (k : Nat) {a A : Nat} (ha : a < 256) : w2N (k + 1) (a + 256 * A) = ((a &&& 51) + ((a >>> 2) &&& 51)) + 256 * w2N k A := by
  unfold w2N
  rw [repM, shr_spl ha (by decide) (by decide), and_spl ha (by decide)]
  omega
theorem w3_s (k : Nat) {a A : Nat} (ha : a ≤ 68) (hA : A % 16 ≤ 4) : w3N (k + 1) (a + 256 * A) = (a + a / 16) % 16 + 256 * w3N k A := by
  unfold w3N
  have e : a + 256 * A + (a + 256 * A) >>> 4 = (a + a / 16 + 16 * (A % 16)) + 256 * (A + A >>> 4) := by
    rw [Nat.shiftRight_eq_div_pow, Nat.shiftRight_eq_div_pow]
    omega
  rw [e, repM, and_spl (by omega) (by decide), show (15 : Nat) = 2 ^ 4 - 1 from rfl, Nat.and_two_pow_sub_one_eq_mod]
  congr 1
  omega
theorem w12 : ∀ k X, X < 256 ^ k → w2N k (w1N k X) = hN k X
  | 0, X, h => by
    have : X = 0 := by simpa using h
    subst this; rfl
  | k + 1, X, h => by
    have ha : X % 256 < 256 := Nat.mod_lt _ (by decide)
    have hd : X / 256 < 256 ^ k := by rw [Nat.pow_succ] at h; exact Nat.div_lt_of_lt_mul (by rw [Nat.mul_comm]; exact h)
    have e : X = X % 256 + 256 * (X / 256) := (Nat.mod_add_div X 256).symm
    have e2 : w1N (k + 1) X = byT (X % 256) + 256 * w1N k (X / 256) := by
      have := w1_s k (A := X / 256) ha
      rw [← e] at this; exact this
    rw [e2, w2_s k (by_all _ ha).2.1, w12 k _ hd, hN]
    rfl
theorem hN_16 (k X : Nat) : hN k X % 16 ≤ 4 := by
  cases k with
  | zero => rw [hN]; decide
  | succ k =>
    have := (by_all (X % 256) (Nat.mod_lt _ (by decide))).2.2.2.1
    rw [hN]
    omega
theorem w3h : ∀ k X, w3N k (hN k X) = kN k X
  | 0, X => by rw [hN, kN, w3N, repM]; rfl
  | k + 1, X => by
    have h := by_all (X % 256) (Nat.mod_lt _ (by decide))
    rw [hN, w3_s k h.2.2.1 (hN_16 k _), w3h k, h.2.2.2.2.1, kN]
def s8N (k X : Nat) : Nat := match k with
  | 0 => 0
  | k + 1 => byP (X % 256) + s8N k (X / 256)
theorem pcB_s8 : ∀ k X, pcB (fun i => X.testBit i) (8 * k) = s8N k X
  | 0, _ => rfl
  | k + 1, X => by
    rw [show 8 * (k + 1) = 8 + 8 * k by omega, pcB_add, s8N, ← pcB_s8 k]
    congr 1
    · exact pcB_ext 8 (fun i hi => by rw [show (256 : Nat) = 2 ^ 8 from rfl, Nat.testBit_mod_two_pow, decide_eq_true hi, Bool.true_and])
    · exact pcB_ext _ (fun i hi => by rw [show (256 : Nat) = 2 ^ 8 from rfl, Nat.testBit_div_two_pow, Nat.add_comm])
theorem dvq {X r q B : Nat} (h : X = r + B * q) (hr : r < B) : X / B = q := by
  subst h
  rw [Nat.add_mul_div_left _ _ (by omega), Nat.div_eq_of_lt hr, Nat.zero_add]
theorem f8Z (a0 a1 a2 a3 a4 a5 a6 a7 : Nat) : a0 + 256 * (a1 + 256 * (a2 + 256 * (a3 + 256 * (a4 + 256 * (a5 + 256 * (a6 + 256 * (a7 + 256 * 0))))))) + (a1 + 256 * (a2 + 256 * (a3 + 256 * (a4 + 256 * (a5 + 256 * (a6 + 256 * (a7 + 256 * 0))))))) = ((a0 + a1) + 256 * (a1 + a2)) + 65536 * ((a2 + a3) + 256 * (a3 + a4) + 65536 * (a4 + a5) + 16777216 * (a5 + a6) + 4294967296 * (a6 + a7) + 1099511627776 * a7) := by omega
theorem f8V (a0 a1 a2 a3 a4 a5 a6 a7 : Nat) : ((a0 + a1) + 256 * (a1 + a2)) + 65536 * ((a2 + a3) + 256 * (a3 + a4) + 65536 * (a4 + a5) + 16777216 * (a5 + a6) + 4294967296 * (a6 + a7) + 1099511627776 * a7) + ((a2 + a3) + 256 * (a3 + a4) + 65536 * (a4 + a5) + 16777216 * (a5 + a6) + 4294967296 * (a6 + a7) + 1099511627776 * a7) = ((a0 + a1 + a2 + a3) + 256 * (a1 + a2 + a3 + a4) + 65536 * (a2 + a3 + a4 + a5) + 16777216 * (a3 + a4 + a5 + a6)) + 4294967296 * ((a4 + a5 + a6 + a7) + 256 * (a5 + a6 + a7) + 65536 * (a6 + a7) + 16777216 * a7) := by omega
theorem f8W (a0 a1 a2 a3 a4 a5 a6 a7 : Nat) : ((a0 + a1 + a2 + a3) + 256 * (a1 + a2 + a3 + a4) + 65536 * (a2 + a3 + a4 + a5) + 16777216 * (a3 + a4 + a5 + a6)) + 4294967296 * ((a4 + a5 + a6 + a7) + 256 * (a5 + a6 + a7) + 65536 * (a6 + a7) + 16777216 * a7) + ((a4 + a5 + a6 + a7) + 256 * (a5 + a6 + a7) + 65536 * (a6 + a7) + 16777216 * a7) = (a0 + (a1 + (a2 + (a3 + (a4 + (a5 + (a6 + (a7 + 0)))))))) + 128 * (2 * ((a1 + a2 + a3 + a4) + (a5 + a6 + a7) + 256 * ((a2 + a3 + a4 + a5) + (a6 + a7)) + 65536 * ((a3 + a4 + a5 + a6) + a7) + 16777216 * (a4 + a5 + a6 + a7) + 4294967296 * (a5 + a6 + a7) + 1099511627776 * (a6 + a7) + 281474976710656 * a7)) := by omega
theorem fold8 {a0 a1 a2 a3 a4 a5 a6 a7 : Nat} (h0 : a0 ≤ 8) (h1 : a1 ≤ 8) (h2 : a2 ≤ 8) (h3 : a3 ≤ 8) (h4 : a4 ≤ 8) (h5 : a5 ≤ 8) (h6 : a6 ≤ 8) (h7 : a7 ≤ 8) {Y Z V W : Nat} (hY : Y = a0 + 256 * (a1 + 256 * (a2 + 256 * (a3 + 256 * (a4 + 256 * (a5 + 256 * (a6 + 256 * (a7 + 256 * 0)))))))) (hZ : Z = Y + Y / 256) (hV : V = Z + Z / 65536) (hW : W = V + V / 4294967296) : Y < 1000000000000000000 ∧ W < 2000000000000000000 ∧ W % 128 = a0 + (a1 + (a2 + (a3 + (a4 + (a5 + (a6 + (a7 + 0))))))) := by
  have e0 : Y / 256 = a1 + 256 * (a2 + 256 * (a3 + 256 * (a4 + 256 * (a5 + 256 * (a6 + 256 * (a7 + 256 * 0)))))) := dvq (r := a0) hY (Nat.lt_of_le_of_lt h0 (by decide))
  have hYl : Y < 1000000000000000000 := by rw [hY]; clear hZ hV hW e0 hY; omega
  rw [e0, hY, f8Z] at hZ
  have e1 := dvq hZ (by clear hZ hV hW hY e0 hYl; omega)
  rw [e1, hZ, f8V] at hV
  have e2 := dvq hV (by clear hZ hV hW hY e0 e1 hYl; omega)
  rw [e2, hV, f8W] at hW
  refine ⟨hYl, by rw [hW]; clear hZ hV hW hY e0 e1 e2 hYl; omega, ?_⟩
  rw [hW, Nat.add_mul_mod_self_left, Nat.mod_eq_of_lt (by clear hZ hV hW hY e0 e1 e2 hYl; omega)]
theorem shU_n (i : Int32) (x : Int64) (k : Nat) (h : (i.toInt64.toUInt64 &&& Int64.toUInt64 63).toNat % 64 = k) : (shU i x).toBitVec.toNat = x.toBitVec.toNat >>> k := by
  subst h
  exact UInt64.toNat_shiftRight _ _
theorem i64_sub {x y : Int64} (h : y.toBitVec.toNat ≤ x.toBitVec.toNat) : (x - y).toBitVec.toNat = x.toBitVec.toNat - y.toBitVec.toNat := by
  have hx : x.toBitVec.toNat < 2 ^ 64 := x.toBitVec.isLt
  rw [Int64.toBitVec_sub, BitVec.toNat_sub]
  omega
theorem i64_add {x y : Int64} (h : x.toBitVec.toNat + y.toBitVec.toNat < 2 ^ 64) : (x + y).toBitVec.toNat = x.toBitVec.toNat + y.toBitVec.toNat := by
  rw [Int64.toBitVec_add, BitVec.toNat_add]
  exact Nat.mod_eq_of_lt h
theorem i64_and (x y : Int64) : (x &&& y).toBitVec.toNat = x.toBitVec.toNat &&& y.toBitVec.toNat := by
  rw [Int64.toBitVec_and, BitVec.toNat_and]
theorem pc1_n (x : Int64) : (pc1 x).toBitVec.toNat = w1N 8 x.toBitVec.toNat := by
  have h : (shU 1 x &&& 6148914691236517205).toBitVec.toNat = (x.toBitVec.toNat >>> 1) &&& repM 85 8 := by
    rw [i64_and, shU_n 1 x 1 (by decide)]; rfl
  have hle : (x.toBitVec.toNat >>> 1) &&& repM 85 8 ≤ x.toBitVec.toNat := Nat.le_trans Nat.and_le_left (by rw [Nat.shiftRight_eq_div_pow]; exact Nat.div_le_self _ _)
  rw [pc1, i64_sub (by rw [h]; exact hle), h]
  rfl
theorem hN_lt : ∀ k X, hN k X ≤ 68 * repM 1 k
  | 0, X => by rw [hN]; exact Nat.zero_le _
  | k + 1, X => by
    have := (by_all (X % 256) (Nat.mod_lt _ (by decide))).2.2.1
    have := hN_lt k (X / 256)
    rw [hN, repM]
    omega
theorem pcI_ok (x : Int64) : pcI x = nI (pcB (fun i => x.toBitVec.toNat.testBit i) 64) := by
  have hX : x.toBitVec.toNat < 256 ^ 8 := x.toBitVec.isLt
  have e1 := pc1_n x
  have e2 := w12 8 _ hX
  have hH := hN_lt 8 x.toBitVec.toNat
  have r1 : 68 * repM 1 8 < 5000000000000000000 := by decide
  have e3 : (pc2 (pc1 x)).toBitVec.toNat = hN 8 x.toBitVec.toNat := by
    have a1 : (pc1 x &&& 3689348814741910323).toBitVec.toNat = (pc1 x).toBitVec.toNat &&& repM 51 8 := i64_and _ _
    have a2 : (shU 2 (pc1 x) &&& 3689348814741910323).toBitVec.toNat = ((pc1 x).toBitVec.toNat >>> 2) &&& repM 51 8 := by
      rw [i64_and, shU_n 2 _ 2 (by decide)]; rfl
    have a3 : ((pc1 x).toBitVec.toNat &&& repM 51 8) + (((pc1 x).toBitVec.toNat >>> 2) &&& repM 51 8) = hN 8 x.toBitVec.toNat := by
      rw [e1]; exact e2
    rw [pc2, i64_add (by rw [a1, a2, a3]; omega), a1, a2, a3]
  have e4 : (pc3 (pc2 (pc1 x))).toBitVec.toNat = kN 8 x.toBitVec.toNat := by
    have a1 : (shU 4 (pc2 (pc1 x))).toBitVec.toNat = hN 8 x.toBitVec.toNat >>> 4 := by rw [shU_n 4 _ 4 (by decide), e3]
    have a2 : hN 8 x.toBitVec.toNat >>> 4 ≤ hN 8 x.toBitVec.toNat := by rw [Nat.shiftRight_eq_div_pow]; exact Nat.div_le_self _ _
    rw [pc3, i64_and, i64_add (by rw [a1, e3]; omega), a1, e3]
    exact w3h 8 _
  have hp : ∀ a, byP (a % 256) ≤ 8 := fun a => (by_all (a % 256) (Nat.mod_lt _ (by decide))).2.2.2.2.2
  have key := fold8 (hp x.toBitVec.toNat) (hp (x.toBitVec.toNat / 256)) (hp (x.toBitVec.toNat / 256 / 256)) (hp (x.toBitVec.toNat / 256 / 256 / 256)) (hp (x.toBitVec.toNat / 256 / 256 / 256 / 256)) (hp (x.toBitVec.toNat / 256 / 256 / 256 / 256 / 256)) (hp (x.toBitVec.toNat / 256 / 256 / 256 / 256 / 256 / 256)) (hp (x.toBitVec.toNat / 256 / 256 / 256 / 256 / 256 / 256 / 256)) (Y := kN 8 x.toBitVec.toNat) rfl rfl rfl rfl
  have hb : pcB (fun i => x.toBitVec.toNat.testBit i) 64 = s8N 8 x.toBitVec.toNat := pcB_s8 8 _
  have st : ∀ (y : Int64) (i : Int32) (k : Nat), (i.toInt64.toUInt64 &&& Int64.toUInt64 63).toNat % 64 = k → y.toBitVec.toNat + y.toBitVec.toNat / 2 ^ k < 2 ^ 64 → (pc4 i y).toBitVec.toNat = y.toBitVec.toNat + y.toBitVec.toNat / 2 ^ k := by
    intro y i k hk hl
    have a1 := shU_n i y k hk
    rw [Nat.shiftRight_eq_div_pow] at a1
    rw [pc4, i64_add (by rw [a1]; exact hl), a1]
  generalize kN 8 x.toBitVec.toNat = Y at e4 key
  obtain ⟨k1, k2, k3⟩ := key
  have f1 := st (pc3 (pc2 (pc1 x))) 8 8 (by decide) (by rw [e4]; omega)
  rw [e4] at f1
  have f2 := st (pc4 8 (pc3 (pc2 (pc1 x)))) 16 16 (by decide) (by rw [f1]; omega)
  rw [f1] at f2
  have f3 := st (pc4 16 (pc4 8 (pc3 (pc2 (pc1 x))))) 32 32 (by decide) (by rw [f2]; omega)
  rw [f2] at f3
  have hs : (Y + Y / 256 + (Y + Y / 256) / 65536 + (Y + Y / 256 + (Y + Y / 256) / 65536) / 4294967296) % 128 = s8N 8 x.toBitVec.toNat := k3
  have hm : ∀ E : Nat, E % 2 ^ 32 % 2 ^ 7 = E % 128 := by intro E; omega
  have f4 : (pc4 32 (pc4 16 (pc4 8 (pc3 (pc2 (pc1 x)))))).toInt32.toBitVec.toNat = (pc4 32 (pc4 16 (pc4 8 (pc3 (pc2 (pc1 x)))))).toBitVec.toNat % 2 ^ 32 := by
    rw [Int64.toBitVec_toInt32, BitVec.signExtend_eq_setWidth_of_le _ (by decide), BitVec.toNat_setWidth]
  rw [pcI, pk_and _ 7 (by decide), hb, ← hs, f4, f3]
  exact congrArg nI (hm _)
