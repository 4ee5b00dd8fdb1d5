/-! the jar, as numbers -/
def nR (r : Nat → Nat) : Nat → Int32 := fun x => nI (r x)
def nxt (z : Int32) : Int32 := z * 1664525 + 1013904223
def lotN (z : Int32) (n : Nat) : Nat := ((z &&& 2147483647).toBitVec.toNat / 256) % n
def swN (r : Nat → Nat) (i j : Nat) : Nat → Nat := fun x => if x = j then r i else if x = i then r j else r x
def clN (r : Nat → Nat) (p n : Nat) : Nat → Nat := fun x => if p ≤ x ∧ x < p + n then r (x + 1) else r x
def shB (sp : Nat) (z : Int32) : Nat := min (lotN (nxt z) 366 + lotN (nxt (nxt z)) (2 * sp + 1) - sp) 365
def shN (sp : Nat) : Nat → (Nat → Nat) × Int32 → (Nat → Nat) × Int32
  | 0, x => x
  | k + 1, x => (swN (shN sp k x).1 (lotN (nxt (shN sp k x).2) 366) (shB sp (shN sp k x).2), nxt (nxt (shN sp k x).2))
def trN : Nat → (Nat → Nat) → Nat → Nat
  | 0, r => r
  | k + 1, r => swN (trN k r) k (365 - k)
def abN (de k : Nat) (z : Int32) : Nat := lotN (nxt z) (min de (366 - k))
def drN (de : Nat) : Nat → (Nat → Nat) × Int32 → (Nat → Nat) × Int32
  | 0, x => x
  | k + 1, x => (clN (drN de k x).1 (365 - k - abN de k (drN de k x).2) (abN de k (drN de k x).2), nxt (drN de k x).2)
def dayN (de : Nat) (x : (Nat → Nat) × Int32) (k : Nat) : Nat := (drN de k x).1 (365 - k - abN de k (drN de k x).2)
def ndN (de : Nat) (x : (Nat → Nat) × Int32) (nd : Nat → Int32) : Nat → Nat → Int32
  | 0 => nd
  | k + 1 => upd (ndN de x nd k) (dayN de x k) (nI (k + 1))
def dnN (de : Nat) (x : (Nat → Nat) × Int32) (dn : Nat → Int32) : Nat → Nat → Int32
  | 0 => dn
  | k + 1 => upd (dnN de x dn k) (k + 1) (nI (dayN de x k))
def jrX (se : Int32) (kS sp : Nat) (po : Bool) : (Nat → Nat) × Int32 := (if po = true then trN 183 (shN sp kS (fun x => x, se)).1 else (shN sp kS (fun x => x, se)).1, (shN sp kS (fun x => x, se)).2)
/-- the number of each day -/
def numF (se : Int32) (kS sp de : Nat) (po : Bool) : Nat → Int32 := ndN de (jrX se kS sp po) (fun _ => 0) 366
/-- the day of each number -/
def dayF (se : Int32) (kS sp de : Nat) (po : Bool) : Nat → Int32 := dnN de (jrX se kS sp po) (fun _ => 0) 366
theorem lotN_lt (z : Int32) {n : Nat} (h : 1 ≤ n) : lotN z n < n := Nat.mod_lt _ h
theorem lot_div (z : Int32) : (z &&& 2147483647) / 256 = nI ((z &&& 2147483647).toBitVec.toNat / 256) ∧ (z &&& 2147483647).toBitVec.toNat / 256 < 2147483648 := by
  have h := pk_and z (m := 2147483647) 31 (by decide)
  have hlt : z.toBitVec.toNat % 2 ^ 31 < 2147483648 := Nat.mod_lt _ (by decide)
  have hn : (z &&& 2147483647).toBitVec.toNat = z.toBitVec.toNat % 2 ^ 31 := by
    rw [h, pk_tn (by omega)]
  refine ⟨?_, by rw [hn]; omega⟩
  rw [hn]
  have h2 : (256 : Int32) = nI 256 := rfl
  rw [h, h2, pk_div hlt (by decide) (by decide)]
theorem lot_ok (z : Int32) {n : Nat} (h : 1 ≤ n) (hn : n < 2147483648) : (z &&& 2147483647) / 256 - (z &&& 2147483647) / 256 / nI n * nI n = nI (lotN z n) := by
  obtain ⟨h1, h2⟩ := lot_div z
  rw [h1, pk_rem h2 h hn]
  rfl
theorem at_nR {r : Nat → Nat} {k : Nat} (hk : k < 366) : atI 366 (nR r) (nI k) = nI (r k) := atI_n hk (by decide)
theorem sw_nR {r : Nat → Nat} {i j : Nat} (hi : i < 366) (hj : j < 366) : putI 366 (putI 366 (nR r) (nI i) (nI (r j))) (nI j) (nI (r i)) = nR (swN r i j) := by
  rw [putI_n hi (by decide), putI_n hj (by decide)]
  funext x
  unfold upd nR swN
  by_cases h1 : x = j
  · rw [if_pos h1, if_pos h1]
  · rw [if_neg h1, if_neg h1]
    by_cases h2 : x = i
    · rw [if_pos h2, if_pos h2]
    · rw [if_neg h2, if_neg h2]
theorem shB_lt (sp : Nat) (z : Int32) : shB sp z < 366 := by unfold shB; omega
/-- inside: what is in the row below n are days, no one twice -/
def rowOk (n : Nat) (r : Nat → Nat) : Prop := (∀ x, x < n → r x < 366) ∧ ∀ x y, x < n → y < n → r x = r y → x = y
theorem rowOk_id : rowOk 366 (fun x => x) := ⟨fun _ h => h, fun _ _ _ _ h => h⟩
theorem rowOk_sw {n : Nat} {r : Nat → Nat} {i j : Nat} (h : rowOk n r) (hi : i < n) (hj : j < n) : rowOk n (swN r i j) := by
  have key : ∀ x, swN r i j x = r (if x = j then i else if x = i then j else x) := by
    intro x
    unfold swN
    by_cases h1 : x = j
    · rw [if_pos h1, if_pos h1]
    · rw [if_neg h1, if_neg h1]
      by_cases h2 : x = i
      · rw [if_pos h2, if_pos h2]
      · rw [if_neg h2, if_neg h2]
  have lt : ∀ x, x < n → (if x = j then i else if x = i then j else x) < n := by
    intro x hx
    by_cases h1 : x = j
    · rw [if_pos h1]; exact hi
    · rw [if_neg h1]
      by_cases h2 : x = i
      · rw [if_pos h2]; exact hj
      · rw [if_neg h2]; exact hx
  refine ⟨fun x hx => by rw [key]; exact h.1 _ (lt x hx), fun x y hx hy e => ?_⟩
  rw [key, key] at e
  have e2 := h.2 _ _ (lt x hx) (lt y hy) e
  have sg : ∀ z : Nat, (z = j ∧ (if z = j then i else if z = i then j else z) = i) ∨ (z ≠ j ∧ z = i ∧ (if z = j then i else if z = i then j else z) = j) ∨ (z ≠ j ∧ z ≠ i ∧ (if z = j then i else if z = i then j else z) = z) := by
    intro z
    by_cases a1 : z = j
    · exact Or.inl ⟨a1, by rw [if_pos a1]⟩
    · by_cases a2 : z = i
      · exact Or.inr (Or.inl ⟨a1, a2, by rw [if_neg a1, if_pos a2]⟩)
      · exact Or.inr (Or.inr ⟨a1, a2, by rw [if_neg a1, if_neg a2]⟩)
  rcases sg x with ⟨p1, p2⟩ | ⟨p1, p2, p3⟩ | ⟨p1, p2, p3⟩ <;> rcases sg y with ⟨q1, q2⟩ | ⟨q1, q2, q3⟩ | ⟨q1, q2, q3⟩ <;> omega
theorem rowOk_sh (sp : Nat) : ∀ k x, rowOk 366 x.1 → rowOk 366 (shN sp k x).1
  | 0, _, h => h
  | k + 1, x, h => rowOk_sw (rowOk_sh sp k x h) (lotN_lt _ (by decide)) (shB_lt _ _)
theorem rowOk_tr : ∀ k r, k ≤ 183 → rowOk 366 r → rowOk 366 (trN k r)
  | 0, _, _, h => h
  | k + 1, r, hk, h => rowOk_sw (rowOk_tr k r (by omega) h) (by omega) (by omega)
theorem rowOk_jr (se : Int32) (kS sp : Nat) (po : Bool) : rowOk 366 (jrX se kS sp po).1 := by
  unfold jrX
  cases po with
  | false => exact rowOk_sh sp kS _ rowOk_id
  | true => exact rowOk_tr 183 _ (Nat.le_refl _) (rowOk_sh sp kS _ rowOk_id)
theorem abN_lt {de k : Nat} (z : Int32) (hd : 1 ≤ de) (hk : k < 366) : abN de k z < 366 - k ∧ abN de k z < de := by
  have h : abN de k z < min de (366 - k) := lotN_lt _ (by omega)
  omega
/-- as it is drawn: what is left in the row, and what was drawn, are all apart -/
theorem dr_ok {de : Nat} {x : (Nat → Nat) × Int32} (hd : 1 ≤ de) (h0 : rowOk 366 x.1) : ∀ k, k ≤ 366 → rowOk (366 - k) (drN de k x).1 ∧ (∀ i, i < k → dayN de x i < 366) ∧ (∀ i y, i < k → y < 366 - k → dayN de x i ≠ (drN de k x).1 y) ∧ ∀ i j, i < j → j < k → dayN de x i ≠ dayN de x j
  | 0, _ => ⟨h0, fun _ h => absurd h (Nat.not_lt_zero _), fun _ _ h => absurd h (Nat.not_lt_zero _), fun _ _ _ h => absurd h (Nat.not_lt_zero _)⟩
  | k + 1, hk => by
    obtain ⟨g1, g2, g3, g4⟩ := dr_ok hd h0 k (by omega)
    have hab := (abN_lt (drN de k x).2 hd (by omega : k < 366)).1
    have hp : 365 - k - abN de k (drN de k x).2 < 366 - k := by omega
    have cl : ∀ y, y < 366 - (k + 1) → ∃ y', y' < 366 - k ∧ y' ≠ 365 - k - abN de k (drN de k x).2 ∧ (drN de (k + 1) x).1 y = (drN de k x).1 y' ∧ (y' = if 365 - k - abN de k (drN de k x).2 ≤ y then y + 1 else y) := by
      intro y hy
      show ∃ y', y' < 366 - k ∧ y' ≠ _ ∧ clN _ _ _ y = _ ∧ _
      unfold clN
      by_cases h : 365 - k - abN de k (drN de k x).2 ≤ y
      · exact ⟨y + 1, by omega, by omega, by rw [if_pos ⟨h, by omega⟩], by rw [if_pos h]⟩
      · exact ⟨y, by omega, by omega, by rw [if_neg (fun z => h z.1)], by rw [if_neg h]⟩
    refine ⟨⟨fun y hy => ?_, fun y z hy hz e => ?_⟩, fun i hi => ?_, fun i y hi hy e => ?_, fun i j hij hj => ?_⟩
    · obtain ⟨y', a1, -, a3, -⟩ := cl y hy
      rw [a3]; exact g1.1 _ a1
    · obtain ⟨y', a1, a2, a3, a4⟩ := cl y hy
      obtain ⟨z', b1, b2, b3, b4⟩ := cl z hz
      rw [a3, b3] at e
      have e2 := g1.2 _ _ a1 b1 e
      by_cases q1 : 365 - k - abN de k (drN de k x).2 ≤ y <;> by_cases q2 : 365 - k - abN de k (drN de k x).2 ≤ z <;> simp only [q1, q2, if_true, if_false] at a4 b4 <;> omega
    · rcases Nat.lt_or_ge i k with h | h
      · exact g2 i h
      · rw [show i = k by omega]; exact g1.1 _ hp
    · obtain ⟨y', a1, a2, a3, -⟩ := cl y hy
      rw [a3] at e
      rcases Nat.lt_or_ge i k with h | h
      · exact g3 i y' h a1 e
      · rw [show i = k by omega] at e
        exact a2 (g1.2 _ _ a1 hp e.symm)
    · rcases Nat.lt_or_ge j k with h | h
      · exact g4 i j hij h
      · rw [show j = k by omega]
        exact g3 i _ (by omega) hp
theorem day_lt {de : Nat} {x : (Nat → Nat) × Int32} (hd : 1 ≤ de) (h0 : rowOk 366 x.1) {k : Nat} (hk : k < 366) : dayN de x k < 366 := (dr_ok hd h0 366 (Nat.le_refl _)).2.1 k hk
theorem day_ne {de : Nat} {x : (Nat → Nat) × Int32} (hd : 1 ≤ de) (h0 : rowOk 366 x.1) {i j : Nat} (hij : i < j) (hj : j < 366) : dayN de x i ≠ dayN de x j := (dr_ok hd h0 366 (Nat.le_refl _)).2.2.2 i j hij hj
theorem fb_holes : ∀ (m n : Nat) (f : Nat → Nat), (∀ i, i < n → f i < m) → (∀ i j, i < j → j < n → f i ≠ f j) → n ≤ m := by
  intro m
  induction m with
  | zero =>
    intro n f h1 _
    rcases Nat.eq_zero_or_pos n with h | h
    · omega
    · exact absurd (h1 0 h) (Nat.not_lt_zero _)
  | succ m ih =>
    intro n f h1 h2
    by_cases hx : ∃ i, i < n ∧ f i = m
    · obtain ⟨a, ha, hfa⟩ := hx
      have hg := ih (n - 1) (fun i => if i < a then f i else f (i + 1)) (by
        intro i hi
        by_cases q : i < a
        · simp only [if_pos q]
          have b1 := h1 i (by omega)
          have b2 := h2 i a q ha
          omega
        · simp only [if_neg q]
          have b1 := h1 (i + 1) (by omega)
          have b2 := h2 a (i + 1) (by omega) (by omega)
          omega) (by
        intro i j hij hj
        by_cases q : i < a
        · by_cases r : j < a
          · simp only [if_pos q, if_pos r]
            exact h2 i j hij (by omega)
          · simp only [if_pos q, if_neg r]
            exact h2 i (j + 1) (by omega) (by omega)
        · have r : ¬ j < a := by omega
          simp only [if_neg q, if_neg r]
          exact h2 (i + 1) (j + 1) (by omega) (by omega))
      omega
    · have hg := ih n f (fun i hi => by
        have b1 := h1 i hi
        have b2 : f i ≠ m := fun e => hx ⟨i, hi, e⟩
        omega) h2
      omega
theorem on_to {n : Nat} {f : Nat → Nat} (h : ∀ i, i < n → f i < n) (h2 : ∀ i j, i < j → j < n → f i ≠ f j) {y : Nat} (hy : y < n) : ∃ i, i < n ∧ f i = y := by
  refine Classical.byContradiction fun hx => ?_
  have := fb_holes n (n + 1) (fun i => if i < n then f i else y) (by
    intro i hi
    by_cases q : i < n
    · simp only [if_pos q]; exact h i q
    · simp only [if_neg q]; exact hy) (by
    intro i j hij hj
    by_cases q : j < n
    · simp only [if_pos q, if_pos (Nat.lt_trans hij q)]; exact h2 i j hij q
    · simp only [if_neg q, if_pos (by omega : i < n)]
      exact fun e => hx ⟨i, by omega, e⟩)
  omega
theorem day_onto {de : Nat} {x : (Nat → Nat) × Int32} (hd : 1 ≤ de) (h0 : rowOk 366 x.1) {j : Nat} (hj : j < 366) : ∃ k, k < 366 ∧ dayN de x k = j := on_to (fun _ h => day_lt hd h0 h) (fun _ _ h h2 => day_ne hd h0 h h2) hj
theorem nd_at {de : Nat} {x : (Nat → Nat) × Int32} (hd : 1 ≤ de) (h0 : rowOk 366 x.1) (nd : Nat → Int32) {k : Nat} : ∀ K, k < K → K ≤ 366 → ndN de x nd K (dayN de x k) = nI (k + 1)
  | 0, h, _ => absurd h (Nat.not_lt_zero _)
  | K + 1, h, hK => by
    rw [ndN, upd]
    by_cases e : k = K
    · rw [e, if_pos rfl]
    · rw [if_neg (day_ne hd h0 (by omega) (by omega)), nd_at hd h0 nd K (by omega) (by omega)]
theorem dn_at (de : Nat) (x : (Nat → Nat) × Int32) (dn : Nat → Int32) {k : Nat} : ∀ K, k < K → dnN de x dn K (k + 1) = nI (dayN de x k)
  | 0, h => absurd h (Nat.not_lt_zero _)
  | K + 1, h => by
    rw [dnN, upd]
    by_cases e : k = K
    · rw [e, if_pos rfl]
    · rw [if_neg (by omega), dn_at de x dn K (by omega)]
theorem dn_0 (de : Nat) (x : (Nat → Nat) × Int32) (dn : Nat → Int32) : ∀ K, dnN de x dn K 0 = dn 0
  | 0 => rfl
  | K + 1 => by rw [dnN, upd, if_neg (by omega), dn_0 de x dn K]
theorem nd_any {se : Int32} {kS sp de : Nat} {po : Bool} (hd : 1 ≤ de) (nd : Nat → Int32) (j : Nat) (hj : j < 366) : ndN de (jrX se kS sp po) nd 366 j = numF se kS sp de po j := by
  obtain ⟨k, hk, rfl⟩ := day_onto hd (rowOk_jr se kS sp po) hj
  rw [numF, nd_at hd (rowOk_jr se kS sp po) nd 366 hk (Nat.le_refl _), nd_at hd (rowOk_jr se kS sp po) _ 366 hk (Nat.le_refl _)]
theorem dn_any {se : Int32} {kS sp de : Nat} {po : Bool} (dn : Nat → Int32) (h0 : dn 0 = 0) (j : Nat) (hj : j < 367) : dnN de (jrX se kS sp po) dn 366 j = dayF se kS sp de po j := by
  cases j with
  | zero => rw [dayF, dn_0, dn_0, h0]
  | succ k => rw [dayF, dn_at _ _ _ 366 (by omega), dn_at _ _ _ 366 (by omega)]
/-- the numbers 1 to 366, each once; the two tables go back and forth -/
theorem num_day {se : Int32} {kS sp de : Nat} {po : Bool} (hd : 1 ≤ de) {j : Nat} (hj : j < 366) : ∃ k, k < 366 ∧ numF se kS sp de po j = nI (k + 1) ∧ dayF se kS sp de po (k + 1) = nI j := by
  obtain ⟨k, hk, rfl⟩ := day_onto hd (rowOk_jr se kS sp po) hj
  exact ⟨k, hk, nd_at hd (rowOk_jr se kS sp po) _ 366 hk (Nat.le_refl _), dn_at _ _ _ 366 hk⟩
theorem day_num {se : Int32} {kS sp de : Nat} {po : Bool} (hd : 1 ≤ de) {k : Nat} (hk : k < 366) : ∃ j, j < 366 ∧ numF se kS sp de po j = nI (k + 1) ∧ dayF se kS sp de po (k + 1) = nI j :=
  ⟨dayN de (jrX se kS sp po) k, day_lt hd (rowOk_jr se kS sp po) hk, nd_at hd (rowOk_jr se kS sp po) _ 366 hk (Nat.le_refl _), dn_at _ _ _ 366 hk⟩
theorem num_inj {se : Int32} {kS sp de : Nat} {po : Bool} (hd : 1 ≤ de) {i j : Nat} (hi : i < 366) (hj : j < 366) (e : numF se kS sp de po i = numF se kS sp de po j) : i = j := by
  obtain ⟨a, ha, rfl⟩ := day_onto hd (rowOk_jr se kS sp po) hi
  obtain ⟨b, hb, rfl⟩ := day_onto hd (rowOk_jr se kS sp po) hj
  rw [numF, nd_at hd (rowOk_jr se kS sp po) _ 366 ha (Nat.le_refl _), nd_at hd (rowOk_jr se kS sp po) _ 366 hb (Nat.le_refl _), nI_eq (by omega) (by omega)] at e
  rw [show a = b by omega]
/-! steps of the row's rows -/
def layK (f : Nat → Int32) (k : Nat) : Nat → Int32 := fun j => if j < k then nI j else f j
theorem layK_s (f : Nat → Int32) {k : Nat} (hk : k < 366) : putI 366 (layK f k) (nI k) (nI k) = layK f (k + 1) := by
  rw [putI_n hk (by decide)]
  funext j
  unfold upd layK
  by_cases h : j = k
  · rw [if_pos h, if_pos (by omega), h]
  · rw [if_neg h]
    by_cases h2 : j < k
    · rw [if_pos h2, if_pos (by omega)]
    · rw [if_neg h2, if_neg (by omega)]
theorem layK_0 (f : Nat → Int32) : layK f 0 = f := by funext j; unfold layK; rw [if_neg (Nat.not_lt_zero _)]
theorem layK_all (f : Nat → Int32) (j : Nat) (hj : j < 366) : layK f 366 j = nR (fun x => x) j := by unfold layK nR; rw [if_pos hj]
/-- where the lots lead: held within the row -/
theorem clamp_ok {a l sp : Nat} (ha : a < 366) (hl : l < 732) (hs : sp < 366) : (if 0 < (if nI a + (nI l - nI sp) < 365 then nI a + (nI l - nI sp) else 365) then (if nI a + (nI l - nI sp) < 365 then nI a + (nI l - nI sp) else 365) else 0) = nI (min (a + l - sp) 365) := by
  have e : nI a + (nI l - nI sp) = nI (a + l) - nI sp := by rw [Int32.sub_eq_add_neg, Int32.sub_eq_add_neg, ← Int32.add_assoc, nI_add]
  rw [e]
  have ht := pk_sub_toInt (a := a + l) (b := sp) (by omega) (by omega)
  have h365 : (365 : Int32).toInt = 365 := by decide
  have h00 : (0 : Int32).toInt = 0 := by decide
  by_cases h1 : nI (a + l) - nI sp < 365
  · rw [if_pos h1]
    rw [Int32.lt_iff_toInt_lt, ht, h365] at h1
    by_cases h2 : 0 < nI (a + l) - nI sp
    · rw [if_pos h2]
      rw [Int32.lt_iff_toInt_lt, ht, h00] at h2
      rw [pk_sub (by omega)]
      congr 1
      omega
    · rw [if_neg h2]
      rw [Int32.lt_iff_toInt_lt, ht, h00] at h2
      rw [show min (a + l - sp) 365 = 0 by omega]
      rfl
  · rw [if_neg h1]
    rw [Int32.lt_iff_toInt_lt, ht, h365] at h1
    rw [if_pos (by decide), show min (a + l - sp) 365 = 365 by omega]
    rfl
theorem cpy_cl (r : Nat → Nat) (p n : Nat) (j : Nat) : va_cpy (nR r) (nR r) (p + 1) p n j = nR (clN r p n) j := by
  unfold va_cpy nR clN
  by_cases h : p ≤ j ∧ j < p + n
  · rw [if_pos h, if_pos h, show p + 1 + (j - p) = j + 1 by omega]
  · rw [if_neg h, if_neg h]
set_option maxHeartbeats 4000000 in
set_option maxRecDepth 100000 in
theorem c_X0_lot (l : Launch) (D : va_G) (cI cJ cZ : ClassId) (h : Nat) (qn : Nat) (qd : Nat) (qr : Nat) (qs : Nat) (se : Int32) (sh : Int32) (sp : Int32) (de : Int32) (po : Int32) (lo : Int32) (n0 : Nat) (h1 : 1 ≤ n0) (h2 : n0 < 2147483648) : CtI l D cI cJ cZ yX0_lot cX0_lot 2 (some .int) 0 [.ref h, .int (nI n0)] [(h, .inr (0, [.int se, .int sh, .int sp, .int de, .int po, .ref qn, .ref qd, .ref qr, .ref qs, .int lo]))] (fun (_ : Unit) => nI (lotN (nxt lo) n0)) (fun (_ : Unit) => True) (fun (_ : Unit) => [(h, .inr (0, [.int se, .int sh, .int sp, .int de, .int po, .ref qn, .ref qd, .ref qr, .ref qs, .int (nxt lo)]))]) := by
  refine q_entI (own := RX0) rfl rfl (Nat.le_of_ble_eq_true rfl) ?_
  intro p e s m args below meth c A ls QQ hQ hE hx hb hr hk hin hA hl hst
  have hl : lv_has ls 2 [(0, .ref h), (1, .int (nI n0))] := hl
  refine lv_aload_n hx hb dX0_lot_0 rfl (lv_at hl 0 rfl) ?_
  refine lv_aload_n hx hb dX0_lot_1 rfl (lv_at hl 0 rfl) ?_
  refine gf_X0_42 hE hst 0 rfl rfl dX0_lot_2 ?_
  refine q_ldc hE wk_1_79 dX0_lot_5 ?_
  refine lv_imul hx hb dX0_lot_7 ?_
  refine q_ldc hE wk_1_80 dX0_lot_8 ?_
  refine lv_iadd hx hb dX0_lot_10 ?_
  refine pf_X0_42 hE hst 0 rfl (rfl) (rfl) (Nat.le_of_ble_eq_true rfl) [(h, .inr (0, [.int se, .int sh, .int sp, .int de, .int po, .ref qn, .ref qd, .ref qr, .ref qs, .int ((lo * 1664525) + 1013904223)]))] rfl dX0_lot_11 (fun H locs hst => ?_)
  refine lv_iload_n hx hb dX0_lot_14 rfl (lv_at hl 1 rfl) ?_
  refine lv_iconst (v := 1) hx hb dX0_lot_15 (by decide) ?_
  refine lv_icmp_ge (tgt := 23) hx hb dX0_lot_16 (by decide) (fun c_16 => ?_) (fun c_16 => ?_)
  · skip
    refine lv_aload_n hx hb dX0_lot_23 rfl (lv_at hl 0 rfl) ?_
    refine gf_X0_42 hE hst 0 rfl rfl dX0_lot_24 ?_
    refine q_ldc hE wk_1_81 dX0_lot_27 ?_
    refine lv_iand hx hb dX0_lot_29 ?_
    refine lv_sipush (v := 256) hx hb dX0_lot_30 (by decide) ?_
    refine lv_idiv hx hb dX0_lot_33 (by decide) ?_
    refine lv_iload_n hx hb dX0_lot_34 rfl (lv_at hl 1 rfl) ?_
    refine lv_irem hx hb dX0_lot_35 (nI_ne0 h1 h2) ?_
    exact q_retI hQ hE hr hk hst () (lot_ok _ h1 h2) (trivial) (rfl) dX0_lot_36
  · skip
    exact absurd (nI_le (a := 1) (b := n0) h1 h2) c_16
set_option maxHeartbeats 4000000 in
set_option maxRecDepth 100000 in
theorem c_X0_swap (l : Launch) (D : va_G) (cI cJ cZ : ClassId) (h : Nat) (qn : Nat) (qd : Nat) (qr : Nat) (qs : Nat) (se : Int32) (sh : Int32) (sp : Int32) (de : Int32) (po : Int32) (lo : Int32) (r : Nat → Nat) (i0 : Nat) (j0 : Nat) (hi : i0 < 366) (hj : j0 < 366) : CtV l D cI cJ cZ yX0_swap cX0_swap 4 none 1 0 0 [.ref h, .int (nI i0), .int (nI j0)] [(h, .inr (0, [.int se, .int sh, .int sp, .int de, .int po, .ref qn, .ref qd, .ref qr, .ref qs, .int lo])), (qr, .inl (cI, 366, .inl (nR r)))] (fun (_ : Unit) => True) (fun (_ : Unit) => [(h, .inr (0, [.int se, .int sh, .int sp, .int de, .int po, .ref qn, .ref qd, .ref qr, .ref qs, .int lo])), (qr, .inl (cI, 366, .inl (nR (swN r i0 j0))))]) := by
  refine q_entV (own := RX0) rfl rfl (Nat.le_of_ble_eq_true rfl) ?_
  intro p e s m args below meth c A ls QQ hQ hE hx hb hr hk hin hA hl hst
  have hl : lv_has ls 4 [(0, .ref h), (1, .int (nI i0)), (2, .int (nI j0))] := hl
  refine lv_aload_n hx hb dX0_swap_0 rfl (lv_at hl 0 rfl) ?_
  refine gf_X0_35 hE hst 0 rfl rfl dX0_swap_1 ?_
  refine lv_iload_n hx hb dX0_swap_4 rfl (lv_at hl 1 rfl) ?_
  refine q_goI (q_rNS hE lk_X0_88 (c_X6_at l D cI cJ cZ qr 366 (nR r) (nI i0) (by first | assumption | decide | omega) s.heap.size) hst [1] rfl rfl rfl hl.1 ⟨(Nat.le_of_ble_eq_true rfl), (Nat.le_of_ble_eq_true rfl)⟩ (rest := []) rfl (Nat.le_of_ble_eq_true rfl) dX0_swap_5 ⟨(Nat.le_of_ble_eq_true rfl), (Nat.le_of_ble_eq_true rfl)⟩) hE hst [1] rfl (fun _ => rfl) (fun (_ : Unit) => [(h, .inr (0, [.int se, .int sh, .int sp, .int de, .int po, .ref qn, .ref qd, .ref qr, .ref qs, .int lo])), (qr, .inl (cI, 366, .inl (nR r)))]) (fun _ => rfl) (fun _ H locs hF hst => ?_)
  refine q_top (x' := nI (r i0)) (at_nR hi) ?_
  refine lv_istore_n (lv' := [(3, .int (nI (r i0))), (0, .ref h), (1, .int (nI i0)), (2, .int (nI j0))]) hx hb dX0_swap_8 rfl hl (by decide) rfl (fun ls hl => ?_)
  refine lv_aload_n hx hb dX0_swap_9 rfl (lv_at hl 1 rfl) ?_
  refine gf_X0_35 hE hst 0 rfl rfl dX0_swap_10 ?_
  refine lv_iload_n hx hb dX0_swap_13 rfl (lv_at hl 2 rfl) ?_
  refine lv_aload_n hx hb dX0_swap_14 rfl (lv_at hl 1 rfl) ?_
  refine gf_X0_35 hE hst 0 rfl rfl dX0_swap_15 ?_
  refine lv_iload_n hx hb dX0_swap_18 rfl (lv_at hl 3 rfl) ?_
  refine q_goI (q_rNS hE lk_X0_88 (c_X6_at l D cI cJ cZ qr 366 (nR r) (nI j0) (by first | assumption | decide | omega) H.size) hst [1] rfl rfl rfl hl.1 ⟨(Nat.le_of_ble_eq_true rfl), (Nat.le_of_ble_eq_true rfl)⟩ (rest := [.int (nI i0), .ref qr]) rfl (Nat.le_of_ble_eq_true rfl) dX0_swap_19 ⟨(Nat.le_of_ble_eq_true rfl), (Nat.le_of_ble_eq_true rfl)⟩) hE hst [1] rfl (fun _ => rfl) (fun (_ : Unit) => [(h, .inr (0, [.int se, .int sh, .int sp, .int de, .int po, .ref qn, .ref qd, .ref qr, .ref qs, .int lo])), (qr, .inl (cI, 366, .inl (nR r)))]) (fun _ => rfl) (fun _ H locs hF hst => ?_)
  refine q_top (x' := nI (r j0)) (at_nR hj) ?_
  refine q_goV (q_rNS hE lk_X0_67 (c_X6_put l D cI cJ cZ qr 366 (nR r) (nI i0) (nI (r j0)) (by first | assumption | decide | omega) H.size) hst [1] rfl rfl rfl hl.1 ⟨(Nat.le_of_ble_eq_true rfl), (Nat.le_of_ble_eq_true rfl)⟩ (rest := []) rfl (Nat.le_of_ble_eq_true rfl) dX0_swap_22 ⟨(Nat.le_of_ble_eq_true rfl), (Nat.le_of_ble_eq_true rfl)⟩) hE hst [1] rfl (fun _ => rfl) (fun (_ : Unit) => [(h, .inr (0, [.int se, .int sh, .int sp, .int de, .int po, .ref qn, .ref qd, .ref qr, .ref qs, .int lo])), (qr, .inl (cI, 366, .inl (putI 366 (nR r) (nI i0) (nI (r j0)))))]) (fun _ => rfl) (fun _ H locs hF hst => ?_)
  refine lv_aload_n hx hb dX0_swap_25 rfl (lv_at hl 1 rfl) ?_
  refine gf_X0_35 hE hst 0 rfl rfl dX0_swap_26 ?_
  refine lv_iload_n hx hb dX0_swap_29 rfl (lv_at hl 3 rfl) ?_
  refine lv_iload_n hx hb dX0_swap_30 rfl (lv_at hl 0 rfl) ?_
  refine q_goV (q_rNS hE lk_X0_67 (c_X6_put l D cI cJ cZ qr 366 (putI 366 (nR r) (nI i0) (nI (r j0))) (nI j0) (nI (r i0)) (by first | assumption | decide | omega) H.size) hst [1] rfl rfl rfl hl.1 ⟨(Nat.le_of_ble_eq_true rfl), (Nat.le_of_ble_eq_true rfl)⟩ (rest := []) rfl (Nat.le_of_ble_eq_true rfl) dX0_swap_31 ⟨(Nat.le_of_ble_eq_true rfl), (Nat.le_of_ble_eq_true rfl)⟩) hE hst [1] rfl (fun _ => rfl) (fun (_ : Unit) => [(h, .inr (0, [.int se, .int sh, .int sp, .int de, .int po, .ref qn, .ref qd, .ref qr, .ref qs, .int lo])), (qr, .inl (cI, 366, .inl (putI 366 (putI 366 (nR r) (nI i0) (nI (r j0))) (nI j0) (nI (r i0)))))]) (fun _ => rfl) (fun _ H locs hF hst => ?_)
  have hst : SS D A s [(h, .inr (0, [.int se, .int sh, .int sp, .int de, .int po, .ref qn, .ref qd, .ref qr, .ref qs, .int lo])), (qr, .inl (cI, 366, .inl (nR (swN r i0 j0))))] H locs := by have h := hst; rw [sw_nR hi hj] at h; exact h
  exact q_retV hQ hE hr hk hst () (trivial) (rfl) dX0_swap_34
set_option maxHeartbeats 4000000 in
set_option maxRecDepth 100000 in
theorem c_X0_layDays (l : Launch) (D : va_G) (cI cJ cZ : ClassId) (h : Nat) (qn : Nat) (qd : Nat) (qr : Nat) (qs : Nat) (se : Int32) (sh : Int32) (sp : Int32) (de : Int32) (po : Int32) (lo : Int32) (f : Nat → Int32) : CtV l D cI cJ cZ yX0_layDays cX0_layDays 2 none 1 0 0 [.ref h] [(h, .inr (0, [.int se, .int sh, .int sp, .int de, .int po, .ref qn, .ref qd, .ref qr, .ref qs, .int lo])), (qr, .inl (cI, 366, .inl f))] (fun (_ : Unit) => True) (fun (_ : Unit) => [(h, .inr (0, [.int se, .int sh, .int sp, .int de, .int po, .ref qn, .ref qd, .ref qr, .ref qs, .int lo])), (qr, .inl (cI, 366, .inl (nR (fun x => x))))]) := by
  refine q_entV (own := RX0) rfl rfl (Nat.le_of_ble_eq_true rfl) ?_
  intro p e s m args below meth c A ls QQ hQ hE hx hb hr hk hin hA hl hst
  have hl : lv_has ls 2 [(0, .ref h)] := hl
  have loop_2 : ∀ (n : Nat) (k : Nat), (k ≤ 366) → (366 - k) < n → ∀ (H : Heap) (locs : List Loc) (ls : Array Slot), SS D A s [(h, .inr (0, [.int se, .int sh, .int sp, .int de, .int po, .ref qn, .ref qd, .ref qr, .ref qs, .int lo])), (qr, .inl (cI, 366, .inl (layK f k)))] H locs → lv_has ls 2 [(1, .int (nI k)), (0, .ref h)] → W p l e (rmN 1 0 0) s m args below meth c H locs 0 0 QQ (F0 m 2 ls []) := by
    intro n
    induction n with
    | zero =>
      intro k h1 hn
      exact absurd hn (Nat.not_lt_zero _)
    | succ n ih =>
      intro k h1 hn H locs ls hst hl
      refine lv_iload_n hx hb dX0_layDays_2 rfl (lv_at hl 0 rfl) ?_
      refine lv_sipush (v := 366) hx hb dX0_layDays_3 (by decide) ?_
      refine lv_icmp_ge (tgt := 24) hx hb dX0_layDays_6 (by decide) (fun c_6 => ?_) (fun c_6 => ?_)
      · skip
        have hk1 : k = 366 := Nat.le_antisymm h1 (Nat.le_of_not_lt (fun z => nI_ge z (by decide) c_6))
        subst hk1
        have hst : SS D A s [(h, .inr (0, [.int se, .int sh, .int sp, .int de, .int po, .ref qn, .ref qd, .ref qr, .ref qs, .int lo])), (qr, .inl (cI, 366, .inl (nR (fun x => x))))] H locs := q_arr hst 1 rfl (layK_all f) _ rfl
        exact q_retV hQ hE hr hk hst () (trivial) (rfl) dX0_layDays_24
      · skip
        have hk1 : k < 366 := Nat.lt_of_not_le (fun z => c_6 (nI_le z (by omega)))
        refine lv_aload_n hx hb dX0_layDays_9 rfl (lv_at hl 1 rfl) ?_
        refine gf_X0_35 hE hst 0 rfl rfl dX0_layDays_10 ?_
        refine lv_iload_n hx hb dX0_layDays_13 rfl (lv_at hl 0 rfl) ?_
        refine lv_iload_n hx hb dX0_layDays_14 rfl (lv_at hl 0 rfl) ?_
        refine q_goV (q_rNS hE lk_X0_67 (c_X6_put l D cI cJ cZ qr 366 (layK f k) (nI k) (nI k) (by first | assumption | decide | omega) H.size) hst [1] rfl rfl rfl hl.1 ⟨(Nat.le_of_ble_eq_true rfl), (Nat.le_of_ble_eq_true rfl)⟩ (rest := []) rfl (Nat.le_of_ble_eq_true rfl) dX0_layDays_15 ⟨(Nat.le_of_ble_eq_true rfl), (Nat.le_of_ble_eq_true rfl)⟩) hE hst [1] rfl (fun _ => rfl) (fun (_ : Unit) => [(h, .inr (0, [.int se, .int sh, .int sp, .int de, .int po, .ref qn, .ref qd, .ref qr, .ref qs, .int lo])), (qr, .inl (cI, 366, .inl (putI 366 (layK f k) (nI k) (nI k))))]) (fun _ => rfl) (fun _ H locs hF hst => ?_)
        have hst : SS D A s [(h, .inr (0, [.int se, .int sh, .int sp, .int de, .int po, .ref qn, .ref qd, .ref qr, .ref qs, .int lo])), (qr, .inl (cI, 366, .inl (layK f (k + 1))))] H locs := by have h := hst; rw [layK_s f hk1] at h; exact h
        refine lv_iinc (v := nI (k + 1)) (lv' := [(1, .int (nI (k + 1))), (0, .ref h)]) hx hb dX0_layDays_18 hl (k := 0) rfl (nI_next _) (by decide) rfl (fun ls hl => ?_)
        refine lv_goto (tgt := 2) hx hb dX0_layDays_21 (by decide) ?_
        exact ih (k + 1) (by omega) (by omega) _ _ _ (hst) (lv_sub hl [0, 1] rfl)
  refine lv_iconst (v := 0) hx hb dX0_layDays_0 (by decide) ?_
  refine lv_istore_n (lv' := [(1, .int 0), (0, .ref h)]) hx hb dX0_layDays_1 rfl hl (by decide) rfl (fun ls hl => ?_)
  exact loop_2 (367) 0 (by decide) (by decide) _ _ _ (by rw [layK_0]; exact hst) (lv_sub hl [0, 1] rfl)
set_option maxHeartbeats 4000000 in
set_option maxRecDepth 100000 in
theorem c_X0_shakeRow (l : Launch) (D : va_G) (cI cJ cZ : ClassId) (h : Nat) (qn : Nat) (qd : Nat) (qr : Nat) (qs : Nat) (kS : Nat) (sp : Nat) (se : Int32) (de : Int32) (po : Int32) (lo : Int32) (r : Nat → Nat) (hk0 : kS < 2147483648) (hs : sp < 366) : CtV l D cI cJ cZ yX0_shakeRow cX0_shakeRow 4 none 2 0 0 [.ref h] [(h, .inr (0, [.int se, .int (nI kS), .int (nI sp), .int de, .int po, .ref qn, .ref qd, .ref qr, .ref qs, .int lo])), (qr, .inl (cI, 366, .inl (nR r)))] (fun (_ : Unit) => True) (fun (_ : Unit) => [(h, .inr (0, [.int se, .int (nI kS), .int (nI sp), .int de, .int po, .ref qn, .ref qd, .ref qr, .ref qs, .int ((shN sp kS (r, lo)).2)])), (qr, .inl (cI, 366, .inl (nR (shN sp kS (r, lo)).1)))]) := by
  refine q_entV (own := RX0) rfl rfl (Nat.le_of_ble_eq_true rfl) ?_
  intro p e s m args below meth c A ls QQ hQ hE hx hb hr hk hin hA hl hst
  have hl : lv_has ls 4 [(0, .ref h)] := hl
  have loop_2 : ∀ (n : Nat) (kk : Nat), (kk ≤ kS) → (kS - kk) < n → ∀ (H : Heap) (locs : List Loc) (ls : Array Slot), SS D A s [(h, .inr (0, [.int se, .int (nI kS), .int (nI sp), .int de, .int po, .ref qn, .ref qd, .ref qr, .ref qs, .int ((shN sp kk (r, lo)).2)])), (qr, .inl (cI, 366, .inl (nR (shN sp kk (r, lo)).1)))] H locs → lv_has ls 4 [(1, .int (nI kk)), (0, .ref h)] → W p l e (rmN 2 0 0) s m args below meth c H locs 0 0 QQ (F0 m 2 ls []) := by
    intro n
    induction n with
    | zero =>
      intro kk h1 hn
      exact absurd hn (Nat.not_lt_zero _)
    | succ n ih =>
      intro kk h1 hn H locs ls hst hl
      refine lv_iload_n hx hb dX0_shakeRow_2 rfl (lv_at hl 0 rfl) ?_
      refine lv_aload_n hx hb dX0_shakeRow_3 rfl (lv_at hl 1 rfl) ?_
      refine gf_X0_15 hE hst 0 rfl rfl dX0_shakeRow_4 ?_
      refine lv_icmp_ge (tgt := 60) hx hb dX0_shakeRow_7 (by decide) (fun c_7 => ?_) (fun c_7 => ?_)
      · skip
        have hk1 : kk = kS := Nat.le_antisymm h1 (Nat.le_of_not_lt (fun z => nI_ge z (by omega) c_7))
        subst hk1
        exact q_retV hQ hE hr hk hst () (trivial) (rfl) dX0_shakeRow_60
      · skip
        have hk1 : kk < kS := Nat.lt_of_not_le (fun z => c_7 (nI_le z (by omega)))
        refine lv_aload_n hx hb dX0_shakeRow_10 rfl (lv_at hl 1 rfl) ?_
        refine lv_sipush (v := 366) hx hb dX0_shakeRow_11 (by decide) ?_
        refine q_goI (q_rV hE lk_X0_71 (c_X0_lot l D cI cJ cZ h qn qd qr qs se (nI kS) (nI sp) de po ((shN sp kk (r, lo)).2) 366 (by first | assumption | decide | omega) (by first | assumption | decide | omega) H.size) hst [0] rfl rfl rfl rfl rfl hl.1 ⟨(Nat.le_of_ble_eq_true rfl), (Nat.le_of_ble_eq_true rfl)⟩ (rest := []) rfl (Nat.le_of_ble_eq_true rfl) dX0_shakeRow_14 ⟨(Nat.le_of_ble_eq_true rfl), (Nat.le_of_ble_eq_true rfl)⟩) hE hst [0] rfl (fun _ => rfl) (fun (_ : Unit) => [(h, .inr (0, [.int se, .int (nI kS), .int (nI sp), .int de, .int po, .ref qn, .ref qd, .ref qr, .ref qs, .int (nxt ((shN sp kk (r, lo)).2))])), (qr, .inl (cI, 366, .inl (nR (shN sp kk (r, lo)).1)))]) (fun _ => rfl) (fun _ H locs hF hst => ?_)
        refine lv_istore_n (lv' := [(2, .int (nI (lotN (nxt ((shN sp kk (r, lo)).2)) 366))), (1, .int (nI kk)), (0, .ref h)]) hx hb dX0_shakeRow_17 rfl hl (by decide) rfl (fun ls hl => ?_)
        refine lv_aload_n hx hb dX0_shakeRow_18 rfl (lv_at hl 2 rfl) ?_
        refine lv_iconst (v := 2) hx hb dX0_shakeRow_19 (by decide) ?_
        refine lv_aload_n hx hb dX0_shakeRow_20 rfl (lv_at hl 2 rfl) ?_
        refine gf_X0_18 hE hst 0 rfl rfl dX0_shakeRow_21 ?_
        refine lv_imul hx hb dX0_shakeRow_24 ?_
        refine lv_iconst (v := 1) hx hb dX0_shakeRow_25 (by decide) ?_
        refine lv_iadd hx hb dX0_shakeRow_26 ?_
        refine q_top (x' := nI (2 * sp + 1)) (by rw [show (2 : Int32) = nI 2 from rfl, pk_mul, nI_1]) ?_
        refine q_goI (q_rV hE lk_X0_71 (c_X0_lot l D cI cJ cZ h qn qd qr qs se (nI kS) (nI sp) de po (nxt ((shN sp kk (r, lo)).2)) (2 * sp + 1) (by omega) (by omega) H.size) hst [0] rfl rfl rfl rfl rfl hl.1 ⟨(Nat.le_of_ble_eq_true rfl), (Nat.le_of_ble_eq_true rfl)⟩ (rest := []) rfl (Nat.le_of_ble_eq_true rfl) dX0_shakeRow_27 ⟨(Nat.le_of_ble_eq_true rfl), (Nat.le_of_ble_eq_true rfl)⟩) hE hst [0] rfl (fun _ => rfl) (fun (_ : Unit) => [(h, .inr (0, [.int se, .int (nI kS), .int (nI sp), .int de, .int po, .ref qn, .ref qd, .ref qr, .ref qs, .int (nxt (nxt ((shN sp kk (r, lo)).2)))])), (qr, .inl (cI, 366, .inl (nR (shN sp kk (r, lo)).1)))]) (fun _ => rfl) (fun _ H locs hF hst => ?_)
        refine lv_aload_n hx hb dX0_shakeRow_30 rfl (lv_at hl 2 rfl) ?_
        refine gf_X0_18 hE hst 0 rfl rfl dX0_shakeRow_31 ?_
        refine lv_isub hx hb dX0_shakeRow_34 ?_
        refine lv_istore_n (lv' := [(3, .int ((nI (lotN (nxt (nxt ((shN sp kk (r, lo)).2))) (2 * sp + 1))) - (nI sp))), (2, .int (nI (lotN (nxt ((shN sp kk (r, lo)).2)) 366))), (1, .int (nI kk)), (0, .ref h)]) hx hb dX0_shakeRow_35 rfl hl (by decide) rfl (fun ls hl => ?_)
        refine lv_aload_n hx hb dX0_shakeRow_36 rfl (lv_at hl 3 rfl) ?_
        refine lv_iload_n hx hb dX0_shakeRow_37 rfl (lv_at hl 1 rfl) ?_
        refine lv_iconst (v := 0) hx hb dX0_shakeRow_38 (by decide) ?_
        refine lv_sipush (v := 365) hx hb dX0_shakeRow_39 (by decide) ?_
        refine lv_iload_n hx hb dX0_shakeRow_42 rfl (lv_at hl 1 rfl) ?_
        refine lv_iload_n hx hb dX0_shakeRow_43 rfl (lv_at hl 0 rfl) ?_
        refine lv_iadd hx hb dX0_shakeRow_44 ?_
        refine q_min hE wk_1_82 hl.1 (Nat.le_of_ble_eq_true rfl) (Nat.le_of_ble_eq_true rfl) (Nat.le_of_ble_eq_true rfl) (Nat.le_of_ble_eq_true rfl) dX0_shakeRow_45 ?_
        refine q_max hE wk_1_85 hl.1 (Nat.le_of_ble_eq_true rfl) (Nat.le_of_ble_eq_true rfl) (Nat.le_of_ble_eq_true rfl) (Nat.le_of_ble_eq_true rfl) dX0_shakeRow_48 ?_
        refine q_top (x' := nI (shB sp (shN sp kk (r, lo)).2)) (clamp_ok (lotN_lt _ (by decide)) (Nat.lt_of_lt_of_le (lotN_lt _ (by omega)) (by omega : 2 * sp + 1 ≤ 732)) hs) ?_
        refine q_goV (q_rV hE lk_X0_84 (c_X0_swap l D cI cJ cZ h qn qd qr qs se (nI kS) (nI sp) de po (nxt (nxt ((shN sp kk (r, lo)).2))) ((shN sp kk (r, lo)).1) (lotN (nxt (shN sp kk (r, lo)).2) 366) (shB sp (shN sp kk (r, lo)).2) (lotN_lt _ (by decide)) (shB_lt _ _) H.size) hst [0, 1] rfl rfl rfl rfl rfl hl.1 ⟨(Nat.le_of_ble_eq_true rfl), (Nat.le_of_ble_eq_true rfl)⟩ (rest := []) rfl (Nat.le_of_ble_eq_true rfl) dX0_shakeRow_51 ⟨(Nat.le_of_ble_eq_true rfl), (Nat.le_of_ble_eq_true rfl)⟩) hE hst [0, 1] rfl (fun _ => rfl) (fun (_ : Unit) => [(h, .inr (0, [.int se, .int (nI kS), .int (nI sp), .int de, .int po, .ref qn, .ref qd, .ref qr, .ref qs, .int (nxt (nxt ((shN sp kk (r, lo)).2)))])), (qr, .inl (cI, 366, .inl (nR (swN ((shN sp kk (r, lo)).1) (lotN (nxt (shN sp kk (r, lo)).2) 366) (shB sp (shN sp kk (r, lo)).2)))))]) (fun _ => rfl) (fun _ H locs hF hst => ?_)
        refine lv_iinc (v := nI (kk + 1)) (lv' := [(1, .int (nI (kk + 1))), (3, .int ((nI (lotN (nxt (nxt ((shN sp kk (r, lo)).2))) (2 * sp + 1))) - (nI sp))), (2, .int (nI (lotN (nxt ((shN sp kk (r, lo)).2)) 366))), (0, .ref h)]) hx hb dX0_shakeRow_54 hl (k := 2) rfl (nI_next _) (by decide) rfl (fun ls hl => ?_)
        refine lv_goto (tgt := 2) hx hb dX0_shakeRow_57 (by decide) ?_
        exact ih (kk + 1) (by omega) (by omega) _ _ _ (hst) (lv_sub hl [0, 3] rfl)
  refine lv_iconst (v := 0) hx hb dX0_shakeRow_0 (by decide) ?_
  refine lv_istore_n (lv' := [(1, .int 0), (0, .ref h)]) hx hb dX0_shakeRow_1 rfl hl (by decide) rfl (fun ls hl => ?_)
  exact loop_2 (kS + 1) 0 (Nat.zero_le _) (by omega) _ _ _ (hst) (lv_sub hl [0, 1] rfl)
set_option maxHeartbeats 4000000 in
set_option maxRecDepth 100000 in
theorem c_X0_turnRow (l : Launch) (D : va_G) (cI cJ cZ : ClassId) (h : Nat) (qn : Nat) (qd : Nat) (qr : Nat) (qs : Nat) (se : Int32) (sh : Int32) (sp : Int32) (de : Int32) (po : Int32) (lo : Int32) (r : Nat → Nat) : CtV l D cI cJ cZ yX0_turnRow cX0_turnRow 2 none 2 0 0 [.ref h] [(h, .inr (0, [.int se, .int sh, .int sp, .int de, .int po, .ref qn, .ref qd, .ref qr, .ref qs, .int lo])), (qr, .inl (cI, 366, .inl (nR r)))] (fun (_ : Unit) => True) (fun (_ : Unit) => [(h, .inr (0, [.int se, .int sh, .int sp, .int de, .int po, .ref qn, .ref qd, .ref qr, .ref qs, .int lo])), (qr, .inl (cI, 366, .inl (nR (trN 183 r))))]) := by
  refine q_entV (own := RX0) rfl rfl (Nat.le_of_ble_eq_true rfl) ?_
  intro p e s m args below meth c A ls QQ hQ hE hx hb hr hk hin hA hl hst
  have hl : lv_has ls 2 [(0, .ref h)] := hl
  have loop_2 : ∀ (n : Nat) (k : Nat), (k ≤ 183) → (183 - k) < n → ∀ (H : Heap) (locs : List Loc) (ls : Array Slot), SS D A s [(h, .inr (0, [.int se, .int sh, .int sp, .int de, .int po, .ref qn, .ref qd, .ref qr, .ref qs, .int lo])), (qr, .inl (cI, 366, .inl (nR (trN k r))))] H locs → lv_has ls 2 [(1, .int (nI k)), (0, .ref h)] → W p l e (rmN 2 0 0) s m args below meth c H locs 0 0 QQ (F0 m 2 ls []) := by
    intro n
    induction n with
    | zero =>
      intro k h1 hn
      exact absurd hn (Nat.not_lt_zero _)
    | succ n ih =>
      intro k h1 hn H locs ls hst hl
      refine lv_iload_n hx hb dX0_turnRow_2 rfl (lv_at hl 0 rfl) ?_
      refine lv_sipush (v := 183) hx hb dX0_turnRow_3 (by decide) ?_
      refine lv_icmp_ge (tgt := 25) hx hb dX0_turnRow_6 (by decide) (fun c_6 => ?_) (fun c_6 => ?_)
      · skip
        have hk1 : k = 183 := Nat.le_antisymm h1 (Nat.le_of_not_lt (fun z => nI_ge z (by decide) c_6))
        subst hk1
        exact q_retV hQ hE hr hk hst () (trivial) (rfl) dX0_turnRow_25
      · skip
        have hk1 : k < 183 := Nat.lt_of_not_le (fun z => c_6 (nI_le z (by omega)))
        refine lv_aload_n hx hb dX0_turnRow_9 rfl (lv_at hl 1 rfl) ?_
        refine lv_iload_n hx hb dX0_turnRow_10 rfl (lv_at hl 0 rfl) ?_
        refine lv_sipush (v := 365) hx hb dX0_turnRow_11 (by decide) ?_
        refine lv_iload_n hx hb dX0_turnRow_14 rfl (lv_at hl 0 rfl) ?_
        refine lv_isub hx hb dX0_turnRow_15 ?_
        refine q_top (x' := nI (365 - k)) (by rw [show (365 : Int32) = nI 365 from rfl, pk_sub (by omega)]) ?_
        refine q_goV (q_rV hE lk_X0_84 (c_X0_swap l D cI cJ cZ h qn qd qr qs se sh sp de po lo (trN k r) k (365 - k) (by omega) (by omega) H.size) hst [0, 1] rfl rfl rfl rfl rfl hl.1 ⟨(Nat.le_of_ble_eq_true rfl), (Nat.le_of_ble_eq_true rfl)⟩ (rest := []) rfl (Nat.le_of_ble_eq_true rfl) dX0_turnRow_16 ⟨(Nat.le_of_ble_eq_true rfl), (Nat.le_of_ble_eq_true rfl)⟩) hE hst [0, 1] rfl (fun _ => rfl) (fun (_ : Unit) => [(h, .inr (0, [.int se, .int sh, .int sp, .int de, .int po, .ref qn, .ref qd, .ref qr, .ref qs, .int lo])), (qr, .inl (cI, 366, .inl (nR (swN (trN k r) k (365 - k)))))]) (fun _ => rfl) (fun _ H locs hF hst => ?_)
        refine lv_iinc (v := nI (k + 1)) (lv' := [(1, .int (nI (k + 1))), (0, .ref h)]) hx hb dX0_turnRow_19 hl (k := 0) rfl (nI_next _) (by decide) rfl (fun ls hl => ?_)
        refine lv_goto (tgt := 2) hx hb dX0_turnRow_22 (by decide) ?_
        exact ih (k + 1) (by omega) (by omega) _ _ _ (hst) (lv_sub hl [0, 1] rfl)
  refine lv_iconst (v := 0) hx hb dX0_turnRow_0 (by decide) ?_
  refine lv_istore_n (lv' := [(1, .int 0), (0, .ref h)]) hx hb dX0_turnRow_1 rfl hl (by decide) rfl (fun ls hl => ?_)
  exact loop_2 (184) 0 (by decide) (by decide) _ _ _ (hst) (lv_sub hl [0, 1] rfl)
theorem gap_1 {j i : Nat} (h : j + i < 366) (c : (366 : Int32) - nI j ≤ nI i) : False := by
  rw [show (366 : Int32) = nI 366 from rfl, pk_sub (by omega)] at c
  exact nI_ge (by omega) (by omega) c
theorem gap_2 {j i : Nat} (h : j + i < 366) (c : ¬ nI i ≤ 0) : ¬ nI j + 1 < 0 ∧ ¬ nI j < 0 ∧ ¬ nI i < 0 ∧ (nI j + 1).toNatClampNeg + (nI i).toNatClampNeg ≤ 366 ∧ (nI j).toNatClampNeg + (nI i).toNatClampNeg ≤ 366 := by
  rw [nI_1, nI_clamp (by omega), nI_clamp (by omega), nI_clamp (by omega)]
  exact ⟨nI_pos (by omega), nI_pos (by omega), nI_pos (by omega), by omega, by omega⟩
theorem gap_3 (r : Nat → Nat) {j i : Nat} (h : j + i < 366) : ∀ x, x < 366 → va_cpy (nR r) (nR r) (nI j + 1).toNatClampNeg (nI j).toNatClampNeg (nI i).toNatClampNeg x = nR (clN r j i) x := by
  intro x _
  rw [nI_1, nI_clamp (by omega), nI_clamp (by omega), nI_clamp (by omega)]
  exact cpy_cl r j i x
theorem gap_4 (r : Nat → Nat) {j i : Nat} (hi : i < 366) (c : nI i ≤ 0) : nR r = nR (clN r j i) := by
  have : i = 0 := by
    rcases Nat.eq_zero_or_pos i with h | h
    · exact h
    · exact absurd c (nI_nle h (by omega))
  subst this
  funext x
  unfold nR clN
  rw [if_neg (by omega)]
set_option maxHeartbeats 4000000 in
set_option maxRecDepth 100000 in
theorem c_X0_closeGap (l : Launch) (D : va_G) (cI cJ cZ : ClassId) (h : Nat) (qn : Nat) (qd : Nat) (qr : Nat) (qs : Nat) (se : Int32) (sh : Int32) (sp : Int32) (de : Int32) (po : Int32) (lo : Int32) (r : Nat → Nat) (j0 : Nat) (i0 : Nat) (hg : j0 + i0 < 366) : CtV l D cI cJ cZ yX0_closeGap cX0_closeGap 3 none 1 0 0 [.ref h, .int (nI j0), .int (nI i0)] [(h, .inr (0, [.int se, .int sh, .int sp, .int de, .int po, .ref qn, .ref qd, .ref qr, .ref qs, .int lo])), (qr, .inl (cI, 366, .inl (nR r)))] (fun (_ : Unit) => True) (fun (_ : Unit) => [(h, .inr (0, [.int se, .int sh, .int sp, .int de, .int po, .ref qn, .ref qd, .ref qr, .ref qs, .int lo])), (qr, .inl (cI, 366, .inl (nR (clN r j0 i0))))]) := by
  refine q_entV (own := RX0) rfl rfl (Nat.le_of_ble_eq_true rfl) ?_
  intro p e s m args below meth c A ls QQ hQ hE hx hb hr hk hin hA hl hst
  have hl : lv_has ls 3 [(0, .ref h), (1, .int (nI j0)), (2, .int (nI i0))] := hl
  refine lv_iload_n hx hb dX0_closeGap_0 rfl (lv_at hl 1 rfl) ?_
  refine lv_if_lt (tgt := 33) hx hb dX0_closeGap_1 (by decide) (fun c_1 => ?_) (fun c_1 => ?_)
  · skip
    exact absurd c_1 (nI_pos (by omega))
  · skip
    refine lv_iload_n hx hb dX0_closeGap_4 rfl (lv_at hl 2 rfl) ?_
    refine lv_if_le (tgt := 33) hx hb dX0_closeGap_5 (by decide) (fun c_5 => ?_) (fun c_5 => ?_)
    · skip
      have hst : SS D A s [(h, .inr (0, [.int se, .int sh, .int sp, .int de, .int po, .ref qn, .ref qd, .ref qr, .ref qs, .int lo])), (qr, .inl (cI, 366, .inl (nR r)))] s.heap [] := hst
      exact q_retV hQ hE hr hk hst () (trivial) (by rw [← gap_4 r (by omega) c_5]) dX0_closeGap_33
    · skip
      refine lv_iload_n hx hb dX0_closeGap_8 rfl (lv_at hl 2 rfl) ?_
      refine lv_sipush (v := 366) hx hb dX0_closeGap_9 (by decide) ?_
      refine lv_iload_n hx hb dX0_closeGap_12 rfl (lv_at hl 1 rfl) ?_
      refine lv_isub hx hb dX0_closeGap_13 ?_
      refine lv_icmp_ge (tgt := 33) hx hb dX0_closeGap_14 (by decide) (fun c_14 => ?_) (fun c_14 => ?_)
      · skip
        exact absurd c_14 (fun z => gap_1 hg z)
      · skip
        refine lv_aload_n hx hb dX0_closeGap_17 rfl (lv_at hl 0 rfl) ?_
        refine gf_X0_35 hE hst 0 rfl rfl dX0_closeGap_18 ?_
        refine lv_iload_n hx hb dX0_closeGap_21 rfl (lv_at hl 1 rfl) ?_
        refine lv_iconst (v := 1) hx hb dX0_closeGap_22 (by decide) ?_
        refine lv_iadd hx hb dX0_closeGap_23 ?_
        refine lv_aload_n hx hb dX0_closeGap_24 rfl (lv_at hl 0 rfl) ?_
        refine gf_X0_35 hE hst 0 rfl rfl dX0_closeGap_25 ?_
        refine lv_iload_n hx hb dX0_closeGap_28 rfl (lv_at hl 1 rfl) ?_
        refine lv_iload_n hx hb dX0_closeGap_29 rfl (lv_at hl 2 rfl) ?_
        refine va_copyi hx hb (hE.1.2.2.1.trans hl.1.symm) hE.1.2.2.2.1 (hE.1.2.2.2.2 _ wk_1_107) (hE.1.2.2.2.2 _ wk_1_109) (hE.1.2.2.2.2 _ wk_1_108) (hE.1.2.2.2.2 _ wk_1_6) hE.2.1 hst.1 hst.2.1 hst.2.2 1 1 0 0 (ty := .int) rfl rfl rfl rfl rfl (gap_2 hg c_5).1 (gap_2 hg c_5).2.1 (gap_2 hg c_5).2.2.1 (gap_2 hg c_5).2.2.2.1 (gap_2 hg c_5).2.2.2.2 (fun _ _ => rfl) (Nat.le_of_ble_eq_true rfl) (Nat.le_of_ble_eq_true rfl) dX0_closeGap_30 (fun H locs g1 g2 g3 => ?_)
        have hst : SS D A s [(h, .inr (0, [.int se, .int sh, .int sp, .int de, .int po, .ref qn, .ref qd, .ref qr, .ref qs, .int lo])), (qr, .inl (cI, 366, .inl (va_cpy (nR r) (nR r) ((nI j0) + 1).toNatClampNeg (nI j0).toNatClampNeg (nI i0).toNatClampNeg)))] H locs := ⟨g1, g2, g3⟩
        have hst : SS D A s [(h, .inr (0, [.int se, .int sh, .int sp, .int de, .int po, .ref qn, .ref qd, .ref qr, .ref qs, .int lo])), (qr, .inl (cI, 366, .inl (nR (clN r j0 i0))))] H locs := q_arr hst 1 rfl (gap_3 r hg) _ rfl
        exact q_retV hQ hE hr hk hst () (trivial) (rfl) dX0_closeGap_33
theorem min_dep {de k : Nat} (hd : de < 2147483648) (hk : k < 366) : (if nI (366 - k) < nI de then nI (366 - k) else nI de) = nI (min de (366 - k)) := by
  by_cases h : nI (366 - k) < nI de
  · rw [if_pos h]
    rw [nI_ltI (by omega) hd] at h
    rw [show min de (366 - k) = 366 - k by omega]
  · rw [if_neg h]
    rw [nI_ltI (by omega) hd] at h
    rw [show min de (366 - k) = de by omega]
set_option maxHeartbeats 4000000 in
set_option maxRecDepth 100000 in
theorem c_X0_drawRow (l : Launch) (D : va_G) (cI cJ cZ : ClassId) (h : Nat) (qn : Nat) (qd : Nat) (qr : Nat) (qs : Nat) (de : Nat) (se : Int32) (sh : Int32) (sp : Int32) (po : Int32) (lo : Int32) (r : Nat → Nat) (nd : Nat → Int32) (dn : Nat → Int32) (hd1 : 1 ≤ de) (hd2 : de < 2147483648) (h0 : rowOk 366 r) : CtV l D cI cJ cZ yX0_drawRow cX0_drawRow 6 none 2 0 0 [.ref h] [(h, .inr (0, [.int se, .int sh, .int sp, .int (nI de), .int po, .ref qn, .ref qd, .ref qr, .ref qs, .int lo])), (qn, .inl (cI, 366, .inl nd)), (qd, .inl (cI, 367, .inl dn)), (qr, .inl (cI, 366, .inl (nR r)))] (fun (_ : Unit) => True) (fun (_ : Unit) => [(h, .inr (0, [.int se, .int sh, .int sp, .int (nI de), .int po, .ref qn, .ref qd, .ref qr, .ref qs, .int ((drN de 366 (r, lo)).2)])), (qn, .inl (cI, 366, .inl (ndN de (r, lo) nd 366))), (qd, .inl (cI, 367, .inl (dnN de (r, lo) dn 366))), (qr, .inl (cI, 366, .inl (nR (drN de 366 (r, lo)).1)))]) := by
  refine q_entV (own := RX0) rfl rfl (Nat.le_of_ble_eq_true rfl) ?_
  intro p e s m args below meth c A ls QQ hQ hE hx hb hr hk hin hA hl hst
  have hl : lv_has ls 6 [(0, .ref h)] := hl
  have loop_4 : ∀ (n : Nat) (k : Nat), (k ≤ 366) → (366 - k) < n → ∀ (H : Heap) (locs : List Loc) (ls : Array Slot), SS D A s [(h, .inr (0, [.int se, .int sh, .int sp, .int (nI de), .int po, .ref qn, .ref qd, .ref qr, .ref qs, .int ((drN de k (r, lo)).2)])), (qn, .inl (cI, 366, .inl (ndN de (r, lo) nd k))), (qd, .inl (cI, 367, .inl (dnN de (r, lo) dn k))), (qr, .inl (cI, 366, .inl (nR (drN de k (r, lo)).1)))] H locs → lv_has ls 6 [(1, .int (nI (366 - k))), (0, .ref h)] → W p l e (rmN 2 0 0) s m args below meth c H locs 0 0 QQ (F0 m 4 ls []) := by
    intro n
    induction n with
    | zero =>
      intro k h1 hn
      exact absurd hn (Nat.not_lt_zero _)
    | succ n ih =>
      intro k h1 hn H locs ls hst hl
      have hab : k < 366 → abN de k (drN de k (r, lo)).2 < 366 - k := fun q => (abN_lt _ hd1 q).1
      have hday : k < 366 → dayN de (r, lo) k < 366 := fun q => day_lt hd1 h0 q
      refine lv_iload_n hx hb dX0_drawRow_4 rfl (lv_at hl 0 rfl) ?_
      refine lv_if_le (tgt := 78) hx hb dX0_drawRow_5 (by decide) (fun c_5 => ?_) (fun c_5 => ?_)
      · skip
        have hk1 : k = 366 := Nat.le_antisymm h1 (Nat.le_of_not_lt (fun z => nI_nle (n := 366 - k) (by omega) (by omega) c_5))
        subst hk1
        exact q_retV hQ hE hr hk hst () (trivial) (rfl) dX0_drawRow_78
      · skip
        have hk1 : k < 366 := Nat.lt_of_not_le (fun z => c_5 (by rw [show 366 - k = 0 by omega]; decide))
        replace hab := hab hk1
        replace hday := hday hk1
        refine lv_aload_n hx hb dX0_drawRow_8 rfl (lv_at hl 1 rfl) ?_
        refine lv_aload_n hx hb dX0_drawRow_9 rfl (lv_at hl 1 rfl) ?_
        refine gf_X0_21 hE hst 0 rfl rfl dX0_drawRow_10 ?_
        refine lv_iload_n hx hb dX0_drawRow_13 rfl (lv_at hl 0 rfl) ?_
        refine q_min hE wk_1_82 hl.1 (Nat.le_of_ble_eq_true rfl) (Nat.le_of_ble_eq_true rfl) (Nat.le_of_ble_eq_true rfl) (Nat.le_of_ble_eq_true rfl) dX0_drawRow_14 ?_
        refine q_top (x' := nI (min de (366 - k))) (min_dep hd2 hk1) ?_
        refine q_goI (q_rV hE lk_X0_71 (c_X0_lot l D cI cJ cZ h qn qd qr qs se sh sp (nI de) po ((drN de k (r, lo)).2) (min de (366 - k)) (by omega) (by omega) H.size) hst [0] rfl rfl rfl rfl rfl hl.1 ⟨(Nat.le_of_ble_eq_true rfl), (Nat.le_of_ble_eq_true rfl)⟩ (rest := []) rfl (Nat.le_of_ble_eq_true rfl) dX0_drawRow_17 ⟨(Nat.le_of_ble_eq_true rfl), (Nat.le_of_ble_eq_true rfl)⟩) hE hst [0] rfl (fun _ => rfl) (fun (_ : Unit) => [(h, .inr (0, [.int se, .int sh, .int sp, .int (nI de), .int po, .ref qn, .ref qd, .ref qr, .ref qs, .int (nxt ((drN de k (r, lo)).2))])), (qn, .inl (cI, 366, .inl (ndN de (r, lo) nd k))), (qd, .inl (cI, 367, .inl (dnN de (r, lo) dn k))), (qr, .inl (cI, 366, .inl (nR (drN de k (r, lo)).1)))]) (fun _ => rfl) (fun _ H locs hF hst => ?_)
        refine lv_istore_n (lv' := [(2, .int (nI (abN de k (drN de k (r, lo)).2))), (1, .int (nI (366 - k))), (0, .ref h)]) hx hb dX0_drawRow_20 rfl hl (by decide) rfl (fun ls hl => ?_)
        refine lv_iload_n hx hb dX0_drawRow_21 rfl (lv_at hl 1 rfl) ?_
        refine lv_iconst (v := 1) hx hb dX0_drawRow_22 (by decide) ?_
        refine lv_isub hx hb dX0_drawRow_23 ?_
        refine lv_iload_n hx hb dX0_drawRow_24 rfl (lv_at hl 0 rfl) ?_
        refine lv_isub hx hb dX0_drawRow_25 ?_
        refine q_top (x' := nI (365 - k - abN de k (drN de k (r, lo)).2)) (by rw [show (1 : Int32) = nI 1 from rfl, pk_sub (by omega), pk_sub (by omega)]; congr 1; omega) ?_
        refine lv_istore_n (lv' := [(3, .int (nI (365 - k - abN de k (drN de k (r, lo)).2))), (2, .int (nI (abN de k (drN de k (r, lo)).2))), (1, .int (nI (366 - k))), (0, .ref h)]) hx hb dX0_drawRow_26 rfl hl (by decide) rfl (fun ls hl => ?_)
        refine lv_aload_n hx hb dX0_drawRow_27 rfl (lv_at hl 3 rfl) ?_
        refine gf_X0_35 hE hst 0 rfl rfl dX0_drawRow_28 ?_
        refine lv_iload_n hx hb dX0_drawRow_31 rfl (lv_at hl 0 rfl) ?_
        refine q_goI (q_rNS hE lk_X0_88 (c_X6_at l D cI cJ cZ qr 366 (nR (drN de k (r, lo)).1) (nI (365 - k - abN de k (drN de k (r, lo)).2)) (by first | assumption | decide | omega) H.size) hst [3] rfl rfl rfl hl.1 ⟨(Nat.le_of_ble_eq_true rfl), (Nat.le_of_ble_eq_true rfl)⟩ (rest := []) rfl (Nat.le_of_ble_eq_true rfl) dX0_drawRow_32 ⟨(Nat.le_of_ble_eq_true rfl), (Nat.le_of_ble_eq_true rfl)⟩) hE hst [3] rfl (fun _ => rfl) (fun (_ : Unit) => [(h, .inr (0, [.int se, .int sh, .int sp, .int (nI de), .int po, .ref qn, .ref qd, .ref qr, .ref qs, .int (nxt ((drN de k (r, lo)).2))])), (qn, .inl (cI, 366, .inl (ndN de (r, lo) nd k))), (qd, .inl (cI, 367, .inl (dnN de (r, lo) dn k))), (qr, .inl (cI, 366, .inl (nR (drN de k (r, lo)).1)))]) (fun _ => rfl) (fun _ H locs hF hst => ?_)
        refine q_top (x' := nI (dayN de (r, lo) k)) (atI_n (by omega) (by decide)) ?_
        refine lv_istore (lv' := [(4, .int (nI (dayN de (r, lo) k))), (3, .int (nI (365 - k - abN de k (drN de k (r, lo)).2))), (2, .int (nI (abN de k (drN de k (r, lo)).2))), (1, .int (nI (366 - k))), (0, .ref h)]) hx hb dX0_drawRow_35 hl (by decide) rfl (fun ls hl => ?_)
        refine lv_sipush (v := 367) hx hb dX0_drawRow_37 (by decide) ?_
        refine lv_iload_n hx hb dX0_drawRow_40 rfl (lv_at hl 3 rfl) ?_
        refine lv_isub hx hb dX0_drawRow_41 ?_
        refine q_top (x' := nI (k + 1)) (by rw [show (367 : Int32) = nI 367 from rfl, pk_sub (by omega)]; congr 1; omega) ?_
        refine lv_istore (lv' := [(5, .int (nI (k + 1))), (4, .int (nI (dayN de (r, lo) k))), (3, .int (nI (365 - k - abN de k (drN de k (r, lo)).2))), (2, .int (nI (abN de k (drN de k (r, lo)).2))), (1, .int (nI (366 - k))), (0, .ref h)]) hx hb dX0_drawRow_42 hl (by decide) rfl (fun ls hl => ?_)
        refine lv_aload_n hx hb dX0_drawRow_44 rfl (lv_at hl 5 rfl) ?_
        refine gf_X0_28 hE hst 0 rfl rfl dX0_drawRow_45 ?_
        refine lv_iload hx hb dX0_drawRow_48 (lv_at hl 1 rfl) ?_
        refine lv_iload hx hb dX0_drawRow_50 (lv_at hl 0 rfl) ?_
        refine q_goV (q_rNS hE lk_X0_67 (c_X6_put l D cI cJ cZ qn 366 (ndN de (r, lo) nd k) (nI (dayN de (r, lo) k)) (nI (k + 1)) (by first | assumption | decide | omega) H.size) hst [1] rfl rfl rfl hl.1 ⟨(Nat.le_of_ble_eq_true rfl), (Nat.le_of_ble_eq_true rfl)⟩ (rest := []) rfl (Nat.le_of_ble_eq_true rfl) dX0_drawRow_52 ⟨(Nat.le_of_ble_eq_true rfl), (Nat.le_of_ble_eq_true rfl)⟩) hE hst [1] rfl (fun _ => rfl) (fun (_ : Unit) => [(h, .inr (0, [.int se, .int sh, .int sp, .int (nI de), .int po, .ref qn, .ref qd, .ref qr, .ref qs, .int (nxt ((drN de k (r, lo)).2))])), (qn, .inl (cI, 366, .inl (putI 366 (ndN de (r, lo) nd k) (nI (dayN de (r, lo) k)) (nI (k + 1))))), (qd, .inl (cI, 367, .inl (dnN de (r, lo) dn k))), (qr, .inl (cI, 366, .inl (nR (drN de k (r, lo)).1)))]) (fun _ => rfl) (fun _ H locs hF hst => ?_)
        have hst : SS D A s [(h, .inr (0, [.int se, .int sh, .int sp, .int (nI de), .int po, .ref qn, .ref qd, .ref qr, .ref qs, .int (nxt ((drN de k (r, lo)).2))])), (qn, .inl (cI, 366, .inl (ndN de (r, lo) nd (k + 1)))), (qd, .inl (cI, 367, .inl (dnN de (r, lo) dn k))), (qr, .inl (cI, 366, .inl (nR (drN de k (r, lo)).1)))] H locs := by have h := hst; rw [putI_n (f := ndN de (r, lo) nd k) hday (by decide)] at h; exact h
        refine lv_aload_n hx hb dX0_drawRow_55 rfl (lv_at hl 5 rfl) ?_
        refine gf_X0_32 hE hst 0 rfl rfl dX0_drawRow_56 ?_
        refine lv_iload hx hb dX0_drawRow_59 (lv_at hl 0 rfl) ?_
        refine lv_iload hx hb dX0_drawRow_61 (lv_at hl 1 rfl) ?_
        refine q_goV (q_rNS hE lk_X0_67 (c_X6_put l D cI cJ cZ qd 367 (dnN de (r, lo) dn k) (nI (k + 1)) (nI (dayN de (r, lo) k)) (by first | assumption | decide | omega) H.size) hst [2] rfl rfl rfl hl.1 ⟨(Nat.le_of_ble_eq_true rfl), (Nat.le_of_ble_eq_true rfl)⟩ (rest := []) rfl (Nat.le_of_ble_eq_true rfl) dX0_drawRow_63 ⟨(Nat.le_of_ble_eq_true rfl), (Nat.le_of_ble_eq_true rfl)⟩) hE hst [2] rfl (fun _ => rfl) (fun (_ : Unit) => [(h, .inr (0, [.int se, .int sh, .int sp, .int (nI de), .int po, .ref qn, .ref qd, .ref qr, .ref qs, .int (nxt ((drN de k (r, lo)).2))])), (qn, .inl (cI, 366, .inl (ndN de (r, lo) nd (k + 1)))), (qd, .inl (cI, 367, .inl (putI 367 (dnN de (r, lo) dn k) (nI (k + 1)) (nI (dayN de (r, lo) k))))), (qr, .inl (cI, 366, .inl (nR (drN de k (r, lo)).1)))]) (fun _ => rfl) (fun _ H locs hF hst => ?_)
        have hst : SS D A s [(h, .inr (0, [.int se, .int sh, .int sp, .int (nI de), .int po, .ref qn, .ref qd, .ref qr, .ref qs, .int (nxt ((drN de k (r, lo)).2))])), (qn, .inl (cI, 366, .inl (ndN de (r, lo) nd (k + 1)))), (qd, .inl (cI, 367, .inl (dnN de (r, lo) dn (k + 1)))), (qr, .inl (cI, 366, .inl (nR (drN de k (r, lo)).1)))] H locs := by have h := hst; rw [putI_n (f := dnN de (r, lo) dn k) (by omega) (by decide)] at h; exact h
        refine lv_aload_n hx hb dX0_drawRow_66 rfl (lv_at hl 5 rfl) ?_
        refine lv_iload_n hx hb dX0_drawRow_67 rfl (lv_at hl 2 rfl) ?_
        refine lv_iload_n hx hb dX0_drawRow_68 rfl (lv_at hl 3 rfl) ?_
        refine q_goV (q_rV hE lk_X0_92 (c_X0_closeGap l D cI cJ cZ h qn qd qr qs se sh sp (nI de) po (nxt ((drN de k (r, lo)).2)) ((drN de k (r, lo)).1) (365 - k - abN de k (drN de k (r, lo)).2) (abN de k (drN de k (r, lo)).2) (by omega) H.size) hst [0, 3] rfl rfl rfl rfl rfl hl.1 ⟨(Nat.le_of_ble_eq_true rfl), (Nat.le_of_ble_eq_true rfl)⟩ (rest := []) rfl (Nat.le_of_ble_eq_true rfl) dX0_drawRow_69 ⟨(Nat.le_of_ble_eq_true rfl), (Nat.le_of_ble_eq_true rfl)⟩) hE hst [0, 3] rfl (fun _ => rfl) (fun (_ : Unit) => [(h, .inr (0, [.int se, .int sh, .int sp, .int (nI de), .int po, .ref qn, .ref qd, .ref qr, .ref qs, .int (nxt ((drN de k (r, lo)).2))])), (qn, .inl (cI, 366, .inl (ndN de (r, lo) nd (k + 1)))), (qd, .inl (cI, 367, .inl (dnN de (r, lo) dn (k + 1)))), (qr, .inl (cI, 366, .inl (nR (clN ((drN de k (r, lo)).1) (365 - k - abN de k (drN de k (r, lo)).2) (abN de k (drN de k (r, lo)).2)))))]) (fun _ => rfl) (fun _ H locs hF hst => ?_)
        refine lv_iinc (v := nI (366 - (k + 1))) (lv' := [(1, .int (nI (366 - (k + 1)))), (5, .int (nI (k + 1))), (4, .int (nI (dayN de (r, lo) k))), (3, .int (nI (365 - k - abN de k (drN de k (r, lo)).2))), (2, .int (nI (abN de k (drN de k (r, lo)).2))), (0, .ref h)]) hx hb dX0_drawRow_72 hl (k := 4) rfl (by rw [show Int32.ofInt (-1) = -1 from rfl, show 366 - k = 366 - (k + 1) + 1 by omega]; exact pk_m1 _) (by decide) rfl (fun ls hl => ?_)
        refine lv_goto (tgt := 4) hx hb dX0_drawRow_75 (by decide) ?_
        exact ih (k + 1) (by omega) (by omega) _ _ _ (hst) (lv_sub hl [0, 5] rfl)
  refine lv_sipush (v := 366) hx hb dX0_drawRow_0 (by decide) ?_
  refine lv_istore_n (lv' := [(1, .int 366), (0, .ref h)]) hx hb dX0_drawRow_3 rfl hl (by decide) rfl (fun ls hl => ?_)
  exact loop_4 (367) 0 (by decide) (by decide) _ _ _ (hst) (lv_sub hl [0, 1] rfl)
theorem jr_t (se : Int32) (kS sp : Nat) : jrX se kS sp true = (trN 183 (shN sp kS (fun x => x, se)).1, (shN sp kS (fun x => x, se)).2) := rfl
theorem jr_f (se : Int32) (kS sp : Nat) : jrX se kS sp false = ((shN sp kS (fun x => x, se)).1, (shN sp kS (fun x => x, se)).2) := rfl
set_option maxHeartbeats 4000000 in
set_option maxRecDepth 100000 in
theorem c_X0_draw (l : Launch) (D : va_G) (cI cJ cZ : ClassId) (h : Nat) (qn : Nat) (qd : Nat) (qr : Nat) (qs : Nat) (kS : Nat) (sp : Nat) (de : Nat) (se : Int32) (lo : Int32) (po : Bool) (nd : Nat → Int32) (dn : Nat → Int32) (f : Nat → Int32) (hk0 : kS < 2147483648) (hs : sp < 366) (hd1 : 1 ≤ de) (hd2 : de < 2147483648) (hz : dn 0 = 0) : CtV l D cI cJ cZ yX0_draw cX0_draw 1 none 3 0 0 [.ref h] [(h, .inr (0, [.int se, .int (nI kS), .int (nI sp), .int (nI de), .int (b2i po), .ref qn, .ref qd, .ref qr, .ref qs, .int lo])), (qn, .inl (cI, 366, .inl nd)), (qd, .inl (cI, 367, .inl dn)), (qr, .inl (cI, 366, .inl f))] (fun (u : Int32 × (Nat → Int32)) => True) (fun (u : Int32 × (Nat → Int32)) => [(h, .inr (0, [.int se, .int (nI kS), .int (nI sp), .int (nI de), .int (b2i po), .ref qn, .ref qd, .ref qr, .ref qs, .int u.1])), (qn, .inl (cI, 366, .inl (numF se kS sp de po))), (qd, .inl (cI, 367, .inl (dayF se kS sp de po))), (qr, .inl (cI, 366, .inl u.2))]) := by
  refine q_entV (own := RX0) rfl rfl (Nat.le_of_ble_eq_true rfl) ?_
  intro p e s m args below meth c A ls QQ hQ hE hx hb hr hk hin hA hl hst
  have hl : lv_has ls 1 [(0, .ref h)] := hl
  refine lv_aload_n hx hb dX0_draw_0 rfl (lv_at hl 0 rfl) ?_
  refine lv_aload_n hx hb dX0_draw_1 rfl (lv_at hl 0 rfl) ?_
  refine gf_X0_9 hE hst 0 rfl rfl dX0_draw_2 ?_
  refine pf_X0_42 hE hst 0 rfl (rfl) (rfl) (Nat.le_of_ble_eq_true rfl) [(h, .inr (0, [.int se, .int (nI kS), .int (nI sp), .int (nI de), .int (b2i po), .ref qn, .ref qd, .ref qr, .ref qs, .int se])), (qn, .inl (cI, 366, .inl nd)), (qd, .inl (cI, 367, .inl dn)), (qr, .inl (cI, 366, .inl f))] rfl dX0_draw_5 (fun H locs hst => ?_)
  refine lv_aload_n hx hb dX0_draw_8 rfl (lv_at hl 0 rfl) ?_
  refine q_goV (q_rV hE lk_X0_52 (c_X0_layDays l D cI cJ cZ h qn qd qr qs se (nI kS) (nI sp) (nI de) (b2i po) se f H.size) hst [0, 3] rfl rfl rfl rfl rfl hl.1 ⟨(Nat.le_of_ble_eq_true rfl), (Nat.le_of_ble_eq_true rfl)⟩ (rest := []) rfl (Nat.le_of_ble_eq_true rfl) dX0_draw_9 ⟨(Nat.le_of_ble_eq_true rfl), (Nat.le_of_ble_eq_true rfl)⟩) hE hst [0, 3] rfl (fun _ => rfl) (fun (_ : Unit) => [(h, .inr (0, [.int se, .int (nI kS), .int (nI sp), .int (nI de), .int (b2i po), .ref qn, .ref qd, .ref qr, .ref qs, .int se])), (qn, .inl (cI, 366, .inl nd)), (qd, .inl (cI, 367, .inl dn)), (qr, .inl (cI, 366, .inl (nR (fun x => x))))]) (fun _ => rfl) (fun _ H locs hF hst => ?_)
  refine lv_aload_n hx hb dX0_draw_12 rfl (lv_at hl 0 rfl) ?_
  refine q_goV (q_rV hE lk_X0_55 (c_X0_shakeRow l D cI cJ cZ h qn qd qr qs kS sp se (nI de) (b2i po) se (fun x => x) (by first | assumption | decide | omega) (by first | assumption | decide | omega) H.size) hst [0, 3] rfl rfl rfl rfl rfl hl.1 ⟨(Nat.le_of_ble_eq_true rfl), (Nat.le_of_ble_eq_true rfl)⟩ (rest := []) rfl (Nat.le_of_ble_eq_true rfl) dX0_draw_13 ⟨(Nat.le_of_ble_eq_true rfl), (Nat.le_of_ble_eq_true rfl)⟩) hE hst [0, 3] rfl (fun _ => rfl) (fun (_ : Unit) => [(h, .inr (0, [.int se, .int (nI kS), .int (nI sp), .int (nI de), .int (b2i po), .ref qn, .ref qd, .ref qr, .ref qs, .int ((shN sp kS ((fun x => x), se)).2)])), (qn, .inl (cI, 366, .inl nd)), (qd, .inl (cI, 367, .inl dn)), (qr, .inl (cI, 366, .inl (nR (shN sp kS ((fun x => x), se)).1)))]) (fun _ => rfl) (fun _ H locs hF hst => ?_)
  refine lv_aload_n hx hb dX0_draw_16 rfl (lv_at hl 0 rfl) ?_
  refine gf_X0_24 hE hst 0 rfl rfl dX0_draw_17 ?_
  refine lv_if_eq (tgt := 27) hx hb dX0_draw_20 (by decide) (fun c_20 => ?_) (fun c_20 => ?_)
  · skip
    have c_20 := b2i_f c_20
    have hst : SS D A s [(h, .inr (0, [.int se, .int (nI kS), .int (nI sp), .int (nI de), .int (b2i po), .ref qn, .ref qd, .ref qr, .ref qs, .int ((jrX se kS sp po).2)])), (qn, .inl (cI, 366, .inl nd)), (qd, .inl (cI, 367, .inl dn)), (qr, .inl (cI, 366, .inl (nR (jrX se kS sp po).1)))] H locs := by subst c_20; exact hst
    refine lv_aload_n hx hb dX0_draw_27 rfl (lv_at hl 0 rfl) ?_
    refine q_goV (q_rV hE lk_X0_61 (c_X0_drawRow l D cI cJ cZ h qn qd qr qs de se (nI kS) (nI sp) (b2i po) ((jrX se kS sp po).2) ((jrX se kS sp po).1) nd dn (hd1) (hd2) (rowOk_jr se kS sp po) H.size) hst [0, 1, 2, 3] rfl rfl rfl rfl rfl hl.1 ⟨(Nat.le_of_ble_eq_true rfl), (Nat.le_of_ble_eq_true rfl)⟩ (rest := []) rfl (Nat.le_of_ble_eq_true rfl) dX0_draw_28 ⟨(Nat.le_of_ble_eq_true rfl), (Nat.le_of_ble_eq_true rfl)⟩) hE hst [0, 1, 2, 3] rfl (fun _ => rfl) (fun (_ : Unit) => [(h, .inr (0, [.int se, .int (nI kS), .int (nI sp), .int (nI de), .int (b2i po), .ref qn, .ref qd, .ref qr, .ref qs, .int ((drN de 366 (((jrX se kS sp po).1), ((jrX se kS sp po).2))).2)])), (qn, .inl (cI, 366, .inl (ndN de (((jrX se kS sp po).1), ((jrX se kS sp po).2)) nd 366))), (qd, .inl (cI, 367, .inl (dnN de (((jrX se kS sp po).1), ((jrX se kS sp po).2)) dn 366))), (qr, .inl (cI, 366, .inl (nR (drN de 366 (((jrX se kS sp po).1), ((jrX se kS sp po).2))).1)))]) (fun _ => rfl) (fun _ H locs hF hst => ?_)
    have hst := q_arr hst 1 rfl (nd_any hd1 nd) _ rfl
    have hst := q_arr hst 2 rfl (dn_any dn hz) _ rfl
    exact q_retV hQ hE hr hk hst ((drN de 366 (jrX se kS sp po)).2, nR (drN de 366 (jrX se kS sp po)).1) (trivial) (rfl) dX0_draw_31
  · skip
    have c_20 := b2i_t c_20
    refine lv_aload_n hx hb dX0_draw_23 rfl (lv_at hl 0 rfl) ?_
    refine q_goV (q_rV hE lk_X0_58 (c_X0_turnRow l D cI cJ cZ h qn qd qr qs se (nI kS) (nI sp) (nI de) (b2i po) ((shN sp kS ((fun x => x), se)).2) ((shN sp kS ((fun x => x), se)).1) H.size) hst [0, 3] rfl rfl rfl rfl rfl hl.1 ⟨(Nat.le_of_ble_eq_true rfl), (Nat.le_of_ble_eq_true rfl)⟩ (rest := []) rfl (Nat.le_of_ble_eq_true rfl) dX0_draw_24 ⟨(Nat.le_of_ble_eq_true rfl), (Nat.le_of_ble_eq_true rfl)⟩) hE hst [0, 3] rfl (fun _ => rfl) (fun (_ : Unit) => [(h, .inr (0, [.int se, .int (nI kS), .int (nI sp), .int (nI de), .int (b2i po), .ref qn, .ref qd, .ref qr, .ref qs, .int ((shN sp kS ((fun x => x), se)).2)])), (qn, .inl (cI, 366, .inl nd)), (qd, .inl (cI, 367, .inl dn)), (qr, .inl (cI, 366, .inl (nR (trN 183 ((shN sp kS ((fun x => x), se)).1)))))]) (fun _ => rfl) (fun _ H locs hF hst => ?_)
    have hst : SS D A s [(h, .inr (0, [.int se, .int (nI kS), .int (nI sp), .int (nI de), .int (b2i po), .ref qn, .ref qd, .ref qr, .ref qs, .int ((jrX se kS sp po).2)])), (qn, .inl (cI, 366, .inl nd)), (qd, .inl (cI, 367, .inl dn)), (qr, .inl (cI, 366, .inl (nR (jrX se kS sp po).1)))] H locs := by subst c_20; exact hst
    refine lv_aload_n hx hb dX0_draw_27 rfl (lv_at hl 0 rfl) ?_
    refine q_goV (q_rV hE lk_X0_61 (c_X0_drawRow l D cI cJ cZ h qn qd qr qs de se (nI kS) (nI sp) (b2i po) ((jrX se kS sp po).2) ((jrX se kS sp po).1) nd dn (hd1) (hd2) (rowOk_jr se kS sp po) H.size) hst [0, 1, 2, 3] rfl rfl rfl rfl rfl hl.1 ⟨(Nat.le_of_ble_eq_true rfl), (Nat.le_of_ble_eq_true rfl)⟩ (rest := []) rfl (Nat.le_of_ble_eq_true rfl) dX0_draw_28 ⟨(Nat.le_of_ble_eq_true rfl), (Nat.le_of_ble_eq_true rfl)⟩) hE hst [0, 1, 2, 3] rfl (fun _ => rfl) (fun (_ : Unit) => [(h, .inr (0, [.int se, .int (nI kS), .int (nI sp), .int (nI de), .int (b2i po), .ref qn, .ref qd, .ref qr, .ref qs, .int ((drN de 366 (((jrX se kS sp po).1), ((jrX se kS sp po).2))).2)])), (qn, .inl (cI, 366, .inl (ndN de (((jrX se kS sp po).1), ((jrX se kS sp po).2)) nd 366))), (qd, .inl (cI, 367, .inl (dnN de (((jrX se kS sp po).1), ((jrX se kS sp po).2)) dn 366))), (qr, .inl (cI, 366, .inl (nR (drN de 366 (((jrX se kS sp po).1), ((jrX se kS sp po).2))).1)))]) (fun _ => rfl) (fun _ H locs hF hst => ?_)
    have hst := q_arr hst 1 rfl (nd_any hd1 nd) _ rfl
    have hst := q_arr hst 2 rfl (dn_any dn hz) _ rfl
    exact q_retV hQ hE hr hk hst ((drN de 366 (jrX se kS sp po)).2, nR (drN de 366 (jrX se kS sp po)).1) (trivial) (rfl) dX0_draw_31
