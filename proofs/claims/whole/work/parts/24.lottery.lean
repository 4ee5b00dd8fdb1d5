/-! the lottery -/
def mnum (nd bi : Nat → Int32) (m : Nat) : Int32 := nd (bi m).toNatClampNeg
theorem at_mnum {nd : Nat → Int32} {x : Int32} (h : vp_in x 366) : atI 366 nd x = nd x.toNatClampNeg := by
  obtain ⟨j, hj, rfl⟩ := vp_in_of h (by decide)
  rw [atI_n hj (by decide), nI_clamp (by omega)]
def evB (x : Int32) : Bool := decide (x - x / 2 * 2 = 0)
def clB (cut x : Int32) : Bool := decide (x ≤ cut)
def sevI (k : Int32) (c e : Bool) : Int32 := if k = 0 then (if c = true then 1 else 0) else if k = 1 then 1 else if k = 2 then 0 else if k = 3 then (if c = true then 3 else 0) else if k = 4 then (if c = true then 2 else 1) else if k = 5 then (if c = true then (if e = true then 1 else 0) else 0) else 0
def hsB (s : Int32) : Bool := decide (s = 1) || decide (s = 2)
def losI (la : Nat → Int32) (y : Int32) : Int32 := la 1 * (if 0 < 100 - la 2 * y then 100 - la 2 * y else 0) / 100
def chgI (la : Nat → Int32) (s y : Int32) : Int32 := if s = 1 then -losI la y else if s = 2 then -(losI la y / 2) else if s = 3 then la 3 else 0
def svF (cut : Int32) (nd ki bi : Nat → Int32) (m : Nat) : Int32 := sevI (ki m) (clB cut (mnum nd bi m)) (evB (mnum nd bi m))
def wagF (cut : Int32) (nd ki bi pa la : Nat → Int32) (y : Int32) (m : Nat) : Int32 := pa m + la 0 * y + chgI la (svF cut nd ki bi m) y - (if clB cut (mnum nd bi m) = true then la 4 else 0)
def tkB (k : Int32) (e : Bool) : Bool := decide (k = 0) || (decide (k = 5) && e)
def cntI (f : Nat → Bool) : Nat → Int32
  | 0 => 0
  | k + 1 => if f k = true then cntI f k + 1 else cntI f k
theorem cnt_t {f : Nat → Bool} {k : Nat} (h : f k = true) : cntI f (k + 1) = cntI f k + 1 := if_pos h
theorem cnt_f {f : Nat → Bool} {k : Nat} (h : f k = false) : cntI f (k + 1) = cntI f k := if_neg (by rw [h]; decide)
def sW (f : Nat → Bool) (w : Nat → Int64) : Nat → Int64
  | 0 => 0
  | k + 1 => if f k = true then sW f w k + w k else sW f w k
def sO (f : Nat → Bool) (w : Nat → Int64) : Nat → Int64
  | 0 => 0
  | k + 1 => if f k = true then sO f w k else sO f w k + w k
def cW (f : Nat → Bool) : Nat → Int32
  | 0 => 0
  | k + 1 => if f k = true then cW f k + 1 else cW f k
def cO (f : Nat → Bool) : Nat → Int32
  | 0 => 0
  | k + 1 => if f k = true then cO f k else cO f k + 1
def dfB (f : Nat → Bool) (n : Nat) : Bool := gapB (cW f n) (cO f n)
def dfN (f : Nat → Bool) (w : Nat → Int64) (n : Nat) : Int64 := gapN (sW f w n) (sO f w n) (cW f n) (cO f n)
def dfD (f : Nat → Bool) (n : Nat) : Int64 := gapD (cW f n) (cO f n)
def calF (cut : Int32) (nd bi : Nat → Int32) (m : Nat) : Bool := clB cut (mnum nd bi m)
def wgL (cut : Int32) (nd ki bi pa la : Nat → Int32) (y : Int32) (m : Nat) : Int64 := (wagF cut nd ki bi pa la y m).toInt64
def shL (cut : Int32) (nd ki bi : Nat → Int32) (m : Nat) : Int64 := if hsB (svF cut nd ki bi m) = true then 1 else 0
def exB (g : Nat → Bool) : Nat → Bool
  | 0 => false
  | k + 1 => exB g k || g k
theorem exB_t {g : Nat → Bool} {k : Nat} (h : g k = true) : ∀ n, k < n → exB g n = true
  | 0, h2 => absurd h2 (Nat.not_lt_zero _)
  | n + 1, h2 => by
    rw [exB]
    by_cases e : k = n
    · rw [← e, h, Bool.or_true]
    · rw [exB_t h n (by omega), Bool.true_or]
theorem c_X2_kindAtN (l : Launch) (D : va_G) (cI cJ cZ : ClassId) (h : Nat) (qk : Nat) (qb : Nat) (qp : Nat) (m0 : Nat) (sz : Int32) (ki : Nat → Int32) (hm : m0 < 60) : CtI l D cI cJ cZ yX2_kindAt cX2_kindAt 2 (some .int) 1 [.ref h, .int (nI m0)] [(h, .inr (2, [.ref qk, .ref qb, .ref qp, .int sz])), (qk, .inl (cI, 60, .inl ki))] (fun (_ : Unit) => ki m0) (fun (_ : Unit) => True) (fun (_ : Unit) => [(h, .inr (2, [.ref qk, .ref qb, .ref qp, .int sz])), (qk, .inl (cI, 60, .inl ki))]) := by
  have h := c_X2_kindAt l D cI cJ cZ h qk qb qp sz (nI m0) ki 
  rw [atI_n hm (by decide)] at h
  exact h
theorem c_X2_birthdayAtN (l : Launch) (D : va_G) (cI cJ cZ : ClassId) (h : Nat) (qk : Nat) (qb : Nat) (qp : Nat) (m0 : Nat) (sz : Int32) (bi : Nat → Int32) (hm : m0 < 60) : CtI l D cI cJ cZ yX2_birthdayAt cX2_birthdayAt 2 (some .int) 1 [.ref h, .int (nI m0)] [(h, .inr (2, [.ref qk, .ref qb, .ref qp, .int sz])), (qb, .inl (cI, 60, .inl bi))] (fun (_ : Unit) => bi m0) (fun (_ : Unit) => True) (fun (_ : Unit) => [(h, .inr (2, [.ref qk, .ref qb, .ref qp, .int sz])), (qb, .inl (cI, 60, .inl bi))]) := by
  have h := c_X2_birthdayAt l D cI cJ cZ h qk qb qp sz (nI m0) bi 
  rw [atI_n hm (by decide)] at h
  exact h
theorem c_X2_payAtN (l : Launch) (D : va_G) (cI cJ cZ : ClassId) (h : Nat) (qk : Nat) (qb : Nat) (qp : Nat) (m0 : Nat) (sz : Int32) (pa : Nat → Int32) (hm : m0 < 60) : CtI l D cI cJ cZ yX2_payAt cX2_payAt 2 (some .int) 1 [.ref h, .int (nI m0)] [(h, .inr (2, [.ref qk, .ref qb, .ref qp, .int sz])), (qp, .inl (cI, 60, .inl pa))] (fun (_ : Unit) => pa m0) (fun (_ : Unit) => True) (fun (_ : Unit) => [(h, .inr (2, [.ref qk, .ref qb, .ref qp, .int sz])), (qp, .inl (cI, 60, .inl pa))]) := by
  have h := c_X2_payAt l D cI cJ cZ h qk qb qp sz (nI m0) pa 
  rw [atI_n hm (by decide)] at h
  exact h
set_option maxHeartbeats 4000000 in
set_option maxRecDepth 100000 in
theorem c_X1_jarAt (l : Launch) (D : va_G) (cI cJ cZ : ClassId) (h : Nat) (j1 : Nat) (j2 : Nat) (mn : Nat) (lw : Nat) (sd : Nat) (sr : Nat) (cut : Int32) (least : Int32) (p0 : Int32) : CtR l D cI cJ cZ yX1_jarAt cX1_jarAt 2 (some (.object "GlassJar$Jar")) 0 [.ref h, .int p0] [(h, .inr (1, [.ref j1, .ref j2, .ref mn, .ref lw, .int cut, .int least, .ref sd, .ref sr]))] (fun (_ : Unit) => if p0 = 0 then j1 else j2) (fun (_ : Unit) => True) (fun (_ : Unit) => [(h, .inr (1, [.ref j1, .ref j2, .ref mn, .ref lw, .int cut, .int least, .ref sd, .ref sr]))]) := by
  refine q_entR (own := RX1) rfl rfl (Nat.le_of_ble_eq_true rfl) ?_
  intro p e s m args below meth c A ls QQ hQ hE hx hb hr hk hin hA hl hst
  have hl : lv_has ls 2 [(0, .ref h), (1, .int p0)] := hl
  refine lv_iload_n hx hb dX1_jarAt_0 rfl (lv_at hl 1 rfl) ?_
  refine lv_if_ne (tgt := 11) hx hb dX1_jarAt_1 (by decide) (fun c_1 => ?_) (fun c_1 => ?_)
  · skip
    refine lv_aload_n hx hb dX1_jarAt_11 rfl (lv_at hl 0 rfl) ?_
    refine gf_X1_18 hE hst 0 rfl rfl dX1_jarAt_12 ?_
    exact q_retR hQ hE hr hk hst () (by rw [if_neg c_1]) (trivial) (rfl) dX1_jarAt_15
  · skip
    refine lv_aload_n hx hb dX1_jarAt_4 rfl (lv_at hl 0 rfl) ?_
    refine gf_X1_12 hE hst 0 rfl rfl dX1_jarAt_5 ?_
    refine lv_goto (tgt := 15) hx hb dX1_jarAt_8 (by decide) ?_
    exact q_retR hQ hE hr hk hst () (by rw [if_pos c_1]) (trivial) (rfl) dX1_jarAt_15
set_option maxHeartbeats 4000000 in
set_option maxRecDepth 100000 in
theorem c_X1_numberOfMan (l : Launch) (D : va_G) (cI cJ cZ : ClassId) (h : Nat) (j1 : Nat) (j2 : Nat) (mn : Nat) (lw : Nat) (sd : Nat) (sr : Nat) (cut : Int32) (least : Int32) (qk : Nat) (qb : Nat) (qp : Nat) (sz : Int32) (g : Nat) (gn : Nat) (gd : Nat) (gr : Nat) (gs : Nat) (se : Int32) (sh : Int32) (sp : Int32) (de : Int32) (po : Int32) (lo : Int32) (nd : Nat → Int32) (bi : Nat → Int32) (m0 : Nat) (hm : m0 < 60) (hbi : vp_in (bi m0) 366) : CtI l D cI cJ cZ yX1_numberOfMan cX1_numberOfMan 3 (some .int) 2 [.ref h, .ref g, .int (nI m0)] [(h, .inr (1, [.ref j1, .ref j2, .ref mn, .ref lw, .int cut, .int least, .ref sd, .ref sr])), (mn, .inr (2, [.ref qk, .ref qb, .ref qp, .int sz])), (qb, .inl (cI, 60, .inl bi)), (g, .inr (0, [.int se, .int sh, .int sp, .int de, .int po, .ref gn, .ref gd, .ref gr, .ref gs, .int lo])), (gn, .inl (cI, 366, .inl nd))] (fun (_ : Unit) => mnum nd bi m0) (fun (_ : Unit) => True) (fun (_ : Unit) => [(h, .inr (1, [.ref j1, .ref j2, .ref mn, .ref lw, .int cut, .int least, .ref sd, .ref sr])), (mn, .inr (2, [.ref qk, .ref qb, .ref qp, .int sz])), (qb, .inl (cI, 60, .inl bi)), (g, .inr (0, [.int se, .int sh, .int sp, .int de, .int po, .ref gn, .ref gd, .ref gr, .ref gs, .int lo])), (gn, .inl (cI, 366, .inl nd))]) := by
  refine q_entI (own := RX1) rfl rfl (Nat.le_of_ble_eq_true rfl) ?_
  intro p e s m args below meth c A ls QQ hQ hE hx hb hr hk hin hA hl hst
  have hl : lv_has ls 3 [(0, .ref h), (1, .ref g), (2, .int (nI m0))] := hl
  refine lv_aload_n hx hb dX1_numberOfMan_0 rfl (lv_at hl 1 rfl) ?_
  refine lv_aload_n hx hb dX1_numberOfMan_1 rfl (lv_at hl 0 rfl) ?_
  refine gf_X1_24 hE hst 0 rfl rfl dX1_numberOfMan_2 ?_
  refine lv_iload_n hx hb dX1_numberOfMan_5 rfl (lv_at hl 2 rfl) ?_
  refine q_goI (q_rNV hE lk_X1_73 (c_X2_birthdayAtN l D cI cJ cZ mn qk qb qp m0 sz bi (by first | assumption | decide | omega) s.heap.size) hst [1, 2] rfl rfl rfl rfl rfl hl.1 ⟨(Nat.le_of_ble_eq_true rfl), (Nat.le_of_ble_eq_true rfl)⟩ (rest := [.ref g]) rfl (Nat.le_of_ble_eq_true rfl) dX1_numberOfMan_6 ⟨(Nat.le_of_ble_eq_true rfl), (Nat.le_of_ble_eq_true rfl)⟩) hE hst [1, 2] rfl (fun _ => rfl) (fun (_ : Unit) => [(h, .inr (1, [.ref j1, .ref j2, .ref mn, .ref lw, .int cut, .int least, .ref sd, .ref sr])), (mn, .inr (2, [.ref qk, .ref qb, .ref qp, .int sz])), (qb, .inl (cI, 60, .inl bi)), (g, .inr (0, [.int se, .int sh, .int sp, .int de, .int po, .ref gn, .ref gd, .ref gr, .ref gs, .int lo])), (gn, .inl (cI, 366, .inl nd))]) (fun _ => rfl) (fun _ H locs hF hst => ?_)
  refine q_goI (q_rNV hE lk_X1_77 (c_X0_numberAt l D cI cJ cZ g gn gd gr gs se sh sp de po lo (bi m0) nd H.size) hst [3, 4] rfl rfl rfl rfl rfl hl.1 ⟨(Nat.le_of_ble_eq_true rfl), (Nat.le_of_ble_eq_true rfl)⟩ (rest := []) rfl (Nat.le_of_ble_eq_true rfl) dX1_numberOfMan_9 ⟨(Nat.le_of_ble_eq_true rfl), (Nat.le_of_ble_eq_true rfl)⟩) hE hst [3, 4] rfl (fun _ => rfl) (fun (_ : Unit) => [(h, .inr (1, [.ref j1, .ref j2, .ref mn, .ref lw, .int cut, .int least, .ref sd, .ref sr])), (mn, .inr (2, [.ref qk, .ref qb, .ref qp, .int sz])), (qb, .inl (cI, 60, .inl bi)), (g, .inr (0, [.int se, .int sh, .int sp, .int de, .int po, .ref gn, .ref gd, .ref gr, .ref gs, .int lo])), (gn, .inl (cI, 366, .inl nd))]) (fun _ => rfl) (fun _ H locs hF hst => ?_)
  exact q_retI hQ hE hr hk hst () (at_mnum hbi) (trivial) (rfl) dX1_numberOfMan_12
set_option maxHeartbeats 4000000 in
set_option maxRecDepth 100000 in
theorem c_X1_isEven (l : Launch) (D : va_G) (cI cJ cZ : ClassId) (p0 : Int32) : CtI l D cI cJ cZ yX1_isEven cX1_isEven 1 (some .boolean) 0 [.int p0] [] (fun (_ : Unit) => b2i (evB p0)) (fun (_ : Unit) => True) (fun (_ : Unit) => []) := by
  refine q_entI (own := RX1) rfl rfl (Nat.le_of_ble_eq_true rfl) ?_
  intro p e s m args below meth c A ls QQ hQ hE hx hb hr hk hin hA hl hst
  have hl : lv_has ls 1 [(0, .int p0)] := hl
  refine lv_iload_n hx hb dX1_isEven_0 rfl (lv_at hl 0 rfl) ?_
  refine lv_iconst (v := 2) hx hb dX1_isEven_1 (by decide) ?_
  refine lv_irem hx hb dX1_isEven_2 (by decide) ?_
  refine lv_if_ne (tgt := 10) hx hb dX1_isEven_3 (by decide) (fun c_3 => ?_) (fun c_3 => ?_)
  · skip
    refine lv_iconst (v := 0) hx hb dX1_isEven_10 (by decide) ?_
    exact q_retZ hQ hE hr hk hst () (rfl) (by rw [evB, decide_eq_false c_3]; rfl) (trivial) (rfl) dX1_isEven_11
  · skip
    refine lv_iconst (v := 1) hx hb dX1_isEven_6 (by decide) ?_
    refine lv_goto (tgt := 11) hx hb dX1_isEven_7 (by decide) ?_
    exact q_retZ hQ hE hr hk hst () (rfl) (by rw [evB, decide_eq_true c_3]; rfl) (trivial) (rfl) dX1_isEven_11
set_option maxHeartbeats 4000000 in
set_option maxRecDepth 100000 in
theorem c_X1_isCalled (l : Launch) (D : va_G) (cI cJ cZ : ClassId) (h : Nat) (j1 : Nat) (j2 : Nat) (mn : Nat) (lw : Nat) (sd : Nat) (sr : Nat) (cut : Int32) (least : Int32) (p0 : Int32) : CtI l D cI cJ cZ yX1_isCalled cX1_isCalled 2 (some .boolean) 0 [.ref h, .int p0] [(h, .inr (1, [.ref j1, .ref j2, .ref mn, .ref lw, .int cut, .int least, .ref sd, .ref sr]))] (fun (_ : Unit) => b2i (clB cut p0)) (fun (_ : Unit) => True) (fun (_ : Unit) => [(h, .inr (1, [.ref j1, .ref j2, .ref mn, .ref lw, .int cut, .int least, .ref sd, .ref sr]))]) := by
  refine q_entI (own := RX1) rfl rfl (Nat.le_of_ble_eq_true rfl) ?_
  intro p e s m args below meth c A ls QQ hQ hE hx hb hr hk hin hA hl hst
  have hl : lv_has ls 2 [(0, .ref h), (1, .int p0)] := hl
  refine lv_iload_n hx hb dX1_isCalled_0 rfl (lv_at hl 1 rfl) ?_
  refine lv_aload_n hx hb dX1_isCalled_1 rfl (lv_at hl 0 rfl) ?_
  refine gf_X1_40 hE hst 0 rfl rfl dX1_isCalled_2 ?_
  refine lv_icmp_gt (tgt := 12) hx hb dX1_isCalled_5 (by decide) (fun c_5 => ?_) (fun c_5 => ?_)
  · skip
    refine lv_iconst (v := 0) hx hb dX1_isCalled_12 (by decide) ?_
    exact q_retZ hQ hE hr hk hst () (rfl) (by rw [clB, decide_eq_false (Int32.not_le.mpr c_5)]; rfl) (trivial) (rfl) dX1_isCalled_13
  · skip
    refine lv_iconst (v := 1) hx hb dX1_isCalled_8 (by decide) ?_
    refine lv_goto (tgt := 13) hx hb dX1_isCalled_9 (by decide) ?_
    exact q_retZ hQ hE hr hk hst () (rfl) (by rw [clB, decide_eq_true (Int32.not_lt.mp c_5)]; rfl) (trivial) (rfl) dX1_isCalled_13
set_option maxHeartbeats 4000000 in
set_option maxRecDepth 100000 in
theorem c_X1_isCalledBy (l : Launch) (D : va_G) (cI cJ cZ : ClassId) (h : Nat) (j1 : Nat) (j2 : Nat) (mn : Nat) (lw : Nat) (sd : Nat) (sr : Nat) (cut : Int32) (least : Int32) (qk : Nat) (qb : Nat) (qp : Nat) (sz : Int32) (g : Nat) (gn : Nat) (gd : Nat) (gr : Nat) (gs : Nat) (se : Int32) (sh : Int32) (sp : Int32) (de : Int32) (po : Int32) (lo : Int32) (nd : Nat → Int32) (bi : Nat → Int32) (m0 : Nat) (hm : m0 < 60) (hbi : vp_in (bi m0) 366) : CtI l D cI cJ cZ yX1_isCalledBy cX1_isCalledBy 3 (some .boolean) 3 [.ref h, .ref g, .int (nI m0)] [(h, .inr (1, [.ref j1, .ref j2, .ref mn, .ref lw, .int cut, .int least, .ref sd, .ref sr])), (mn, .inr (2, [.ref qk, .ref qb, .ref qp, .int sz])), (qb, .inl (cI, 60, .inl bi)), (g, .inr (0, [.int se, .int sh, .int sp, .int de, .int po, .ref gn, .ref gd, .ref gr, .ref gs, .int lo])), (gn, .inl (cI, 366, .inl nd))] (fun (_ : Unit) => b2i (calF cut nd bi m0)) (fun (_ : Unit) => True) (fun (_ : Unit) => [(h, .inr (1, [.ref j1, .ref j2, .ref mn, .ref lw, .int cut, .int least, .ref sd, .ref sr])), (mn, .inr (2, [.ref qk, .ref qb, .ref qp, .int sz])), (qb, .inl (cI, 60, .inl bi)), (g, .inr (0, [.int se, .int sh, .int sp, .int de, .int po, .ref gn, .ref gd, .ref gr, .ref gs, .int lo])), (gn, .inl (cI, 366, .inl nd))]) := by
  refine q_entI (own := RX1) rfl rfl (Nat.le_of_ble_eq_true rfl) ?_
  intro p e s m args below meth c A ls QQ hQ hE hx hb hr hk hin hA hl hst
  have hl : lv_has ls 3 [(0, .ref h), (1, .ref g), (2, .int (nI m0))] := hl
  refine lv_aload_n hx hb dX1_isCalledBy_0 rfl (lv_at hl 0 rfl) ?_
  refine lv_aload_n hx hb dX1_isCalledBy_1 rfl (lv_at hl 0 rfl) ?_
  refine lv_aload_n hx hb dX1_isCalledBy_2 rfl (lv_at hl 1 rfl) ?_
  refine lv_iload_n hx hb dX1_isCalledBy_3 rfl (lv_at hl 2 rfl) ?_
  refine q_goI (q_rV hE lk_X1_80 (c_X1_numberOfMan l D cI cJ cZ h j1 j2 mn lw sd sr cut least qk qb qp sz g gn gd gr gs se sh sp de po lo nd bi m0 (by first | assumption | decide | omega) (by first | assumption | decide | omega) s.heap.size) hst [0, 1, 2, 3, 4] rfl rfl rfl rfl rfl hl.1 ⟨(Nat.le_of_ble_eq_true rfl), (Nat.le_of_ble_eq_true rfl)⟩ (rest := [.ref h]) rfl (Nat.le_of_ble_eq_true rfl) dX1_isCalledBy_4 ⟨(Nat.le_of_ble_eq_true rfl), (Nat.le_of_ble_eq_true rfl)⟩) hE hst [0, 1, 2, 3, 4] rfl (fun _ => rfl) (fun (_ : Unit) => [(h, .inr (1, [.ref j1, .ref j2, .ref mn, .ref lw, .int cut, .int least, .ref sd, .ref sr])), (mn, .inr (2, [.ref qk, .ref qb, .ref qp, .int sz])), (qb, .inl (cI, 60, .inl bi)), (g, .inr (0, [.int se, .int sh, .int sp, .int de, .int po, .ref gn, .ref gd, .ref gr, .ref gs, .int lo])), (gn, .inl (cI, 366, .inl nd))]) (fun _ => rfl) (fun _ H locs hF hst => ?_)
  refine q_goI (q_rV hE lk_X1_84 (c_X1_isCalled l D cI cJ cZ h j1 j2 mn lw sd sr cut least (mnum nd bi m0) H.size) hst [0] rfl rfl rfl rfl rfl hl.1 ⟨(Nat.le_of_ble_eq_true rfl), (Nat.le_of_ble_eq_true rfl)⟩ (rest := []) rfl (Nat.le_of_ble_eq_true rfl) dX1_isCalledBy_7 ⟨(Nat.le_of_ble_eq_true rfl), (Nat.le_of_ble_eq_true rfl)⟩) hE hst [0] rfl (fun _ => rfl) (fun (_ : Unit) => [(h, .inr (1, [.ref j1, .ref j2, .ref mn, .ref lw, .int cut, .int least, .ref sd, .ref sr])), (mn, .inr (2, [.ref qk, .ref qb, .ref qp, .int sz])), (qb, .inl (cI, 60, .inl bi)), (g, .inr (0, [.int se, .int sh, .int sp, .int de, .int po, .ref gn, .ref gd, .ref gr, .ref gs, .int lo])), (gn, .inl (cI, 366, .inl nd))]) (fun _ => rfl) (fun _ H locs hF hst => ?_)
  exact q_retZ hQ hE hr hk hst () (b2i_nar _) (rfl) (trivial) (rfl) dX1_isCalledBy_10
set_option maxHeartbeats 4000000 in
set_option maxRecDepth 100000 in
theorem c_X1_serviceBy (l : Launch) (D : va_G) (cI cJ cZ : ClassId) (h : Nat) (j1 : Nat) (j2 : Nat) (mn : Nat) (lw : Nat) (sd : Nat) (sr : Nat) (cut : Int32) (least : Int32) (p0 : Int32) (p1 : Int32) : CtI l D cI cJ cZ yX1_serviceBy cX1_serviceBy 4 (some .int) 1 [.ref h, .int p0, .int p1] [(h, .inr (1, [.ref j1, .ref j2, .ref mn, .ref lw, .int cut, .int least, .ref sd, .ref sr]))] (fun (_ : Unit) => sevI p0 (clB cut p1) (evB p1)) (fun (_ : Unit) => True) (fun (_ : Unit) => [(h, .inr (1, [.ref j1, .ref j2, .ref mn, .ref lw, .int cut, .int least, .ref sd, .ref sr]))]) := by
  refine q_entI (own := RX1) rfl rfl (Nat.le_of_ble_eq_true rfl) ?_
  intro p e s m args below meth c A ls QQ hQ hE hx hb hr hk hin hA hl hst
  have hl : lv_has ls 4 [(0, .ref h), (1, .int p0), (2, .int p1)] := hl
  refine lv_aload_n hx hb dX1_serviceBy_0 rfl (lv_at hl 0 rfl) ?_
  refine lv_iload_n hx hb dX1_serviceBy_1 rfl (lv_at hl 2 rfl) ?_
  refine q_goI (q_rV hE lk_X1_84 (c_X1_isCalled l D cI cJ cZ h j1 j2 mn lw sd sr cut least p1 s.heap.size) hst [0] rfl rfl rfl rfl rfl hl.1 ⟨(Nat.le_of_ble_eq_true rfl), (Nat.le_of_ble_eq_true rfl)⟩ (rest := []) rfl (Nat.le_of_ble_eq_true rfl) dX1_serviceBy_2 ⟨(Nat.le_of_ble_eq_true rfl), (Nat.le_of_ble_eq_true rfl)⟩) hE hst [0] rfl (fun _ => rfl) (fun (_ : Unit) => [(h, .inr (1, [.ref j1, .ref j2, .ref mn, .ref lw, .int cut, .int least, .ref sd, .ref sr]))]) (fun _ => rfl) (fun _ H locs hF hst => ?_)
  refine lv_istore_n (lv' := [(3, .int (b2i (clB cut p1))), (0, .ref h), (1, .int p0), (2, .int p1)]) hx hb dX1_serviceBy_5 rfl hl (by decide) rfl (fun ls hl => ?_)
  refine lv_iload_n hx hb dX1_serviceBy_6 rfl (lv_at hl 2 rfl) ?_
  by_cases c_7_0 : p0 = 0
  · skip
    refine lv_tableIn (off := 37) (tgt := 44) hx hb dX1_serviceBy_7 (by rw [c_7_0]; decide) (by rw [c_7_0]; decide) (by rw [c_7_0]; rfl) (by decide) ?_
    refine lv_iload_n hx hb dX1_serviceBy_44 rfl (lv_at hl 0 rfl) ?_
    refine lv_if_eq (tgt := 52) hx hb dX1_serviceBy_45 (by decide) (fun c_45 => ?_) (fun c_45 => ?_)
    · skip
      have c_45 := b2i_f c_45
      refine lv_iconst (v := 0) hx hb dX1_serviceBy_52 (by decide) ?_
      exact q_retI hQ hE hr hk hst () (by simp [sevI, *]) (trivial) (rfl) dX1_serviceBy_53
    · skip
      have c_45 := b2i_t c_45
      refine lv_iconst (v := 1) hx hb dX1_serviceBy_48 (by decide) ?_
      refine lv_goto (tgt := 53) hx hb dX1_serviceBy_49 (by decide) ?_
      exact q_retI hQ hE hr hk hst () (by simp [sevI, *]) (trivial) (rfl) dX1_serviceBy_53
  by_cases c_7_1 : p0 = 1
  · skip
    refine lv_tableIn (off := 47) (tgt := 54) hx hb dX1_serviceBy_7 (by rw [c_7_1]; decide) (by rw [c_7_1]; decide) (by rw [c_7_1]; rfl) (by decide) ?_
    refine lv_iconst (v := 1) hx hb dX1_serviceBy_54 (by decide) ?_
    exact q_retI hQ hE hr hk hst () (by simp [sevI, *]) (trivial) (rfl) dX1_serviceBy_55
  by_cases c_7_2 : p0 = 2
  · skip
    refine lv_tableIn (off := 86) (tgt := 93) hx hb dX1_serviceBy_7 (by rw [c_7_2]; decide) (by rw [c_7_2]; decide) (by rw [c_7_2]; rfl) (by decide) ?_
    refine lv_iconst (v := 0) hx hb dX1_serviceBy_93 (by decide) ?_
    exact q_retI hQ hE hr hk hst () (by simp [sevI, *]) (trivial) (rfl) dX1_serviceBy_94
  by_cases c_7_3 : p0 = 3
  · skip
    refine lv_tableIn (off := 49) (tgt := 56) hx hb dX1_serviceBy_7 (by rw [c_7_3]; decide) (by rw [c_7_3]; decide) (by rw [c_7_3]; rfl) (by decide) ?_
    refine lv_iload_n hx hb dX1_serviceBy_56 rfl (lv_at hl 0 rfl) ?_
    refine lv_if_eq (tgt := 64) hx hb dX1_serviceBy_57 (by decide) (fun c_57 => ?_) (fun c_57 => ?_)
    · skip
      have c_57 := b2i_f c_57
      refine lv_iconst (v := 0) hx hb dX1_serviceBy_64 (by decide) ?_
      exact q_retI hQ hE hr hk hst () (by simp [sevI, *]) (trivial) (rfl) dX1_serviceBy_65
    · skip
      have c_57 := b2i_t c_57
      refine lv_iconst (v := 3) hx hb dX1_serviceBy_60 (by decide) ?_
      refine lv_goto (tgt := 65) hx hb dX1_serviceBy_61 (by decide) ?_
      exact q_retI hQ hE hr hk hst () (by simp [sevI, *]) (trivial) (rfl) dX1_serviceBy_65
  by_cases c_7_4 : p0 = 4
  · skip
    refine lv_tableIn (off := 59) (tgt := 66) hx hb dX1_serviceBy_7 (by rw [c_7_4]; decide) (by rw [c_7_4]; decide) (by rw [c_7_4]; rfl) (by decide) ?_
    refine lv_iload_n hx hb dX1_serviceBy_66 rfl (lv_at hl 0 rfl) ?_
    refine lv_if_eq (tgt := 74) hx hb dX1_serviceBy_67 (by decide) (fun c_67 => ?_) (fun c_67 => ?_)
    · skip
      have c_67 := b2i_f c_67
      refine lv_iconst (v := 1) hx hb dX1_serviceBy_74 (by decide) ?_
      exact q_retI hQ hE hr hk hst () (by simp [sevI, *]) (trivial) (rfl) dX1_serviceBy_75
    · skip
      have c_67 := b2i_t c_67
      refine lv_iconst (v := 2) hx hb dX1_serviceBy_70 (by decide) ?_
      refine lv_goto (tgt := 75) hx hb dX1_serviceBy_71 (by decide) ?_
      exact q_retI hQ hE hr hk hst () (by simp [sevI, *]) (trivial) (rfl) dX1_serviceBy_75
  by_cases c_7_5 : p0 = 5
  · skip
    refine lv_tableIn (off := 69) (tgt := 76) hx hb dX1_serviceBy_7 (by rw [c_7_5]; decide) (by rw [c_7_5]; decide) (by rw [c_7_5]; rfl) (by decide) ?_
    refine lv_iload_n hx hb dX1_serviceBy_76 rfl (lv_at hl 0 rfl) ?_
    refine lv_if_eq (tgt := 91) hx hb dX1_serviceBy_77 (by decide) (fun c_77 => ?_) (fun c_77 => ?_)
    · skip
      have c_77 := b2i_f c_77
      refine lv_iconst (v := 0) hx hb dX1_serviceBy_91 (by decide) ?_
      exact q_retI hQ hE hr hk hst () (by simp [sevI, *]) (trivial) (rfl) dX1_serviceBy_92
    · skip
      have c_77 := b2i_t c_77
      refine lv_iload_n hx hb dX1_serviceBy_80 rfl (lv_at hl 3 rfl) ?_
      refine q_goI (q_rS hE lk_X1_95 (c_X1_isEven l D cI cJ cZ p1 H.size) hst [] rfl rfl rfl hl.1 ⟨(Nat.le_of_ble_eq_true rfl), (Nat.le_of_ble_eq_true rfl)⟩ (rest := []) rfl (Nat.le_of_ble_eq_true rfl) dX1_serviceBy_81 ⟨(Nat.le_of_ble_eq_true rfl), (Nat.le_of_ble_eq_true rfl)⟩) hE hst [] rfl (fun _ => rfl) (fun (_ : Unit) => [(h, .inr (1, [.ref j1, .ref j2, .ref mn, .ref lw, .int cut, .int least, .ref sd, .ref sr]))]) (fun _ => rfl) (fun _ H locs hF hst => ?_)
      refine lv_if_eq (tgt := 91) hx hb dX1_serviceBy_84 (by decide) (fun c_84 => ?_) (fun c_84 => ?_)
      · skip
        have c_84 := b2i_f c_84
        refine lv_iconst (v := 0) hx hb dX1_serviceBy_91 (by decide) ?_
        exact q_retI hQ hE hr hk hst () (by simp [sevI, *]) (trivial) (rfl) dX1_serviceBy_92
      · skip
        have c_84 := b2i_t c_84
        refine lv_iconst (v := 1) hx hb dX1_serviceBy_87 (by decide) ?_
        refine lv_goto (tgt := 92) hx hb dX1_serviceBy_88 (by decide) ?_
        exact q_retI hQ hE hr hk hst () (by simp [sevI, *]) (trivial) (rfl) dX1_serviceBy_92
  refine lv_tableOut (tgt := 93) hx hb dX1_serviceBy_7 (by have q0 := lv_neT c_7_0 (a := 0) (by decide); have q1 := lv_neT c_7_1 (a := 1) (by decide); have q2 := lv_neT c_7_2 (a := 2) (by decide); have q3 := lv_neT c_7_3 (a := 3) (by decide); have q4 := lv_neT c_7_4 (a := 4) (by decide); have q5 := lv_neT c_7_5 (a := 5) (by decide); omega) (by decide) ?_
  refine lv_iconst (v := 0) hx hb dX1_serviceBy_93 (by decide) ?_
  exact q_retI hQ hE hr hk hst () (by simp [sevI, *]) (trivial) (rfl) dX1_serviceBy_94
set_option maxHeartbeats 4000000 in
set_option maxRecDepth 100000 in
theorem c_X1_serviceOf (l : Launch) (D : va_G) (cI cJ cZ : ClassId) (h : Nat) (j1 : Nat) (j2 : Nat) (mn : Nat) (lw : Nat) (sd : Nat) (sr : Nat) (cut : Int32) (least : Int32) (qk : Nat) (qb : Nat) (qp : Nat) (sz : Int32) (g : Nat) (gn : Nat) (gd : Nat) (gr : Nat) (gs : Nat) (se : Int32) (sh : Int32) (sp : Int32) (de : Int32) (po : Int32) (lo : Int32) (nd : Nat → Int32) (ki : Nat → Int32) (bi : Nat → Int32) (m0 : Nat) (hm : m0 < 60) (hbi : vp_in (bi m0) 366) : CtI l D cI cJ cZ yX1_serviceOf cX1_serviceOf 3 (some .int) 3 [.ref h, .ref g, .int (nI m0)] [(h, .inr (1, [.ref j1, .ref j2, .ref mn, .ref lw, .int cut, .int least, .ref sd, .ref sr])), (mn, .inr (2, [.ref qk, .ref qb, .ref qp, .int sz])), (qk, .inl (cI, 60, .inl ki)), (qb, .inl (cI, 60, .inl bi)), (g, .inr (0, [.int se, .int sh, .int sp, .int de, .int po, .ref gn, .ref gd, .ref gr, .ref gs, .int lo])), (gn, .inl (cI, 366, .inl nd))] (fun (_ : Unit) => svF cut nd ki bi m0) (fun (_ : Unit) => True) (fun (_ : Unit) => [(h, .inr (1, [.ref j1, .ref j2, .ref mn, .ref lw, .int cut, .int least, .ref sd, .ref sr])), (mn, .inr (2, [.ref qk, .ref qb, .ref qp, .int sz])), (qk, .inl (cI, 60, .inl ki)), (qb, .inl (cI, 60, .inl bi)), (g, .inr (0, [.int se, .int sh, .int sp, .int de, .int po, .ref gn, .ref gd, .ref gr, .ref gs, .int lo])), (gn, .inl (cI, 366, .inl nd))]) := by
  refine q_entI (own := RX1) rfl rfl (Nat.le_of_ble_eq_true rfl) ?_
  intro p e s m args below meth c A ls QQ hQ hE hx hb hr hk hin hA hl hst
  have hl : lv_has ls 3 [(0, .ref h), (1, .ref g), (2, .int (nI m0))] := hl
  refine lv_aload_n hx hb dX1_serviceOf_0 rfl (lv_at hl 0 rfl) ?_
  refine lv_aload_n hx hb dX1_serviceOf_1 rfl (lv_at hl 0 rfl) ?_
  refine gf_X1_24 hE hst 0 rfl rfl dX1_serviceOf_2 ?_
  refine lv_iload_n hx hb dX1_serviceOf_5 rfl (lv_at hl 2 rfl) ?_
  refine q_goI (q_rNV hE lk_X1_88 (c_X2_kindAtN l D cI cJ cZ mn qk qb qp m0 sz ki (by first | assumption | decide | omega) s.heap.size) hst [1, 2] rfl rfl rfl rfl rfl hl.1 ⟨(Nat.le_of_ble_eq_true rfl), (Nat.le_of_ble_eq_true rfl)⟩ (rest := [.ref h]) rfl (Nat.le_of_ble_eq_true rfl) dX1_serviceOf_6 ⟨(Nat.le_of_ble_eq_true rfl), (Nat.le_of_ble_eq_true rfl)⟩) hE hst [1, 2] rfl (fun _ => rfl) (fun (_ : Unit) => [(h, .inr (1, [.ref j1, .ref j2, .ref mn, .ref lw, .int cut, .int least, .ref sd, .ref sr])), (mn, .inr (2, [.ref qk, .ref qb, .ref qp, .int sz])), (qk, .inl (cI, 60, .inl ki)), (qb, .inl (cI, 60, .inl bi)), (g, .inr (0, [.int se, .int sh, .int sp, .int de, .int po, .ref gn, .ref gd, .ref gr, .ref gs, .int lo])), (gn, .inl (cI, 366, .inl nd))]) (fun _ => rfl) (fun _ H locs hF hst => ?_)
  refine lv_aload_n hx hb dX1_serviceOf_9 rfl (lv_at hl 0 rfl) ?_
  refine lv_aload_n hx hb dX1_serviceOf_10 rfl (lv_at hl 1 rfl) ?_
  refine lv_iload_n hx hb dX1_serviceOf_11 rfl (lv_at hl 2 rfl) ?_
  refine q_goI (q_rV hE lk_X1_80 (c_X1_numberOfMan l D cI cJ cZ h j1 j2 mn lw sd sr cut least qk qb qp sz g gn gd gr gs se sh sp de po lo nd bi m0 (by first | assumption | decide | omega) (by first | assumption | decide | omega) H.size) hst [0, 1, 3, 4, 5] rfl rfl rfl rfl rfl hl.1 ⟨(Nat.le_of_ble_eq_true rfl), (Nat.le_of_ble_eq_true rfl)⟩ (rest := [.int (ki m0), .ref h]) rfl (Nat.le_of_ble_eq_true rfl) dX1_serviceOf_12 ⟨(Nat.le_of_ble_eq_true rfl), (Nat.le_of_ble_eq_true rfl)⟩) hE hst [0, 1, 3, 4, 5] rfl (fun _ => rfl) (fun (_ : Unit) => [(h, .inr (1, [.ref j1, .ref j2, .ref mn, .ref lw, .int cut, .int least, .ref sd, .ref sr])), (mn, .inr (2, [.ref qk, .ref qb, .ref qp, .int sz])), (qk, .inl (cI, 60, .inl ki)), (qb, .inl (cI, 60, .inl bi)), (g, .inr (0, [.int se, .int sh, .int sp, .int de, .int po, .ref gn, .ref gd, .ref gr, .ref gs, .int lo])), (gn, .inl (cI, 366, .inl nd))]) (fun _ => rfl) (fun _ H locs hF hst => ?_)
  refine q_goI (q_rV hE lk_X1_91 (c_X1_serviceBy l D cI cJ cZ h j1 j2 mn lw sd sr cut least (ki m0) (mnum nd bi m0) H.size) hst [0] rfl rfl rfl rfl rfl hl.1 ⟨(Nat.le_of_ble_eq_true rfl), (Nat.le_of_ble_eq_true rfl)⟩ (rest := []) rfl (Nat.le_of_ble_eq_true rfl) dX1_serviceOf_15 ⟨(Nat.le_of_ble_eq_true rfl), (Nat.le_of_ble_eq_true rfl)⟩) hE hst [0] rfl (fun _ => rfl) (fun (_ : Unit) => [(h, .inr (1, [.ref j1, .ref j2, .ref mn, .ref lw, .int cut, .int least, .ref sd, .ref sr])), (mn, .inr (2, [.ref qk, .ref qb, .ref qp, .int sz])), (qk, .inl (cI, 60, .inl ki)), (qb, .inl (cI, 60, .inl bi)), (g, .inr (0, [.int se, .int sh, .int sp, .int de, .int po, .ref gn, .ref gd, .ref gr, .ref gs, .int lo])), (gn, .inl (cI, 366, .inl nd))]) (fun _ => rfl) (fun _ H locs hF hst => ?_)
  exact q_retI hQ hE hr hk hst () (rfl) (trivial) (rfl) dX1_serviceOf_18
set_option maxHeartbeats 4000000 in
set_option maxRecDepth 100000 in
theorem c_X1_hasServed (l : Launch) (D : va_G) (cI cJ cZ : ClassId) (h : Nat) (j1 : Nat) (j2 : Nat) (mn : Nat) (lw : Nat) (sd : Nat) (sr : Nat) (cut : Int32) (least : Int32) (p0 : Int32) (p1 : Int32) : CtI l D cI cJ cZ yX1_hasServed cX1_hasServed 4 (some .boolean) 2 [.ref h, .int p0, .int p1] [(h, .inr (1, [.ref j1, .ref j2, .ref mn, .ref lw, .int cut, .int least, .ref sd, .ref sr]))] (fun (_ : Unit) => b2i (hsB (sevI p0 (clB cut p1) (evB p1)))) (fun (_ : Unit) => True) (fun (_ : Unit) => [(h, .inr (1, [.ref j1, .ref j2, .ref mn, .ref lw, .int cut, .int least, .ref sd, .ref sr]))]) := by
  refine q_entI (own := RX1) rfl rfl (Nat.le_of_ble_eq_true rfl) ?_
  intro p e s m args below meth c A ls QQ hQ hE hx hb hr hk hin hA hl hst
  have hl : lv_has ls 4 [(0, .ref h), (1, .int p0), (2, .int p1)] := hl
  refine lv_aload_n hx hb dX1_hasServed_0 rfl (lv_at hl 0 rfl) ?_
  refine lv_iload_n hx hb dX1_hasServed_1 rfl (lv_at hl 1 rfl) ?_
  refine lv_iload_n hx hb dX1_hasServed_2 rfl (lv_at hl 2 rfl) ?_
  refine q_goI (q_rV hE lk_X1_91 (c_X1_serviceBy l D cI cJ cZ h j1 j2 mn lw sd sr cut least p0 p1 s.heap.size) hst [0] rfl rfl rfl rfl rfl hl.1 ⟨(Nat.le_of_ble_eq_true rfl), (Nat.le_of_ble_eq_true rfl)⟩ (rest := []) rfl (Nat.le_of_ble_eq_true rfl) dX1_hasServed_3 ⟨(Nat.le_of_ble_eq_true rfl), (Nat.le_of_ble_eq_true rfl)⟩) hE hst [0] rfl (fun _ => rfl) (fun (_ : Unit) => [(h, .inr (1, [.ref j1, .ref j2, .ref mn, .ref lw, .int cut, .int least, .ref sd, .ref sr]))]) (fun _ => rfl) (fun _ H locs hF hst => ?_)
  refine lv_istore_n (lv' := [(3, .int (sevI p0 (clB cut p1) (evB p1))), (0, .ref h), (1, .int p0), (2, .int p1)]) hx hb dX1_hasServed_6 rfl hl (by decide) rfl (fun ls hl => ?_)
  refine lv_iload_n hx hb dX1_hasServed_7 rfl (lv_at hl 0 rfl) ?_
  refine lv_iconst (v := 1) hx hb dX1_hasServed_8 (by decide) ?_
  refine lv_icmp_eq (tgt := 17) hx hb dX1_hasServed_9 (by decide) (fun c_9 => ?_) (fun c_9 => ?_)
  · skip
    refine lv_iconst (v := 1) hx hb dX1_hasServed_17 (by decide) ?_
    refine lv_goto (tgt := 22) hx hb dX1_hasServed_18 (by decide) ?_
    exact q_retZ hQ hE hr hk hst () (rfl) (by simp [hsB, b2i, c_9]) (trivial) (rfl) dX1_hasServed_22
  · skip
    refine lv_iload_n hx hb dX1_hasServed_12 rfl (lv_at hl 0 rfl) ?_
    refine lv_iconst (v := 2) hx hb dX1_hasServed_13 (by decide) ?_
    refine lv_icmp_ne (tgt := 21) hx hb dX1_hasServed_14 (by decide) (fun c_14 => ?_) (fun c_14 => ?_)
    · skip
      refine lv_iconst (v := 0) hx hb dX1_hasServed_21 (by decide) ?_
      exact q_retZ hQ hE hr hk hst () (rfl) (by simp [hsB, b2i, c_9, c_14]) (trivial) (rfl) dX1_hasServed_22
    · skip
      refine lv_iconst (v := 1) hx hb dX1_hasServed_17 (by decide) ?_
      refine lv_goto (tgt := 22) hx hb dX1_hasServed_18 (by decide) ?_
      exact q_retZ hQ hE hr hk hst () (rfl) (by simp [hsB, b2i, c_9, c_14]) (trivial) (rfl) dX1_hasServed_22
set_option maxHeartbeats 4000000 in
set_option maxRecDepth 100000 in
theorem c_X1_servesOnlyIfCalled (l : Launch) (D : va_G) (cI cJ cZ : ClassId) (h : Nat) (j1 : Nat) (j2 : Nat) (mn : Nat) (lw : Nat) (sd : Nat) (sr : Nat) (cut : Int32) (least : Int32) (p0 : Int32) (p1 : Int32) : CtI l D cI cJ cZ yX1_servesOnlyIfCalled cX1_servesOnlyIfCalled 3 (some .boolean) 1 [.ref h, .int p0, .int p1] [(h, .inr (1, [.ref j1, .ref j2, .ref mn, .ref lw, .int cut, .int least, .ref sd, .ref sr]))] (fun (_ : Unit) => b2i (tkB p0 (evB p1))) (fun (_ : Unit) => True) (fun (_ : Unit) => [(h, .inr (1, [.ref j1, .ref j2, .ref mn, .ref lw, .int cut, .int least, .ref sd, .ref sr]))]) := by
  refine q_entI (own := RX1) rfl rfl (Nat.le_of_ble_eq_true rfl) ?_
  intro p e s m args below meth c A ls QQ hQ hE hx hb hr hk hin hA hl hst
  have hl : lv_has ls 3 [(0, .ref h), (1, .int p0), (2, .int p1)] := hl
  refine lv_iload_n hx hb dX1_servesOnlyIfCalled_0 rfl (lv_at hl 1 rfl) ?_
  refine lv_if_eq (tgt := 16) hx hb dX1_servesOnlyIfCalled_1 (by decide) (fun c_1 => ?_) (fun c_1 => ?_)
  · skip
    refine lv_iconst (v := 1) hx hb dX1_servesOnlyIfCalled_16 (by decide) ?_
    refine lv_goto (tgt := 21) hx hb dX1_servesOnlyIfCalled_17 (by decide) ?_
    exact q_retZ hQ hE hr hk hst () (rfl) (by simp [tkB, b2i, c_1]) (trivial) (rfl) dX1_servesOnlyIfCalled_21
  · skip
    refine lv_iload_n hx hb dX1_servesOnlyIfCalled_4 rfl (lv_at hl 1 rfl) ?_
    refine lv_iconst (v := 5) hx hb dX1_servesOnlyIfCalled_5 (by decide) ?_
    refine lv_icmp_ne (tgt := 20) hx hb dX1_servesOnlyIfCalled_6 (by decide) (fun c_6 => ?_) (fun c_6 => ?_)
    · skip
      refine lv_iconst (v := 0) hx hb dX1_servesOnlyIfCalled_20 (by decide) ?_
      exact q_retZ hQ hE hr hk hst () (rfl) (by simp [tkB, b2i, c_1, c_6]) (trivial) (rfl) dX1_servesOnlyIfCalled_21
    · skip
      refine lv_iload_n hx hb dX1_servesOnlyIfCalled_9 rfl (lv_at hl 2 rfl) ?_
      refine q_goI (q_rS hE lk_X1_95 (c_X1_isEven l D cI cJ cZ p1 s.heap.size) hst [] rfl rfl rfl hl.1 ⟨(Nat.le_of_ble_eq_true rfl), (Nat.le_of_ble_eq_true rfl)⟩ (rest := []) rfl (Nat.le_of_ble_eq_true rfl) dX1_servesOnlyIfCalled_10 ⟨(Nat.le_of_ble_eq_true rfl), (Nat.le_of_ble_eq_true rfl)⟩) hE hst [] rfl (fun _ => rfl) (fun (_ : Unit) => [(h, .inr (1, [.ref j1, .ref j2, .ref mn, .ref lw, .int cut, .int least, .ref sd, .ref sr]))]) (fun _ => rfl) (fun _ H locs hF hst => ?_)
      refine lv_if_eq (tgt := 20) hx hb dX1_servesOnlyIfCalled_13 (by decide) (fun c_13 => ?_) (fun c_13 => ?_)
      · skip
        have c_13 := b2i_f c_13
        refine lv_iconst (v := 0) hx hb dX1_servesOnlyIfCalled_20 (by decide) ?_
        exact q_retZ hQ hE hr hk hst () (rfl) (by simp [tkB, b2i, c_1, c_6, c_13]) (trivial) (rfl) dX1_servesOnlyIfCalled_21
      · skip
        have c_13 := b2i_t c_13
        refine lv_iconst (v := 1) hx hb dX1_servesOnlyIfCalled_16 (by decide) ?_
        refine lv_goto (tgt := 21) hx hb dX1_servesOnlyIfCalled_17 (by decide) ?_
        exact q_retZ hQ hE hr hk hst () (rfl) (by simp [tkB, b2i, c_1, c_6, c_13]) (trivial) (rfl) dX1_servesOnlyIfCalled_21
set_option maxHeartbeats 4000000 in
set_option maxRecDepth 100000 in
theorem c_X1_lossLeft (l : Launch) (D : va_G) (cI cJ cZ : ClassId) (h : Nat) (j1 : Nat) (j2 : Nat) (mn : Nat) (lw : Nat) (sd : Nat) (sr : Nat) (cut : Int32) (least : Int32) (la : Nat → Int32) (p0 : Int32) : CtI l D cI cJ cZ yX1_lossLeft cX1_lossLeft 2 (some .int) 1 [.ref h, .int p0] [(h, .inr (1, [.ref j1, .ref j2, .ref mn, .ref lw, .int cut, .int least, .ref sd, .ref sr])), (lw, .inl (cI, 5, .inl la))] (fun (_ : Unit) => losI la p0) (fun (_ : Unit) => True) (fun (_ : Unit) => [(h, .inr (1, [.ref j1, .ref j2, .ref mn, .ref lw, .int cut, .int least, .ref sd, .ref sr])), (lw, .inl (cI, 5, .inl la))]) := by
  refine q_entI (own := RX1) rfl rfl (Nat.le_of_ble_eq_true rfl) ?_
  intro p e s m args below meth c A ls QQ hQ hE hx hb hr hk hin hA hl hst
  have hl : lv_has ls 2 [(0, .ref h), (1, .int p0)] := hl
  refine lv_aload_n hx hb dX1_lossLeft_0 rfl (lv_at hl 0 rfl) ?_
  refine gf_X1_37 hE hst 0 rfl rfl dX1_lossLeft_1 ?_
  refine lv_iconst (v := 1) hx hb dX1_lossLeft_4 (by decide) ?_
  refine q_goI (q_rNS hE lk_X1_105 (c_X6_at l D cI cJ cZ lw 5 la 1 (by first | assumption | decide | omega) s.heap.size) hst [1] rfl rfl rfl hl.1 ⟨(Nat.le_of_ble_eq_true rfl), (Nat.le_of_ble_eq_true rfl)⟩ (rest := []) rfl (Nat.le_of_ble_eq_true rfl) dX1_lossLeft_5 ⟨(Nat.le_of_ble_eq_true rfl), (Nat.le_of_ble_eq_true rfl)⟩) hE hst [1] rfl (fun _ => rfl) (fun (_ : Unit) => [(h, .inr (1, [.ref j1, .ref j2, .ref mn, .ref lw, .int cut, .int least, .ref sd, .ref sr])), (lw, .inl (cI, 5, .inl la))]) (fun _ => rfl) (fun _ H locs hF hst => ?_)
  refine q_top (x' := la 1) (atI_n (by decide) (by decide)) ?_
  refine lv_iconst (v := 0) hx hb dX1_lossLeft_8 (by decide) ?_
  refine lv_bipush (v := 100) hx hb dX1_lossLeft_9 (by decide) ?_
  refine lv_aload_n hx hb dX1_lossLeft_11 rfl (lv_at hl 0 rfl) ?_
  refine gf_X1_37 hE hst 0 rfl rfl dX1_lossLeft_12 ?_
  refine lv_iconst (v := 2) hx hb dX1_lossLeft_15 (by decide) ?_
  refine q_goI (q_rNS hE lk_X1_105 (c_X6_at l D cI cJ cZ lw 5 la 2 (by first | assumption | decide | omega) H.size) hst [1] rfl rfl rfl hl.1 ⟨(Nat.le_of_ble_eq_true rfl), (Nat.le_of_ble_eq_true rfl)⟩ (rest := [.int 100, .int 0, .int (la 1)]) rfl (Nat.le_of_ble_eq_true rfl) dX1_lossLeft_16 ⟨(Nat.le_of_ble_eq_true rfl), (Nat.le_of_ble_eq_true rfl)⟩) hE hst [1] rfl (fun _ => rfl) (fun (_ : Unit) => [(h, .inr (1, [.ref j1, .ref j2, .ref mn, .ref lw, .int cut, .int least, .ref sd, .ref sr])), (lw, .inl (cI, 5, .inl la))]) (fun _ => rfl) (fun _ H locs hF hst => ?_)
  refine q_top (x' := la 2) (atI_n (by decide) (by decide)) ?_
  refine lv_iload_n hx hb dX1_lossLeft_19 rfl (lv_at hl 1 rfl) ?_
  refine lv_imul hx hb dX1_lossLeft_20 ?_
  refine lv_isub hx hb dX1_lossLeft_21 ?_
  refine q_max hE wk_3_49 hl.1 (Nat.le_of_ble_eq_true rfl) (Nat.le_of_ble_eq_true rfl) (Nat.le_of_ble_eq_true rfl) (Nat.le_of_ble_eq_true rfl) dX1_lossLeft_22 ?_
  refine lv_imul hx hb dX1_lossLeft_25 ?_
  refine lv_bipush (v := 100) hx hb dX1_lossLeft_26 (by decide) ?_
  refine lv_idiv hx hb dX1_lossLeft_28 (by decide) ?_
  exact q_retI hQ hE hr hk hst () (rfl) (trivial) (rfl) dX1_lossLeft_29
set_option maxHeartbeats 4000000 in
set_option maxRecDepth 100000 in
theorem c_X1_changeByService (l : Launch) (D : va_G) (cI cJ cZ : ClassId) (h : Nat) (j1 : Nat) (j2 : Nat) (mn : Nat) (lw : Nat) (sd : Nat) (sr : Nat) (cut : Int32) (least : Int32) (la : Nat → Int32) (p0 : Int32) (p1 : Int32) : CtI l D cI cJ cZ yX1_changeByService cX1_changeByService 3 (some .int) 2 [.ref h, .int p0, .int p1] [(h, .inr (1, [.ref j1, .ref j2, .ref mn, .ref lw, .int cut, .int least, .ref sd, .ref sr])), (lw, .inl (cI, 5, .inl la))] (fun (_ : Unit) => chgI la p0 p1) (fun (_ : Unit) => True) (fun (_ : Unit) => [(h, .inr (1, [.ref j1, .ref j2, .ref mn, .ref lw, .int cut, .int least, .ref sd, .ref sr])), (lw, .inl (cI, 5, .inl la))]) := by
  refine q_entI (own := RX1) rfl rfl (Nat.le_of_ble_eq_true rfl) ?_
  intro p e s m args below meth c A ls QQ hQ hE hx hb hr hk hin hA hl hst
  have hl : lv_has ls 3 [(0, .ref h), (1, .int p0), (2, .int p1)] := hl
  refine lv_iload_n hx hb dX1_changeByService_0 rfl (lv_at hl 1 rfl) ?_
  by_cases c_1_1 : p0 = 1
  · skip
    refine lv_tableIn (off := 27) (tgt := 28) hx hb dX1_changeByService_1 (by rw [c_1_1]; decide) (by rw [c_1_1]; decide) (by rw [c_1_1]; rfl) (by decide) ?_
    refine lv_aload_n hx hb dX1_changeByService_28 rfl (lv_at hl 0 rfl) ?_
    refine lv_iload_n hx hb dX1_changeByService_29 rfl (lv_at hl 2 rfl) ?_
    refine q_goI (q_rV hE lk_X1_114 (c_X1_lossLeft l D cI cJ cZ h j1 j2 mn lw sd sr cut least la p1 s.heap.size) hst [0, 1] rfl rfl rfl rfl rfl hl.1 ⟨(Nat.le_of_ble_eq_true rfl), (Nat.le_of_ble_eq_true rfl)⟩ (rest := []) rfl (Nat.le_of_ble_eq_true rfl) dX1_changeByService_30 ⟨(Nat.le_of_ble_eq_true rfl), (Nat.le_of_ble_eq_true rfl)⟩) hE hst [0, 1] rfl (fun _ => rfl) (fun (_ : Unit) => [(h, .inr (1, [.ref j1, .ref j2, .ref mn, .ref lw, .int cut, .int least, .ref sd, .ref sr])), (lw, .inl (cI, 5, .inl la))]) (fun _ => rfl) (fun _ H locs hF hst => ?_)
    refine lv_ineg hx hb dX1_changeByService_33 ?_
    exact q_retI hQ hE hr hk hst () (by simp [chgI, *]) (trivial) (rfl) dX1_changeByService_34
  by_cases c_1_2 : p0 = 2
  · skip
    refine lv_tableIn (off := 34) (tgt := 35) hx hb dX1_changeByService_1 (by rw [c_1_2]; decide) (by rw [c_1_2]; decide) (by rw [c_1_2]; rfl) (by decide) ?_
    refine lv_aload_n hx hb dX1_changeByService_35 rfl (lv_at hl 0 rfl) ?_
    refine lv_iload_n hx hb dX1_changeByService_36 rfl (lv_at hl 2 rfl) ?_
    refine q_goI (q_rV hE lk_X1_114 (c_X1_lossLeft l D cI cJ cZ h j1 j2 mn lw sd sr cut least la p1 s.heap.size) hst [0, 1] rfl rfl rfl rfl rfl hl.1 ⟨(Nat.le_of_ble_eq_true rfl), (Nat.le_of_ble_eq_true rfl)⟩ (rest := []) rfl (Nat.le_of_ble_eq_true rfl) dX1_changeByService_37 ⟨(Nat.le_of_ble_eq_true rfl), (Nat.le_of_ble_eq_true rfl)⟩) hE hst [0, 1] rfl (fun _ => rfl) (fun (_ : Unit) => [(h, .inr (1, [.ref j1, .ref j2, .ref mn, .ref lw, .int cut, .int least, .ref sd, .ref sr])), (lw, .inl (cI, 5, .inl la))]) (fun _ => rfl) (fun _ H locs hF hst => ?_)
    refine lv_iconst (v := 2) hx hb dX1_changeByService_40 (by decide) ?_
    refine lv_idiv hx hb dX1_changeByService_41 (by decide) ?_
    refine lv_ineg hx hb dX1_changeByService_42 ?_
    exact q_retI hQ hE hr hk hst () (by simp [chgI, *]) (trivial) (rfl) dX1_changeByService_43
  by_cases c_1_3 : p0 = 3
  · skip
    refine lv_tableIn (off := 43) (tgt := 44) hx hb dX1_changeByService_1 (by rw [c_1_3]; decide) (by rw [c_1_3]; decide) (by rw [c_1_3]; rfl) (by decide) ?_
    refine lv_aload_n hx hb dX1_changeByService_44 rfl (lv_at hl 0 rfl) ?_
    refine gf_X1_37 hE hst 0 rfl rfl dX1_changeByService_45 ?_
    refine lv_iconst (v := 3) hx hb dX1_changeByService_48 (by decide) ?_
    refine q_goI (q_rNS hE lk_X1_105 (c_X6_at l D cI cJ cZ lw 5 la 3 (by first | assumption | decide | omega) s.heap.size) hst [1] rfl rfl rfl hl.1 ⟨(Nat.le_of_ble_eq_true rfl), (Nat.le_of_ble_eq_true rfl)⟩ (rest := []) rfl (Nat.le_of_ble_eq_true rfl) dX1_changeByService_49 ⟨(Nat.le_of_ble_eq_true rfl), (Nat.le_of_ble_eq_true rfl)⟩) hE hst [1] rfl (fun _ => rfl) (fun (_ : Unit) => [(h, .inr (1, [.ref j1, .ref j2, .ref mn, .ref lw, .int cut, .int least, .ref sd, .ref sr])), (lw, .inl (cI, 5, .inl la))]) (fun _ => rfl) (fun _ H locs hF hst => ?_)
    refine q_top (x' := la 3) (atI_n (by decide) (by decide)) ?_
    exact q_retI hQ hE hr hk hst () (by simp [chgI, *]) (trivial) (rfl) dX1_changeByService_52
  refine lv_tableOut (tgt := 53) hx hb dX1_changeByService_1 (by have q0 := lv_neT c_1_1 (a := 1) (by decide); have q1 := lv_neT c_1_2 (a := 2) (by decide); have q2 := lv_neT c_1_3 (a := 3) (by decide); omega) (by decide) ?_
  refine lv_iconst (v := 0) hx hb dX1_changeByService_53 (by decide) ?_
  exact q_retI hQ hE hr hk hst () (by simp [chgI, *]) (trivial) (rfl) dX1_changeByService_54
set_option maxHeartbeats 4000000 in
set_option maxRecDepth 100000 in
theorem c_X1_wageOf (l : Launch) (D : va_G) (cI cJ cZ : ClassId) (h : Nat) (j1 : Nat) (j2 : Nat) (mn : Nat) (lw : Nat) (sd : Nat) (sr : Nat) (cut : Int32) (least : Int32) (qk : Nat) (qb : Nat) (qp : Nat) (sz : Int32) (g : Nat) (gn : Nat) (gd : Nat) (gr : Nat) (gs : Nat) (se : Int32) (sh : Int32) (sp : Int32) (de : Int32) (po : Int32) (lo : Int32) (nd : Nat → Int32) (ki : Nat → Int32) (bi : Nat → Int32) (pa : Nat → Int32) (la : Nat → Int32) (m0 : Nat) (y0 : Int32) (hm : m0 < 60) (hbi : vp_in (bi m0) 366) : CtI l D cI cJ cZ yX1_wageOf cX1_wageOf 7 (some .int) 3 [.ref h, .ref g, .int (nI m0), .int y0] [(h, .inr (1, [.ref j1, .ref j2, .ref mn, .ref lw, .int cut, .int least, .ref sd, .ref sr])), (mn, .inr (2, [.ref qk, .ref qb, .ref qp, .int sz])), (qk, .inl (cI, 60, .inl ki)), (qb, .inl (cI, 60, .inl bi)), (qp, .inl (cI, 60, .inl pa)), (lw, .inl (cI, 5, .inl la)), (g, .inr (0, [.int se, .int sh, .int sp, .int de, .int po, .ref gn, .ref gd, .ref gr, .ref gs, .int lo])), (gn, .inl (cI, 366, .inl nd))] (fun (_ : Unit) => wagF cut nd ki bi pa la y0 m0) (fun (_ : Unit) => True) (fun (_ : Unit) => [(h, .inr (1, [.ref j1, .ref j2, .ref mn, .ref lw, .int cut, .int least, .ref sd, .ref sr])), (mn, .inr (2, [.ref qk, .ref qb, .ref qp, .int sz])), (qk, .inl (cI, 60, .inl ki)), (qb, .inl (cI, 60, .inl bi)), (qp, .inl (cI, 60, .inl pa)), (lw, .inl (cI, 5, .inl la)), (g, .inr (0, [.int se, .int sh, .int sp, .int de, .int po, .ref gn, .ref gd, .ref gr, .ref gs, .int lo])), (gn, .inl (cI, 366, .inl nd))]) := by
  refine q_entI (own := RX1) rfl rfl (Nat.le_of_ble_eq_true rfl) ?_
  intro p e s m args below meth c A ls QQ hQ hE hx hb hr hk hin hA hl hst
  have hl : lv_has ls 7 [(0, .ref h), (1, .ref g), (2, .int (nI m0)), (3, .int y0)] := hl
  refine lv_aload_n hx hb dX1_wageOf_0 rfl (lv_at hl 0 rfl) ?_
  refine lv_aload_n hx hb dX1_wageOf_1 rfl (lv_at hl 1 rfl) ?_
  refine lv_iload_n hx hb dX1_wageOf_2 rfl (lv_at hl 2 rfl) ?_
  refine q_goI (q_rV hE lk_X1_80 (c_X1_numberOfMan l D cI cJ cZ h j1 j2 mn lw sd sr cut least qk qb qp sz g gn gd gr gs se sh sp de po lo nd bi m0 (by first | assumption | decide | omega) (by first | assumption | decide | omega) s.heap.size) hst [0, 1, 3, 6, 7] rfl rfl rfl rfl rfl hl.1 ⟨(Nat.le_of_ble_eq_true rfl), (Nat.le_of_ble_eq_true rfl)⟩ (rest := []) rfl (Nat.le_of_ble_eq_true rfl) dX1_wageOf_3 ⟨(Nat.le_of_ble_eq_true rfl), (Nat.le_of_ble_eq_true rfl)⟩) hE hst [0, 1, 3, 6, 7] rfl (fun _ => rfl) (fun (_ : Unit) => [(h, .inr (1, [.ref j1, .ref j2, .ref mn, .ref lw, .int cut, .int least, .ref sd, .ref sr])), (mn, .inr (2, [.ref qk, .ref qb, .ref qp, .int sz])), (qk, .inl (cI, 60, .inl ki)), (qb, .inl (cI, 60, .inl bi)), (qp, .inl (cI, 60, .inl pa)), (lw, .inl (cI, 5, .inl la)), (g, .inr (0, [.int se, .int sh, .int sp, .int de, .int po, .ref gn, .ref gd, .ref gr, .ref gs, .int lo])), (gn, .inl (cI, 366, .inl nd))]) (fun _ => rfl) (fun _ H locs hF hst => ?_)
  refine lv_istore (lv' := [(4, .int (mnum nd bi m0)), (0, .ref h), (1, .ref g), (2, .int (nI m0)), (3, .int y0)]) hx hb dX1_wageOf_6 hl (by decide) rfl (fun ls hl => ?_)
  refine lv_aload_n hx hb dX1_wageOf_8 rfl (lv_at hl 1 rfl) ?_
  refine gf_X1_24 hE hst 0 rfl rfl dX1_wageOf_9 ?_
  refine lv_iload_n hx hb dX1_wageOf_12 rfl (lv_at hl 3 rfl) ?_
  refine q_goI (q_rNV hE lk_X1_117 (c_X2_payAtN l D cI cJ cZ mn qk qb qp m0 sz pa (by first | assumption | decide | omega) H.size) hst [1, 4] rfl rfl rfl rfl rfl hl.1 ⟨(Nat.le_of_ble_eq_true rfl), (Nat.le_of_ble_eq_true rfl)⟩ (rest := []) rfl (Nat.le_of_ble_eq_true rfl) dX1_wageOf_13 ⟨(Nat.le_of_ble_eq_true rfl), (Nat.le_of_ble_eq_true rfl)⟩) hE hst [1, 4] rfl (fun _ => rfl) (fun (_ : Unit) => [(h, .inr (1, [.ref j1, .ref j2, .ref mn, .ref lw, .int cut, .int least, .ref sd, .ref sr])), (mn, .inr (2, [.ref qk, .ref qb, .ref qp, .int sz])), (qk, .inl (cI, 60, .inl ki)), (qb, .inl (cI, 60, .inl bi)), (qp, .inl (cI, 60, .inl pa)), (lw, .inl (cI, 5, .inl la)), (g, .inr (0, [.int se, .int sh, .int sp, .int de, .int po, .ref gn, .ref gd, .ref gr, .ref gs, .int lo])), (gn, .inl (cI, 366, .inl nd))]) (fun _ => rfl) (fun _ H locs hF hst => ?_)
  refine lv_aload_n hx hb dX1_wageOf_16 rfl (lv_at hl 1 rfl) ?_
  refine gf_X1_37 hE hst 0 rfl rfl dX1_wageOf_17 ?_
  refine lv_iconst (v := 0) hx hb dX1_wageOf_20 (by decide) ?_
  refine q_goI (q_rNS hE lk_X1_105 (c_X6_at l D cI cJ cZ lw 5 la 0 (by first | assumption | decide | omega) H.size) hst [5] rfl rfl rfl hl.1 ⟨(Nat.le_of_ble_eq_true rfl), (Nat.le_of_ble_eq_true rfl)⟩ (rest := [.int (pa m0)]) rfl (Nat.le_of_ble_eq_true rfl) dX1_wageOf_21 ⟨(Nat.le_of_ble_eq_true rfl), (Nat.le_of_ble_eq_true rfl)⟩) hE hst [5] rfl (fun _ => rfl) (fun (_ : Unit) => [(h, .inr (1, [.ref j1, .ref j2, .ref mn, .ref lw, .int cut, .int least, .ref sd, .ref sr])), (mn, .inr (2, [.ref qk, .ref qb, .ref qp, .int sz])), (qk, .inl (cI, 60, .inl ki)), (qb, .inl (cI, 60, .inl bi)), (qp, .inl (cI, 60, .inl pa)), (lw, .inl (cI, 5, .inl la)), (g, .inr (0, [.int se, .int sh, .int sp, .int de, .int po, .ref gn, .ref gd, .ref gr, .ref gs, .int lo])), (gn, .inl (cI, 366, .inl nd))]) (fun _ => rfl) (fun _ H locs hF hst => ?_)
  refine q_top (x' := la 0) (atI_n (by decide) (by decide)) ?_
  refine lv_iload_n hx hb dX1_wageOf_24 rfl (lv_at hl 4 rfl) ?_
  refine lv_imul hx hb dX1_wageOf_25 ?_
  refine lv_iadd hx hb dX1_wageOf_26 ?_
  refine lv_istore (lv' := [(5, .int ((pa m0) + ((la 0) * y0))), (4, .int (mnum nd bi m0)), (0, .ref h), (1, .ref g), (2, .int (nI m0)), (3, .int y0)]) hx hb dX1_wageOf_27 hl (by decide) rfl (fun ls hl => ?_)
  suffices kJ : ∀ (H : Heap) (locs : List Loc), SS D A s [(h, .inr (1, [.ref j1, .ref j2, .ref mn, .ref lw, .int cut, .int least, .ref sd, .ref sr])), (mn, .inr (2, [.ref qk, .ref qb, .ref qp, .int sz])), (qk, .inl (cI, 60, .inl ki)), (qb, .inl (cI, 60, .inl bi)), (qp, .inl (cI, 60, .inl pa)), (lw, .inl (cI, 5, .inl la)), (g, .inr (0, [.int se, .int sh, .int sp, .int de, .int po, .ref gn, .ref gd, .ref gr, .ref gs, .int lo])), (gn, .inl (cI, 366, .inl nd))] H locs → W p l e (rmN 3 0 0) s m args below meth c H locs 0 0 QQ (F0 m 50 ls [.int (if clB cut (mnum nd bi m0) = true then la 4 else 0)]) by
    refine lv_aload_n hx hb dX1_wageOf_29 rfl (lv_at hl 2 rfl) ?_
    refine lv_iload hx hb dX1_wageOf_30 (lv_at hl 1 rfl) ?_
    refine q_goI (q_rV hE lk_X1_84 (c_X1_isCalled l D cI cJ cZ h j1 j2 mn lw sd sr cut least (mnum nd bi m0) H.size) hst [0] rfl rfl rfl rfl rfl hl.1 ⟨(Nat.le_of_ble_eq_true rfl), (Nat.le_of_ble_eq_true rfl)⟩ (rest := []) rfl (Nat.le_of_ble_eq_true rfl) dX1_wageOf_32 ⟨(Nat.le_of_ble_eq_true rfl), (Nat.le_of_ble_eq_true rfl)⟩) hE hst [0] rfl (fun _ => rfl) (fun (_ : Unit) => [(h, .inr (1, [.ref j1, .ref j2, .ref mn, .ref lw, .int cut, .int least, .ref sd, .ref sr])), (mn, .inr (2, [.ref qk, .ref qb, .ref qp, .int sz])), (qk, .inl (cI, 60, .inl ki)), (qb, .inl (cI, 60, .inl bi)), (qp, .inl (cI, 60, .inl pa)), (lw, .inl (cI, 5, .inl la)), (g, .inr (0, [.int se, .int sh, .int sp, .int de, .int po, .ref gn, .ref gd, .ref gr, .ref gs, .int lo])), (gn, .inl (cI, 366, .inl nd))]) (fun _ => rfl) (fun _ H locs hF hst => ?_)
    refine lv_if_eq (tgt := 49) hx hb dX1_wageOf_35 (by decide) (fun c_35 => ?_) (fun c_35 => ?_)
    · skip
      have c_35 := b2i_f c_35
      refine lv_iconst (v := 0) hx hb dX1_wageOf_49 (by decide) ?_
      have kJ := kJ _ _ hst
      rw [show (if clB cut (mnum nd bi m0) = true then la 4 else 0) = 0 from if_neg (by rw [c_35]; decide)] at kJ
      exact kJ
    · skip
      have c_35 := b2i_t c_35
      refine lv_aload_n hx hb dX1_wageOf_38 rfl (lv_at hl 2 rfl) ?_
      refine gf_X1_37 hE hst 0 rfl rfl dX1_wageOf_39 ?_
      refine lv_iconst (v := 4) hx hb dX1_wageOf_42 (by decide) ?_
      refine q_goI (q_rNS hE lk_X1_105 (c_X6_at l D cI cJ cZ lw 5 la 4 (by first | assumption | decide | omega) H.size) hst [5] rfl rfl rfl hl.1 ⟨(Nat.le_of_ble_eq_true rfl), (Nat.le_of_ble_eq_true rfl)⟩ (rest := []) rfl (Nat.le_of_ble_eq_true rfl) dX1_wageOf_43 ⟨(Nat.le_of_ble_eq_true rfl), (Nat.le_of_ble_eq_true rfl)⟩) hE hst [5] rfl (fun _ => rfl) (fun (_ : Unit) => [(h, .inr (1, [.ref j1, .ref j2, .ref mn, .ref lw, .int cut, .int least, .ref sd, .ref sr])), (mn, .inr (2, [.ref qk, .ref qb, .ref qp, .int sz])), (qk, .inl (cI, 60, .inl ki)), (qb, .inl (cI, 60, .inl bi)), (qp, .inl (cI, 60, .inl pa)), (lw, .inl (cI, 5, .inl la)), (g, .inr (0, [.int se, .int sh, .int sp, .int de, .int po, .ref gn, .ref gd, .ref gr, .ref gs, .int lo])), (gn, .inl (cI, 366, .inl nd))]) (fun _ => rfl) (fun _ H locs hF hst => ?_)
      refine q_top (x' := la 4) (atI_n (by decide) (by decide)) ?_
      refine lv_goto (tgt := 50) hx hb dX1_wageOf_46 (by decide) ?_
      have kJ := kJ _ _ hst
      rw [show (if clB cut (mnum nd bi m0) = true then la 4 else 0) = la 4 from if_pos c_35] at kJ
      exact kJ
  intro H locs hst
  refine lv_istore (lv' := [(6, .int (if clB cut (mnum nd bi m0) = true then la 4 else 0)), (5, .int ((pa m0) + ((la 0) * y0))), (4, .int (mnum nd bi m0)), (0, .ref h), (1, .ref g), (2, .int (nI m0)), (3, .int y0)]) hx hb dX1_wageOf_50 hl (by decide) rfl (fun ls hl => ?_)
  refine lv_iload hx hb dX1_wageOf_52 (lv_at hl 1 rfl) ?_
  refine lv_aload_n hx hb dX1_wageOf_54 rfl (lv_at hl 3 rfl) ?_
  refine lv_aload_n hx hb dX1_wageOf_55 rfl (lv_at hl 3 rfl) ?_
  refine lv_aload_n hx hb dX1_wageOf_56 rfl (lv_at hl 3 rfl) ?_
  refine gf_X1_24 hE hst 0 rfl rfl dX1_wageOf_57 ?_
  refine lv_iload_n hx hb dX1_wageOf_60 rfl (lv_at hl 5 rfl) ?_
  refine q_goI (q_rNV hE lk_X1_88 (c_X2_kindAtN l D cI cJ cZ mn qk qb qp m0 sz ki (by first | assumption | decide | omega) H.size) hst [1, 2] rfl rfl rfl rfl rfl hl.1 ⟨(Nat.le_of_ble_eq_true rfl), (Nat.le_of_ble_eq_true rfl)⟩ (rest := [.ref h, .ref h, .int ((pa m0) + ((la 0) * y0))]) rfl (Nat.le_of_ble_eq_true rfl) dX1_wageOf_61 ⟨(Nat.le_of_ble_eq_true rfl), (Nat.le_of_ble_eq_true rfl)⟩) hE hst [1, 2] rfl (fun _ => rfl) (fun (_ : Unit) => [(h, .inr (1, [.ref j1, .ref j2, .ref mn, .ref lw, .int cut, .int least, .ref sd, .ref sr])), (mn, .inr (2, [.ref qk, .ref qb, .ref qp, .int sz])), (qk, .inl (cI, 60, .inl ki)), (qb, .inl (cI, 60, .inl bi)), (qp, .inl (cI, 60, .inl pa)), (lw, .inl (cI, 5, .inl la)), (g, .inr (0, [.int se, .int sh, .int sp, .int de, .int po, .ref gn, .ref gd, .ref gr, .ref gs, .int lo])), (gn, .inl (cI, 366, .inl nd))]) (fun _ => rfl) (fun _ H locs hF hst => ?_)
  refine lv_iload hx hb dX1_wageOf_64 (lv_at hl 2 rfl) ?_
  refine q_goI (q_rV hE lk_X1_91 (c_X1_serviceBy l D cI cJ cZ h j1 j2 mn lw sd sr cut least (ki m0) (mnum nd bi m0) H.size) hst [0] rfl rfl rfl rfl rfl hl.1 ⟨(Nat.le_of_ble_eq_true rfl), (Nat.le_of_ble_eq_true rfl)⟩ (rest := [.ref h, .int ((pa m0) + ((la 0) * y0))]) rfl (Nat.le_of_ble_eq_true rfl) dX1_wageOf_66 ⟨(Nat.le_of_ble_eq_true rfl), (Nat.le_of_ble_eq_true rfl)⟩) hE hst [0] rfl (fun _ => rfl) (fun (_ : Unit) => [(h, .inr (1, [.ref j1, .ref j2, .ref mn, .ref lw, .int cut, .int least, .ref sd, .ref sr])), (mn, .inr (2, [.ref qk, .ref qb, .ref qp, .int sz])), (qk, .inl (cI, 60, .inl ki)), (qb, .inl (cI, 60, .inl bi)), (qp, .inl (cI, 60, .inl pa)), (lw, .inl (cI, 5, .inl la)), (g, .inr (0, [.int se, .int sh, .int sp, .int de, .int po, .ref gn, .ref gd, .ref gr, .ref gs, .int lo])), (gn, .inl (cI, 366, .inl nd))]) (fun _ => rfl) (fun _ H locs hF hst => ?_)
  refine lv_iload_n hx hb dX1_wageOf_69 rfl (lv_at hl 6 rfl) ?_
  refine q_goI (q_rV hE lk_X1_120 (c_X1_changeByService l D cI cJ cZ h j1 j2 mn lw sd sr cut least la (sevI (ki m0) (clB cut (mnum nd bi m0)) (evB (mnum nd bi m0))) y0 H.size) hst [0, 5] rfl rfl rfl rfl rfl hl.1 ⟨(Nat.le_of_ble_eq_true rfl), (Nat.le_of_ble_eq_true rfl)⟩ (rest := [.int ((pa m0) + ((la 0) * y0))]) rfl (Nat.le_of_ble_eq_true rfl) dX1_wageOf_70 ⟨(Nat.le_of_ble_eq_true rfl), (Nat.le_of_ble_eq_true rfl)⟩) hE hst [0, 5] rfl (fun _ => rfl) (fun (_ : Unit) => [(h, .inr (1, [.ref j1, .ref j2, .ref mn, .ref lw, .int cut, .int least, .ref sd, .ref sr])), (mn, .inr (2, [.ref qk, .ref qb, .ref qp, .int sz])), (qk, .inl (cI, 60, .inl ki)), (qb, .inl (cI, 60, .inl bi)), (qp, .inl (cI, 60, .inl pa)), (lw, .inl (cI, 5, .inl la)), (g, .inr (0, [.int se, .int sh, .int sp, .int de, .int po, .ref gn, .ref gd, .ref gr, .ref gs, .int lo])), (gn, .inl (cI, 366, .inl nd))]) (fun _ => rfl) (fun _ H locs hF hst => ?_)
  refine lv_iadd hx hb dX1_wageOf_73 ?_
  refine lv_iload hx hb dX1_wageOf_74 (lv_at hl 0 rfl) ?_
  refine lv_isub hx hb dX1_wageOf_76 ?_
  exact q_retI hQ hE hr hk hst () (rfl) (trivial) (rfl) dX1_wageOf_77
set_option maxHeartbeats 4000000 in
set_option maxRecDepth 100000 in
theorem c_X1_menWhoServed (l : Launch) (D : va_G) (cI cJ cZ : ClassId) (h : Nat) (j1 : Nat) (j2 : Nat) (mn : Nat) (lw : Nat) (sd : Nat) (sr : Nat) (cut : Int32) (least : Int32) (qk : Nat) (qb : Nat) (qp : Nat) (nq : Nat) (g : Nat) (gn : Nat) (gd : Nat) (gr : Nat) (gs : Nat) (se : Int32) (sh : Int32) (sp : Int32) (de : Int32) (po : Int32) (lo : Int32) (nd : Nat → Int32) (ki : Nat → Int32) (bi : Nat → Int32) (hn : nq ≤ 60) (hbi : ∀ j, j < nq → vp_in (bi j) 366) : CtI l D cI cJ cZ yX1_menWhoServed cX1_menWhoServed 4 (some .int) 3 [.ref h, .ref g] [(h, .inr (1, [.ref j1, .ref j2, .ref mn, .ref lw, .int cut, .int least, .ref sd, .ref sr])), (mn, .inr (2, [.ref qk, .ref qb, .ref qp, .int (nI nq)])), (qk, .inl (cI, 60, .inl ki)), (qb, .inl (cI, 60, .inl bi)), (g, .inr (0, [.int se, .int sh, .int sp, .int de, .int po, .ref gn, .ref gd, .ref gr, .ref gs, .int lo])), (gn, .inl (cI, 366, .inl nd))] (fun (_ : Unit) => cntI (fun m => hsB (svF cut nd ki bi m)) nq) (fun (_ : Unit) => True) (fun (_ : Unit) => [(h, .inr (1, [.ref j1, .ref j2, .ref mn, .ref lw, .int cut, .int least, .ref sd, .ref sr])), (mn, .inr (2, [.ref qk, .ref qb, .ref qp, .int (nI nq)])), (qk, .inl (cI, 60, .inl ki)), (qb, .inl (cI, 60, .inl bi)), (g, .inr (0, [.int se, .int sh, .int sp, .int de, .int po, .ref gn, .ref gd, .ref gr, .ref gs, .int lo])), (gn, .inl (cI, 366, .inl nd))]) := by
  refine q_entI (own := RX1) rfl rfl (Nat.le_of_ble_eq_true rfl) ?_
  intro p e s m args below meth c A ls QQ hQ hE hx hb hr hk hin hA hl hst
  have hl : lv_has ls 4 [(0, .ref h), (1, .ref g)] := hl
  have loop_4 : ∀ (fu : Nat) (kq : Nat), (kq ≤ nq) → (nq - kq) < fu → ∀ (H : Heap) (locs : List Loc) (ls : Array Slot), SS D A s [(h, .inr (1, [.ref j1, .ref j2, .ref mn, .ref lw, .int cut, .int least, .ref sd, .ref sr])), (mn, .inr (2, [.ref qk, .ref qb, .ref qp, .int (nI nq)])), (qk, .inl (cI, 60, .inl ki)), (qb, .inl (cI, 60, .inl bi)), (g, .inr (0, [.int se, .int sh, .int sp, .int de, .int po, .ref gn, .ref gd, .ref gr, .ref gs, .int lo])), (gn, .inl (cI, 366, .inl nd))] H locs → lv_has ls 4 [(3, .int (nI kq)), (2, .int (cntI (fun m => hsB (svF cut nd ki bi m)) kq)), (0, .ref h), (1, .ref g)] → W p l e (rmN 3 0 0) s m args below meth c H locs 0 0 QQ (F0 m 4 ls []) := by
    intro fu
    induction fu with
    | zero =>
      intro kq h1 hn
      exact absurd hn (Nat.not_lt_zero _)
    | succ fu ih =>
      intro kq h1 hn H locs ls hst hl
      refine lv_iload_n hx hb dX1_menWhoServed_4 rfl (lv_at hl 0 rfl) ?_
      refine lv_aload_n hx hb dX1_menWhoServed_5 rfl (lv_at hl 2 rfl) ?_
      refine gf_X1_24 hE hst 0 rfl rfl dX1_menWhoServed_6 ?_
      refine gf_X1_98 hE hst 1 rfl rfl dX1_menWhoServed_9 ?_
      refine lv_icmp_ge (tgt := 45) hx hb dX1_menWhoServed_12 (by decide) (fun c_12 => ?_) (fun c_12 => ?_)
      · skip
        have hk1 : nq = kq := Nat.le_antisymm (Nat.le_of_not_lt (fun z => nI_ge z (by omega) c_12)) h1
        subst hk1
        skip
        refine lv_iload_n hx hb dX1_menWhoServed_45 rfl (lv_at hl 1 rfl) ?_
        exact q_retI hQ hE hr hk hst () (rfl) (trivial) (rfl) dX1_menWhoServed_46
      · skip
        have hk1 : kq < nq := Nat.lt_of_not_le (fun z => c_12 (nI_le z (by omega)))
        refine lv_aload_n hx hb dX1_menWhoServed_15 rfl (lv_at hl 2 rfl) ?_
        refine lv_aload_n hx hb dX1_menWhoServed_16 rfl (lv_at hl 2 rfl) ?_
        refine gf_X1_24 hE hst 0 rfl rfl dX1_menWhoServed_17 ?_
        refine lv_iload_n hx hb dX1_menWhoServed_20 rfl (lv_at hl 0 rfl) ?_
        refine q_goI (q_rNV hE lk_X1_88 (c_X2_kindAtN l D cI cJ cZ mn qk qb qp kq (nI nq) ki (by first | assumption | decide | omega) H.size) hst [1, 2] rfl rfl rfl rfl rfl hl.1 ⟨(Nat.le_of_ble_eq_true rfl), (Nat.le_of_ble_eq_true rfl)⟩ (rest := [.ref h]) rfl (Nat.le_of_ble_eq_true rfl) dX1_menWhoServed_21 ⟨(Nat.le_of_ble_eq_true rfl), (Nat.le_of_ble_eq_true rfl)⟩) hE hst [1, 2] rfl (fun _ => rfl) (fun (_ : Unit) => [(h, .inr (1, [.ref j1, .ref j2, .ref mn, .ref lw, .int cut, .int least, .ref sd, .ref sr])), (mn, .inr (2, [.ref qk, .ref qb, .ref qp, .int (nI nq)])), (qk, .inl (cI, 60, .inl ki)), (qb, .inl (cI, 60, .inl bi)), (g, .inr (0, [.int se, .int sh, .int sp, .int de, .int po, .ref gn, .ref gd, .ref gr, .ref gs, .int lo])), (gn, .inl (cI, 366, .inl nd))]) (fun _ => rfl) (fun _ H locs hF hst => ?_)
        refine lv_aload_n hx hb dX1_menWhoServed_24 rfl (lv_at hl 2 rfl) ?_
        refine lv_aload_n hx hb dX1_menWhoServed_25 rfl (lv_at hl 3 rfl) ?_
        refine lv_iload_n hx hb dX1_menWhoServed_26 rfl (lv_at hl 0 rfl) ?_
        refine q_goI (q_rV hE lk_X1_80 (c_X1_numberOfMan l D cI cJ cZ h j1 j2 mn lw sd sr cut least qk qb qp (nI nq) g gn gd gr gs se sh sp de po lo nd bi kq (by omega) (hbi kq hk1) H.size) hst [0, 1, 3, 4, 5] rfl rfl rfl rfl rfl hl.1 ⟨(Nat.le_of_ble_eq_true rfl), (Nat.le_of_ble_eq_true rfl)⟩ (rest := [.int (ki kq), .ref h]) rfl (Nat.le_of_ble_eq_true rfl) dX1_menWhoServed_27 ⟨(Nat.le_of_ble_eq_true rfl), (Nat.le_of_ble_eq_true rfl)⟩) hE hst [0, 1, 3, 4, 5] rfl (fun _ => rfl) (fun (_ : Unit) => [(h, .inr (1, [.ref j1, .ref j2, .ref mn, .ref lw, .int cut, .int least, .ref sd, .ref sr])), (mn, .inr (2, [.ref qk, .ref qb, .ref qp, .int (nI nq)])), (qk, .inl (cI, 60, .inl ki)), (qb, .inl (cI, 60, .inl bi)), (g, .inr (0, [.int se, .int sh, .int sp, .int de, .int po, .ref gn, .ref gd, .ref gr, .ref gs, .int lo])), (gn, .inl (cI, 366, .inl nd))]) (fun _ => rfl) (fun _ H locs hF hst => ?_)
        refine q_goI (q_rV hE lk_X1_101 (c_X1_hasServed l D cI cJ cZ h j1 j2 mn lw sd sr cut least (ki kq) (mnum nd bi kq) H.size) hst [0] rfl rfl rfl rfl rfl hl.1 ⟨(Nat.le_of_ble_eq_true rfl), (Nat.le_of_ble_eq_true rfl)⟩ (rest := []) rfl (Nat.le_of_ble_eq_true rfl) dX1_menWhoServed_30 ⟨(Nat.le_of_ble_eq_true rfl), (Nat.le_of_ble_eq_true rfl)⟩) hE hst [0] rfl (fun _ => rfl) (fun (_ : Unit) => [(h, .inr (1, [.ref j1, .ref j2, .ref mn, .ref lw, .int cut, .int least, .ref sd, .ref sr])), (mn, .inr (2, [.ref qk, .ref qb, .ref qp, .int (nI nq)])), (qk, .inl (cI, 60, .inl ki)), (qb, .inl (cI, 60, .inl bi)), (g, .inr (0, [.int se, .int sh, .int sp, .int de, .int po, .ref gn, .ref gd, .ref gr, .ref gs, .int lo])), (gn, .inl (cI, 366, .inl nd))]) (fun _ => rfl) (fun _ H locs hF hst => ?_)
        refine lv_if_eq (tgt := 39) hx hb dX1_menWhoServed_33 (by decide) (fun c_33 => ?_) (fun c_33 => ?_)
        · skip
          have c_33 := b2i_f c_33
          have hl : lv_has ls 4 [(3, .int (nI kq)), (2, .int (cntI (fun m => hsB (svF cut nd ki bi m)) (kq + 1))), (0, .ref h), (1, .ref g)] := by rw [cnt_f (f := fun m => hsB (svF cut nd ki bi m)) (c_33)]; exact hl
          refine lv_iinc (v := nI (kq + 1)) (lv' := [(3, .int (nI (kq + 1))), (2, .int (cntI (fun m => hsB (svF cut nd ki bi m)) (kq + 1))), (0, .ref h), (1, .ref g)]) hx hb dX1_menWhoServed_39 hl (k := 0) rfl (nI_next _) (by decide) rfl (fun ls hl => ?_)
          refine lv_goto (tgt := 4) hx hb dX1_menWhoServed_42 (by decide) ?_
          exact ih (kq + 1) (by omega) (by omega) _ _ _ (hst) (lv_sub hl [0, 1, 2, 3] rfl)
        · skip
          have c_33 := b2i_t c_33
          refine lv_iinc (v := (cntI (fun m => hsB (svF cut nd ki bi m)) kq) + 1) (lv' := [(2, .int ((cntI (fun m => hsB (svF cut nd ki bi m)) kq) + 1)), (3, .int (nI kq)), (0, .ref h), (1, .ref g)]) hx hb dX1_menWhoServed_36 hl (k := 1) rfl (rfl) (by decide) rfl (fun ls hl => ?_)
          have hl : lv_has ls 4 [(2, .int (cntI (fun m => hsB (svF cut nd ki bi m)) (kq + 1))), (3, .int (nI kq)), (0, .ref h), (1, .ref g)] := by rw [cnt_t (f := fun m => hsB (svF cut nd ki bi m)) (c_33)]; exact hl
          refine lv_iinc (v := nI (kq + 1)) (lv' := [(3, .int (nI (kq + 1))), (2, .int (cntI (fun m => hsB (svF cut nd ki bi m)) (kq + 1))), (0, .ref h), (1, .ref g)]) hx hb dX1_menWhoServed_39 hl (k := 1) rfl (nI_next _) (by decide) rfl (fun ls hl => ?_)
          refine lv_goto (tgt := 4) hx hb dX1_menWhoServed_42 (by decide) ?_
          exact ih (kq + 1) (by omega) (by omega) _ _ _ (hst) (lv_sub hl [0, 1, 2, 3] rfl)
  refine lv_iconst (v := 0) hx hb dX1_menWhoServed_0 (by decide) ?_
  refine lv_istore_n (lv' := [(2, .int 0), (0, .ref h), (1, .ref g)]) hx hb dX1_menWhoServed_1 rfl hl (by decide) rfl (fun ls hl => ?_)
  refine lv_iconst (v := 0) hx hb dX1_menWhoServed_2 (by decide) ?_
  refine lv_istore_n (lv' := [(3, .int 0), (2, .int 0), (0, .ref h), (1, .ref g)]) hx hb dX1_menWhoServed_3 rfl hl (by decide) rfl (fun ls hl => ?_)
  exact loop_4 (nq + 1) 0 (Nat.zero_le _) (by omega) _ _ _ (hst) (lv_sub hl [0, 1, 2, 3] rfl)
set_option maxHeartbeats 4000000 in
set_option maxRecDepth 100000 in
theorem c_X1_findDoes (l : Launch) (D : va_G) (cI cJ cZ : ClassId) (h : Nat) (j1 : Nat) (j2 : Nat) (mn : Nat) (lw : Nat) (sd : Nat) (sr : Nat) (cut : Int32) (least : Int32) (qk : Nat) (qb : Nat) (qp : Nat) (nq : Nat) (g : Nat) (gn : Nat) (gd : Nat) (gr : Nat) (gs : Nat) (se : Int32) (sh : Int32) (sp : Int32) (de : Int32) (po : Int32) (lo : Int32) (nd : Nat → Int32) (ki : Nat → Int32) (bi : Nat → Int32) (pa : Nat → Int32) (la : Nat → Int32) (r : Nat) (s01 : Int64) (s02 : Int64) (ra : Int64) (rb : Int64) (s03 : Int32) (s04 : Int32) (y0 : Int32) (hn : nq ≤ 60) (hbi : ∀ j, j < nq → vp_in (bi j) 366) : CtI l D cI cJ cZ yX1_findDoes cX1_findDoes 5 (some .boolean) 4 [.ref h, .ref g, .int y0, .ref r] [(h, .inr (1, [.ref j1, .ref j2, .ref mn, .ref lw, .int cut, .int least, .ref sd, .ref sr])), (mn, .inr (2, [.ref qk, .ref qb, .ref qp, .int (nI nq)])), (qk, .inl (cI, 60, .inl ki)), (qb, .inl (cI, 60, .inl bi)), (qp, .inl (cI, 60, .inl pa)), (lw, .inl (cI, 5, .inl la)), (g, .inr (0, [.int se, .int sh, .int sp, .int de, .int po, .ref gn, .ref gd, .ref gr, .ref gs, .int lo])), (gn, .inl (cI, 366, .inl nd)), (sd, .inr (4, [.long s01, .long s02, .int s03, .int s04])), (r, .inr (3, [.long ra, .long rb]))] (fun (u : Int64 × Int64 × Int32 × Int32) => b2i (dfB (calF cut nd bi) nq)) (fun (u : Int64 × Int64 × Int32 × Int32) => True) (fun (u : Int64 × Int64 × Int32 × Int32) => [(h, .inr (1, [.ref j1, .ref j2, .ref mn, .ref lw, .int cut, .int least, .ref sd, .ref sr])), (mn, .inr (2, [.ref qk, .ref qb, .ref qp, .int (nI nq)])), (qk, .inl (cI, 60, .inl ki)), (qb, .inl (cI, 60, .inl bi)), (qp, .inl (cI, 60, .inl pa)), (lw, .inl (cI, 5, .inl la)), (g, .inr (0, [.int se, .int sh, .int sp, .int de, .int po, .ref gn, .ref gd, .ref gr, .ref gs, .int lo])), (gn, .inl (cI, 366, .inl nd)), (sd, .inr (4, [.long u.1, .long u.2.1, .int u.2.2.1, .int u.2.2.2])), (r, .inr (3, [.long (if dfB (calF cut nd bi) nq = true then becA (dfN (calF cut nd bi) (wgL cut nd ki bi pa la y0) nq) (dfD (calF cut nd bi) nq) else ra), .long (if dfB (calF cut nd bi) nq = true then becB (dfN (calF cut nd bi) (wgL cut nd ki bi pa la y0) nq) (dfD (calF cut nd bi) nq) else rb)]))]) := by
  refine q_entI (own := RX1) rfl rfl (Nat.le_of_ble_eq_true rfl) ?_
  intro p e s m args below meth c A ls QQ hQ hE hx hb hr hk hin hA hl hst
  have hl : lv_has ls 5 [(0, .ref h), (1, .ref g), (2, .int y0), (3, .ref r)] := hl
  have loop_10 : ∀ (fu : Nat) (kq : Nat), (kq ≤ nq) → (nq - kq) < fu → ∀ (H : Heap) (locs : List Loc) (ls : Array Slot), SS D A s [(h, .inr (1, [.ref j1, .ref j2, .ref mn, .ref lw, .int cut, .int least, .ref sd, .ref sr])), (mn, .inr (2, [.ref qk, .ref qb, .ref qp, .int (nI nq)])), (qk, .inl (cI, 60, .inl ki)), (qb, .inl (cI, 60, .inl bi)), (qp, .inl (cI, 60, .inl pa)), (lw, .inl (cI, 5, .inl la)), (g, .inr (0, [.int se, .int sh, .int sp, .int de, .int po, .ref gn, .ref gd, .ref gr, .ref gs, .int lo])), (gn, .inl (cI, 366, .inl nd)), (sd, .inr (4, [.long (sW (calF cut nd bi) (wgL cut nd ki bi pa la y0) kq), .long (sO (calF cut nd bi) (wgL cut nd ki bi pa la y0) kq), .int (cW (calF cut nd bi) kq), .int (cO (calF cut nd bi) kq)])), (r, .inr (3, [.long ra, .long rb]))] H locs → lv_has ls 5 [(4, .int (nI kq)), (0, .ref h), (1, .ref g), (2, .int y0), (3, .ref r)] → W p l e (rmN 4 0 0) s m args below meth c H locs 0 0 QQ (F0 m 10 ls []) := by
    intro fu
    induction fu with
    | zero =>
      intro kq h1 hn
      exact absurd hn (Nat.not_lt_zero _)
    | succ fu ih =>
      intro kq h1 hn H locs ls hst hl
      refine lv_iload hx hb dX1_findDoes_10 (lv_at hl 0 rfl) ?_
      refine lv_aload_n hx hb dX1_findDoes_12 rfl (lv_at hl 1 rfl) ?_
      refine gf_X1_24 hE hst 0 rfl rfl dX1_findDoes_13 ?_
      refine gf_X1_98 hE hst 1 rfl rfl dX1_findDoes_16 ?_
      refine lv_icmp_ge (tgt := 51) hx hb dX1_findDoes_19 (by decide) (fun c_19 => ?_) (fun c_19 => ?_)
      · skip
        have hk1 : nq = kq := Nat.le_antisymm (Nat.le_of_not_lt (fun z => nI_ge z (by omega) c_19)) h1
        subst hk1
        skip
        refine lv_aload_n hx hb dX1_findDoes_51 rfl (lv_at hl 1 rfl) ?_
        refine gf_X1_50 hE hst 0 rfl rfl dX1_findDoes_52 ?_
        refine lv_aload_n hx hb dX1_findDoes_55 rfl (lv_at hl 4 rfl) ?_
        refine q_goI (q_rNV hE lk_X1_138 (c_X4_findGap l D cI cJ cZ sd r (sW (calF cut nd bi) (wgL cut nd ki bi pa la y0) nq) (sO (calF cut nd bi) (wgL cut nd ki bi pa la y0) nq) ra rb (cW (calF cut nd bi) nq) (cO (calF cut nd bi) nq) H.size) hst [8, 9] rfl rfl rfl rfl rfl hl.1 ⟨(Nat.le_of_ble_eq_true rfl), (Nat.le_of_ble_eq_true rfl)⟩ (rest := []) rfl (Nat.le_of_ble_eq_true rfl) dX1_findDoes_56 ⟨(Nat.le_of_ble_eq_true rfl), (Nat.le_of_ble_eq_true rfl)⟩) hE hst [8, 9] rfl (fun _ => rfl) (fun (_ : Unit) => [(h, .inr (1, [.ref j1, .ref j2, .ref mn, .ref lw, .int cut, .int least, .ref sd, .ref sr])), (mn, .inr (2, [.ref qk, .ref qb, .ref qp, .int (nI nq)])), (qk, .inl (cI, 60, .inl ki)), (qb, .inl (cI, 60, .inl bi)), (qp, .inl (cI, 60, .inl pa)), (lw, .inl (cI, 5, .inl la)), (g, .inr (0, [.int se, .int sh, .int sp, .int de, .int po, .ref gn, .ref gd, .ref gr, .ref gs, .int lo])), (gn, .inl (cI, 366, .inl nd)), (sd, .inr (4, [.long (sW (calF cut nd bi) (wgL cut nd ki bi pa la y0) nq), .long (sO (calF cut nd bi) (wgL cut nd ki bi pa la y0) nq), .int (cW (calF cut nd bi) nq), .int (cO (calF cut nd bi) nq)])), (r, .inr (3, [.long (if gapB (cW (calF cut nd bi) nq) (cO (calF cut nd bi) nq) = true then becA (gapN (sW (calF cut nd bi) (wgL cut nd ki bi pa la y0) nq) (sO (calF cut nd bi) (wgL cut nd ki bi pa la y0) nq) (cW (calF cut nd bi) nq) (cO (calF cut nd bi) nq)) (gapD (cW (calF cut nd bi) nq) (cO (calF cut nd bi) nq)) else ra), .long (if gapB (cW (calF cut nd bi) nq) (cO (calF cut nd bi) nq) = true then becB (gapN (sW (calF cut nd bi) (wgL cut nd ki bi pa la y0) nq) (sO (calF cut nd bi) (wgL cut nd ki bi pa la y0) nq) (cW (calF cut nd bi) nq) (cO (calF cut nd bi) nq)) (gapD (cW (calF cut nd bi) nq) (cO (calF cut nd bi) nq)) else rb)]))]) (fun _ => rfl) (fun _ H locs hF hst => ?_)
        exact q_retZ hQ hE hr hk hst (sW (calF cut nd bi) (wgL cut nd ki bi pa la y0) nq, sO (calF cut nd bi) (wgL cut nd ki bi pa la y0) nq, cW (calF cut nd bi) nq, cO (calF cut nd bi) nq) (b2i_nar _) (rfl) (trivial) (rfl) dX1_findDoes_59
      · skip
        have hk1 : kq < nq := Nat.lt_of_not_le (fun z => c_19 (nI_le z (by omega)))
        refine lv_aload_n hx hb dX1_findDoes_22 rfl (lv_at hl 1 rfl) ?_
        refine gf_X1_50 hE hst 0 rfl rfl dX1_findDoes_23 ?_
        refine lv_aload_n hx hb dX1_findDoes_26 rfl (lv_at hl 1 rfl) ?_
        refine lv_aload_n hx hb dX1_findDoes_27 rfl (lv_at hl 2 rfl) ?_
        refine lv_iload hx hb dX1_findDoes_28 (lv_at hl 0 rfl) ?_
        refine q_goI (q_rV hE lk_X1_126 (c_X1_isCalledBy l D cI cJ cZ h j1 j2 mn lw sd sr cut least qk qb qp (nI nq) g gn gd gr gs se sh sp de po lo nd bi kq (by omega) (hbi kq hk1) H.size) hst [0, 1, 3, 6, 7] rfl rfl rfl rfl rfl hl.1 ⟨(Nat.le_of_ble_eq_true rfl), (Nat.le_of_ble_eq_true rfl)⟩ (rest := [.ref sd]) rfl (Nat.le_of_ble_eq_true rfl) dX1_findDoes_30 ⟨(Nat.le_of_ble_eq_true rfl), (Nat.le_of_ble_eq_true rfl)⟩) hE hst [0, 1, 3, 6, 7] rfl (fun _ => rfl) (fun (_ : Unit) => [(h, .inr (1, [.ref j1, .ref j2, .ref mn, .ref lw, .int cut, .int least, .ref sd, .ref sr])), (mn, .inr (2, [.ref qk, .ref qb, .ref qp, .int (nI nq)])), (qk, .inl (cI, 60, .inl ki)), (qb, .inl (cI, 60, .inl bi)), (qp, .inl (cI, 60, .inl pa)), (lw, .inl (cI, 5, .inl la)), (g, .inr (0, [.int se, .int sh, .int sp, .int de, .int po, .ref gn, .ref gd, .ref gr, .ref gs, .int lo])), (gn, .inl (cI, 366, .inl nd)), (sd, .inr (4, [.long (sW (calF cut nd bi) (wgL cut nd ki bi pa la y0) kq), .long (sO (calF cut nd bi) (wgL cut nd ki bi pa la y0) kq), .int (cW (calF cut nd bi) kq), .int (cO (calF cut nd bi) kq)])), (r, .inr (3, [.long ra, .long rb]))]) (fun _ => rfl) (fun _ H locs hF hst => ?_)
        refine lv_aload_n hx hb dX1_findDoes_33 rfl (lv_at hl 1 rfl) ?_
        refine lv_aload_n hx hb dX1_findDoes_34 rfl (lv_at hl 2 rfl) ?_
        refine lv_iload hx hb dX1_findDoes_35 (lv_at hl 0 rfl) ?_
        refine lv_iload_n hx hb dX1_findDoes_37 rfl (lv_at hl 3 rfl) ?_
        refine q_goI (q_rV hE lk_X1_130 (c_X1_wageOf l D cI cJ cZ h j1 j2 mn lw sd sr cut least qk qb qp (nI nq) g gn gd gr gs se sh sp de po lo nd ki bi pa la kq y0 (by omega) (hbi kq hk1) H.size) hst [0, 1, 2, 3, 4, 5, 6, 7] rfl rfl rfl rfl rfl hl.1 ⟨(Nat.le_of_ble_eq_true rfl), (Nat.le_of_ble_eq_true rfl)⟩ (rest := [.int (b2i (calF cut nd bi kq)), .ref sd]) rfl (Nat.le_of_ble_eq_true rfl) dX1_findDoes_38 ⟨(Nat.le_of_ble_eq_true rfl), (Nat.le_of_ble_eq_true rfl)⟩) hE hst [0, 1, 2, 3, 4, 5, 6, 7] rfl (fun _ => rfl) (fun (_ : Unit) => [(h, .inr (1, [.ref j1, .ref j2, .ref mn, .ref lw, .int cut, .int least, .ref sd, .ref sr])), (mn, .inr (2, [.ref qk, .ref qb, .ref qp, .int (nI nq)])), (qk, .inl (cI, 60, .inl ki)), (qb, .inl (cI, 60, .inl bi)), (qp, .inl (cI, 60, .inl pa)), (lw, .inl (cI, 5, .inl la)), (g, .inr (0, [.int se, .int sh, .int sp, .int de, .int po, .ref gn, .ref gd, .ref gr, .ref gs, .int lo])), (gn, .inl (cI, 366, .inl nd)), (sd, .inr (4, [.long (sW (calF cut nd bi) (wgL cut nd ki bi pa la y0) kq), .long (sO (calF cut nd bi) (wgL cut nd ki bi pa la y0) kq), .int (cW (calF cut nd bi) kq), .int (cO (calF cut nd bi) kq)])), (r, .inr (3, [.long ra, .long rb]))]) (fun _ => rfl) (fun _ H locs hF hst => ?_)
        refine lv_i2l (v := (wagF cut nd ki bi pa la y0 kq).toInt64) hx hb dX1_findDoes_41 rfl ?_
        refine q_goV (q_rNV hE lk_X1_134 (c_X4_enter l D cI cJ cZ sd (sW (calF cut nd bi) (wgL cut nd ki bi pa la y0) kq) (sO (calF cut nd bi) (wgL cut nd ki bi pa la y0) kq) ((wagF cut nd ki bi pa la y0 kq).toInt64) (cW (calF cut nd bi) kq) (cO (calF cut nd bi) kq) (calF cut nd bi kq) H.size) hst [8] rfl rfl rfl rfl rfl hl.1 ⟨(Nat.le_of_ble_eq_true rfl), (Nat.le_of_ble_eq_true rfl)⟩ (rest := []) rfl (Nat.le_of_ble_eq_true rfl) dX1_findDoes_42 ⟨(Nat.le_of_ble_eq_true rfl), (Nat.le_of_ble_eq_true rfl)⟩) hE hst [8] rfl (fun _ => rfl) (fun (_ : Unit) => [(h, .inr (1, [.ref j1, .ref j2, .ref mn, .ref lw, .int cut, .int least, .ref sd, .ref sr])), (mn, .inr (2, [.ref qk, .ref qb, .ref qp, .int (nI nq)])), (qk, .inl (cI, 60, .inl ki)), (qb, .inl (cI, 60, .inl bi)), (qp, .inl (cI, 60, .inl pa)), (lw, .inl (cI, 5, .inl la)), (g, .inr (0, [.int se, .int sh, .int sp, .int de, .int po, .ref gn, .ref gd, .ref gr, .ref gs, .int lo])), (gn, .inl (cI, 366, .inl nd)), (sd, .inr (4, [.long (if (calF cut nd bi kq) = true then (sW (calF cut nd bi) (wgL cut nd ki bi pa la y0) kq) + ((wagF cut nd ki bi pa la y0 kq).toInt64) else (sW (calF cut nd bi) (wgL cut nd ki bi pa la y0) kq)), .long (if (calF cut nd bi kq) = true then (sO (calF cut nd bi) (wgL cut nd ki bi pa la y0) kq) else (sO (calF cut nd bi) (wgL cut nd ki bi pa la y0) kq) + ((wagF cut nd ki bi pa la y0 kq).toInt64)), .int (if (calF cut nd bi kq) = true then (cW (calF cut nd bi) kq) + 1 else (cW (calF cut nd bi) kq)), .int (if (calF cut nd bi kq) = true then (cO (calF cut nd bi) kq) else (cO (calF cut nd bi) kq) + 1)])), (r, .inr (3, [.long ra, .long rb]))]) (fun _ => rfl) (fun _ H locs hF hst => ?_)
        refine lv_iinc (v := nI (kq + 1)) (lv' := [(4, .int (nI (kq + 1))), (0, .ref h), (1, .ref g), (2, .int y0), (3, .ref r)]) hx hb dX1_findDoes_45 hl (k := 0) rfl (nI_next _) (by decide) rfl (fun ls hl => ?_)
        refine lv_goto (tgt := 10) hx hb dX1_findDoes_48 (by decide) ?_
        exact ih (kq + 1) (by omega) (by omega) _ _ _ (hst) (lv_sub hl [0, 1, 2, 3, 4] rfl)
  refine lv_aload_n hx hb dX1_findDoes_0 rfl (lv_at hl 0 rfl) ?_
  refine gf_X1_50 hE hst 0 rfl rfl dX1_findDoes_1 ?_
  refine q_goV (q_rNV hE lk_X1_123 (c_X4_clear l D cI cJ cZ sd s01 s02 s03 s04 s.heap.size) hst [8] rfl rfl rfl rfl rfl hl.1 ⟨(Nat.le_of_ble_eq_true rfl), (Nat.le_of_ble_eq_true rfl)⟩ (rest := []) rfl (Nat.le_of_ble_eq_true rfl) dX1_findDoes_4 ⟨(Nat.le_of_ble_eq_true rfl), (Nat.le_of_ble_eq_true rfl)⟩) hE hst [8] rfl (fun _ => rfl) (fun (_ : Unit) => [(h, .inr (1, [.ref j1, .ref j2, .ref mn, .ref lw, .int cut, .int least, .ref sd, .ref sr])), (mn, .inr (2, [.ref qk, .ref qb, .ref qp, .int (nI nq)])), (qk, .inl (cI, 60, .inl ki)), (qb, .inl (cI, 60, .inl bi)), (qp, .inl (cI, 60, .inl pa)), (lw, .inl (cI, 5, .inl la)), (g, .inr (0, [.int se, .int sh, .int sp, .int de, .int po, .ref gn, .ref gd, .ref gr, .ref gs, .int lo])), (gn, .inl (cI, 366, .inl nd)), (sd, .inr (4, [.long 0, .long 0, .int 0, .int 0])), (r, .inr (3, [.long ra, .long rb]))]) (fun _ => rfl) (fun _ H locs hF hst => ?_)
  refine lv_iconst (v := 0) hx hb dX1_findDoes_7 (by decide) ?_
  refine lv_istore (lv' := [(4, .int 0), (0, .ref h), (1, .ref g), (2, .int y0), (3, .ref r)]) hx hb dX1_findDoes_8 hl (by decide) rfl (fun ls hl => ?_)
  exact loop_10 (nq + 1) 0 (Nat.zero_le _) (by omega) _ _ _ (hst) (lv_sub hl [0, 1, 2, 3, 4] rfl)
set_option maxHeartbeats 4000000 in
set_option maxRecDepth 100000 in
theorem c_X1_findShare (l : Launch) (D : va_G) (cI cJ cZ : ClassId) (h : Nat) (j1 : Nat) (j2 : Nat) (mn : Nat) (lw : Nat) (sd : Nat) (sr : Nat) (cut : Int32) (least : Int32) (qk : Nat) (qb : Nat) (qp : Nat) (nq : Nat) (g : Nat) (gn : Nat) (gd : Nat) (gr : Nat) (gs : Nat) (se : Int32) (sh : Int32) (sp : Int32) (de : Int32) (po : Int32) (lo : Int32) (nd : Nat → Int32) (ki : Nat → Int32) (bi : Nat → Int32) (r : Nat) (s01 : Int64) (s02 : Int64) (ra : Int64) (rb : Int64) (s03 : Int32) (s04 : Int32) (hn : nq ≤ 60) (hbi : ∀ j, j < nq → vp_in (bi j) 366) : CtI l D cI cJ cZ yX1_findShare cX1_findShare 5 (some .boolean) 3 [.ref h, .ref g, .ref r] [(h, .inr (1, [.ref j1, .ref j2, .ref mn, .ref lw, .int cut, .int least, .ref sd, .ref sr])), (mn, .inr (2, [.ref qk, .ref qb, .ref qp, .int (nI nq)])), (qk, .inl (cI, 60, .inl ki)), (qb, .inl (cI, 60, .inl bi)), (g, .inr (0, [.int se, .int sh, .int sp, .int de, .int po, .ref gn, .ref gd, .ref gr, .ref gs, .int lo])), (gn, .inl (cI, 366, .inl nd)), (sd, .inr (4, [.long s01, .long s02, .int s03, .int s04])), (r, .inr (3, [.long ra, .long rb]))] (fun (u : Int64 × Int64 × Int32 × Int32) => b2i (dfB (calF cut nd bi) nq)) (fun (u : Int64 × Int64 × Int32 × Int32) => True) (fun (u : Int64 × Int64 × Int32 × Int32) => [(h, .inr (1, [.ref j1, .ref j2, .ref mn, .ref lw, .int cut, .int least, .ref sd, .ref sr])), (mn, .inr (2, [.ref qk, .ref qb, .ref qp, .int (nI nq)])), (qk, .inl (cI, 60, .inl ki)), (qb, .inl (cI, 60, .inl bi)), (g, .inr (0, [.int se, .int sh, .int sp, .int de, .int po, .ref gn, .ref gd, .ref gr, .ref gs, .int lo])), (gn, .inl (cI, 366, .inl nd)), (sd, .inr (4, [.long u.1, .long u.2.1, .int u.2.2.1, .int u.2.2.2])), (r, .inr (3, [.long (if dfB (calF cut nd bi) nq = true then becA (dfN (calF cut nd bi) (shL cut nd ki bi) nq) (dfD (calF cut nd bi) nq) else ra), .long (if dfB (calF cut nd bi) nq = true then becB (dfN (calF cut nd bi) (shL cut nd ki bi) nq) (dfD (calF cut nd bi) nq) else rb)]))]) := by
  refine q_entI (own := RX1) rfl rfl (Nat.le_of_ble_eq_true rfl) ?_
  intro p e s m args below meth c A ls QQ hQ hE hx hb hr hk hin hA hl hst
  have hl : lv_has ls 5 [(0, .ref h), (1, .ref g), (2, .ref r)] := hl
  have loop_9 : ∀ (fu : Nat) (kq : Nat), (kq ≤ nq) → (nq - kq) < fu → ∀ (H : Heap) (locs : List Loc) (ls : Array Slot), SS D A s [(h, .inr (1, [.ref j1, .ref j2, .ref mn, .ref lw, .int cut, .int least, .ref sd, .ref sr])), (mn, .inr (2, [.ref qk, .ref qb, .ref qp, .int (nI nq)])), (qk, .inl (cI, 60, .inl ki)), (qb, .inl (cI, 60, .inl bi)), (g, .inr (0, [.int se, .int sh, .int sp, .int de, .int po, .ref gn, .ref gd, .ref gr, .ref gs, .int lo])), (gn, .inl (cI, 366, .inl nd)), (sd, .inr (4, [.long (sW (calF cut nd bi) (shL cut nd ki bi) kq), .long (sO (calF cut nd bi) (shL cut nd ki bi) kq), .int (cW (calF cut nd bi) kq), .int (cO (calF cut nd bi) kq)])), (r, .inr (3, [.long ra, .long rb]))] H locs → lv_has ls 5 [(3, .int (nI kq)), (0, .ref h), (1, .ref g), (2, .ref r)] → W p l e (rmN 3 0 0) s m args below meth c H locs 0 0 QQ (F0 m 9 ls []) := by
    intro fu
    induction fu with
    | zero =>
      intro kq h1 hn
      exact absurd hn (Nat.not_lt_zero _)
    | succ fu ih =>
      intro kq h1 hn H locs ls hst hl
      refine lv_iload_n hx hb dX1_findShare_9 rfl (lv_at hl 0 rfl) ?_
      refine lv_aload_n hx hb dX1_findShare_10 rfl (lv_at hl 1 rfl) ?_
      refine gf_X1_24 hE hst 0 rfl rfl dX1_findShare_11 ?_
      refine gf_X1_98 hE hst 1 rfl rfl dX1_findShare_14 ?_
      refine lv_icmp_ge (tgt := 69) hx hb dX1_findShare_17 (by decide) (fun c_17 => ?_) (fun c_17 => ?_)
      · skip
        have hk1 : nq = kq := Nat.le_antisymm (Nat.le_of_not_lt (fun z => nI_ge z (by omega) c_17)) h1
        subst hk1
        skip
        refine lv_aload_n hx hb dX1_findShare_69 rfl (lv_at hl 1 rfl) ?_
        refine gf_X1_50 hE hst 0 rfl rfl dX1_findShare_70 ?_
        refine lv_aload_n hx hb dX1_findShare_73 rfl (lv_at hl 3 rfl) ?_
        refine q_goI (q_rNV hE lk_X1_138 (c_X4_findGap l D cI cJ cZ sd r (sW (calF cut nd bi) (shL cut nd ki bi) nq) (sO (calF cut nd bi) (shL cut nd ki bi) nq) ra rb (cW (calF cut nd bi) nq) (cO (calF cut nd bi) nq) H.size) hst [6, 7] rfl rfl rfl rfl rfl hl.1 ⟨(Nat.le_of_ble_eq_true rfl), (Nat.le_of_ble_eq_true rfl)⟩ (rest := []) rfl (Nat.le_of_ble_eq_true rfl) dX1_findShare_74 ⟨(Nat.le_of_ble_eq_true rfl), (Nat.le_of_ble_eq_true rfl)⟩) hE hst [6, 7] rfl (fun _ => rfl) (fun (_ : Unit) => [(h, .inr (1, [.ref j1, .ref j2, .ref mn, .ref lw, .int cut, .int least, .ref sd, .ref sr])), (mn, .inr (2, [.ref qk, .ref qb, .ref qp, .int (nI nq)])), (qk, .inl (cI, 60, .inl ki)), (qb, .inl (cI, 60, .inl bi)), (g, .inr (0, [.int se, .int sh, .int sp, .int de, .int po, .ref gn, .ref gd, .ref gr, .ref gs, .int lo])), (gn, .inl (cI, 366, .inl nd)), (sd, .inr (4, [.long (sW (calF cut nd bi) (shL cut nd ki bi) nq), .long (sO (calF cut nd bi) (shL cut nd ki bi) nq), .int (cW (calF cut nd bi) nq), .int (cO (calF cut nd bi) nq)])), (r, .inr (3, [.long (if gapB (cW (calF cut nd bi) nq) (cO (calF cut nd bi) nq) = true then becA (gapN (sW (calF cut nd bi) (shL cut nd ki bi) nq) (sO (calF cut nd bi) (shL cut nd ki bi) nq) (cW (calF cut nd bi) nq) (cO (calF cut nd bi) nq)) (gapD (cW (calF cut nd bi) nq) (cO (calF cut nd bi) nq)) else ra), .long (if gapB (cW (calF cut nd bi) nq) (cO (calF cut nd bi) nq) = true then becB (gapN (sW (calF cut nd bi) (shL cut nd ki bi) nq) (sO (calF cut nd bi) (shL cut nd ki bi) nq) (cW (calF cut nd bi) nq) (cO (calF cut nd bi) nq)) (gapD (cW (calF cut nd bi) nq) (cO (calF cut nd bi) nq)) else rb)]))]) (fun _ => rfl) (fun _ H locs hF hst => ?_)
        exact q_retZ hQ hE hr hk hst (sW (calF cut nd bi) (shL cut nd ki bi) nq, sO (calF cut nd bi) (shL cut nd ki bi) nq, cW (calF cut nd bi) nq, cO (calF cut nd bi) nq) (b2i_nar _) (rfl) (trivial) (rfl) dX1_findShare_77
      · skip
        have hk1 : kq < nq := Nat.lt_of_not_le (fun z => c_17 (nI_le z (by omega)))
        refine lv_aload_n hx hb dX1_findShare_20 rfl (lv_at hl 1 rfl) ?_
        refine lv_aload_n hx hb dX1_findShare_21 rfl (lv_at hl 2 rfl) ?_
        refine lv_iload_n hx hb dX1_findShare_22 rfl (lv_at hl 0 rfl) ?_
        refine q_goI (q_rV hE lk_X1_80 (c_X1_numberOfMan l D cI cJ cZ h j1 j2 mn lw sd sr cut least qk qb qp (nI nq) g gn gd gr gs se sh sp de po lo nd bi kq (by omega) (hbi kq hk1) H.size) hst [0, 1, 3, 4, 5] rfl rfl rfl rfl rfl hl.1 ⟨(Nat.le_of_ble_eq_true rfl), (Nat.le_of_ble_eq_true rfl)⟩ (rest := []) rfl (Nat.le_of_ble_eq_true rfl) dX1_findShare_23 ⟨(Nat.le_of_ble_eq_true rfl), (Nat.le_of_ble_eq_true rfl)⟩) hE hst [0, 1, 3, 4, 5] rfl (fun _ => rfl) (fun (_ : Unit) => [(h, .inr (1, [.ref j1, .ref j2, .ref mn, .ref lw, .int cut, .int least, .ref sd, .ref sr])), (mn, .inr (2, [.ref qk, .ref qb, .ref qp, .int (nI nq)])), (qk, .inl (cI, 60, .inl ki)), (qb, .inl (cI, 60, .inl bi)), (g, .inr (0, [.int se, .int sh, .int sp, .int de, .int po, .ref gn, .ref gd, .ref gr, .ref gs, .int lo])), (gn, .inl (cI, 366, .inl nd)), (sd, .inr (4, [.long (sW (calF cut nd bi) (shL cut nd ki bi) kq), .long (sO (calF cut nd bi) (shL cut nd ki bi) kq), .int (cW (calF cut nd bi) kq), .int (cO (calF cut nd bi) kq)])), (r, .inr (3, [.long ra, .long rb]))]) (fun _ => rfl) (fun _ H locs hF hst => ?_)
        refine lv_istore (lv' := [(4, .int (mnum nd bi kq)), (3, .int (nI kq)), (0, .ref h), (1, .ref g), (2, .ref r)]) hx hb dX1_findShare_26 hl (by decide) rfl (fun ls hl => ?_)
        refine lv_aload_n hx hb dX1_findShare_28 rfl (lv_at hl 2 rfl) ?_
        refine gf_X1_50 hE hst 0 rfl rfl dX1_findShare_29 ?_
        refine lv_aload_n hx hb dX1_findShare_32 rfl (lv_at hl 2 rfl) ?_
        refine lv_iload hx hb dX1_findShare_33 (lv_at hl 0 rfl) ?_
        refine q_goI (q_rV hE lk_X1_84 (c_X1_isCalled l D cI cJ cZ h j1 j2 mn lw sd sr cut least (mnum nd bi kq) H.size) hst [0] rfl rfl rfl rfl rfl hl.1 ⟨(Nat.le_of_ble_eq_true rfl), (Nat.le_of_ble_eq_true rfl)⟩ (rest := [.ref sd]) rfl (Nat.le_of_ble_eq_true rfl) dX1_findShare_35 ⟨(Nat.le_of_ble_eq_true rfl), (Nat.le_of_ble_eq_true rfl)⟩) hE hst [0] rfl (fun _ => rfl) (fun (_ : Unit) => [(h, .inr (1, [.ref j1, .ref j2, .ref mn, .ref lw, .int cut, .int least, .ref sd, .ref sr])), (mn, .inr (2, [.ref qk, .ref qb, .ref qp, .int (nI nq)])), (qk, .inl (cI, 60, .inl ki)), (qb, .inl (cI, 60, .inl bi)), (g, .inr (0, [.int se, .int sh, .int sp, .int de, .int po, .ref gn, .ref gd, .ref gr, .ref gs, .int lo])), (gn, .inl (cI, 366, .inl nd)), (sd, .inr (4, [.long (sW (calF cut nd bi) (shL cut nd ki bi) kq), .long (sO (calF cut nd bi) (shL cut nd ki bi) kq), .int (cW (calF cut nd bi) kq), .int (cO (calF cut nd bi) kq)])), (r, .inr (3, [.long ra, .long rb]))]) (fun _ => rfl) (fun _ H locs hF hst => ?_)
        suffices kJ : ∀ (H : Heap) (locs : List Loc), SS D A s [(h, .inr (1, [.ref j1, .ref j2, .ref mn, .ref lw, .int cut, .int least, .ref sd, .ref sr])), (mn, .inr (2, [.ref qk, .ref qb, .ref qp, .int (nI nq)])), (qk, .inl (cI, 60, .inl ki)), (qb, .inl (cI, 60, .inl bi)), (g, .inr (0, [.int se, .int sh, .int sp, .int de, .int po, .ref gn, .ref gd, .ref gr, .ref gs, .int lo])), (gn, .inl (cI, 366, .inl nd)), (sd, .inr (4, [.long (sW (calF cut nd bi) (shL cut nd ki bi) kq), .long (sO (calF cut nd bi) (shL cut nd ki bi) kq), .int (cW (calF cut nd bi) kq), .int (cO (calF cut nd bi) kq)])), (r, .inr (3, [.long ra, .long rb]))] H locs → W p l e (rmN 3 0 0) s m args below meth c H locs 0 0 QQ (F0 m 60 ls [.long (shL cut nd ki bi kq), .int (b2i (clB cut (mnum nd bi kq))), .ref sd]) by
          refine lv_aload_n hx hb dX1_findShare_38 rfl (lv_at hl 2 rfl) ?_
          refine lv_aload_n hx hb dX1_findShare_39 rfl (lv_at hl 2 rfl) ?_
          refine gf_X1_24 hE hst 0 rfl rfl dX1_findShare_40 ?_
          refine lv_iload_n hx hb dX1_findShare_43 rfl (lv_at hl 1 rfl) ?_
          refine q_goI (q_rNV hE lk_X1_88 (c_X2_kindAtN l D cI cJ cZ mn qk qb qp kq (nI nq) ki (by first | assumption | decide | omega) H.size) hst [1, 2] rfl rfl rfl rfl rfl hl.1 ⟨(Nat.le_of_ble_eq_true rfl), (Nat.le_of_ble_eq_true rfl)⟩ (rest := [.ref h, .int (b2i (clB cut (mnum nd bi kq))), .ref sd]) rfl (Nat.le_of_ble_eq_true rfl) dX1_findShare_44 ⟨(Nat.le_of_ble_eq_true rfl), (Nat.le_of_ble_eq_true rfl)⟩) hE hst [1, 2] rfl (fun _ => rfl) (fun (_ : Unit) => [(h, .inr (1, [.ref j1, .ref j2, .ref mn, .ref lw, .int cut, .int least, .ref sd, .ref sr])), (mn, .inr (2, [.ref qk, .ref qb, .ref qp, .int (nI nq)])), (qk, .inl (cI, 60, .inl ki)), (qb, .inl (cI, 60, .inl bi)), (g, .inr (0, [.int se, .int sh, .int sp, .int de, .int po, .ref gn, .ref gd, .ref gr, .ref gs, .int lo])), (gn, .inl (cI, 366, .inl nd)), (sd, .inr (4, [.long (sW (calF cut nd bi) (shL cut nd ki bi) kq), .long (sO (calF cut nd bi) (shL cut nd ki bi) kq), .int (cW (calF cut nd bi) kq), .int (cO (calF cut nd bi) kq)])), (r, .inr (3, [.long ra, .long rb]))]) (fun _ => rfl) (fun _ H locs hF hst => ?_)
          refine lv_iload hx hb dX1_findShare_47 (lv_at hl 0 rfl) ?_
          refine q_goI (q_rV hE lk_X1_101 (c_X1_hasServed l D cI cJ cZ h j1 j2 mn lw sd sr cut least (ki kq) (mnum nd bi kq) H.size) hst [0] rfl rfl rfl rfl rfl hl.1 ⟨(Nat.le_of_ble_eq_true rfl), (Nat.le_of_ble_eq_true rfl)⟩ (rest := [.int (b2i (clB cut (mnum nd bi kq))), .ref sd]) rfl (Nat.le_of_ble_eq_true rfl) dX1_findShare_49 ⟨(Nat.le_of_ble_eq_true rfl), (Nat.le_of_ble_eq_true rfl)⟩) hE hst [0] rfl (fun _ => rfl) (fun (_ : Unit) => [(h, .inr (1, [.ref j1, .ref j2, .ref mn, .ref lw, .int cut, .int least, .ref sd, .ref sr])), (mn, .inr (2, [.ref qk, .ref qb, .ref qp, .int (nI nq)])), (qk, .inl (cI, 60, .inl ki)), (qb, .inl (cI, 60, .inl bi)), (g, .inr (0, [.int se, .int sh, .int sp, .int de, .int po, .ref gn, .ref gd, .ref gr, .ref gs, .int lo])), (gn, .inl (cI, 366, .inl nd)), (sd, .inr (4, [.long (sW (calF cut nd bi) (shL cut nd ki bi) kq), .long (sO (calF cut nd bi) (shL cut nd ki bi) kq), .int (cW (calF cut nd bi) kq), .int (cO (calF cut nd bi) kq)])), (r, .inr (3, [.long ra, .long rb]))]) (fun _ => rfl) (fun _ H locs hF hst => ?_)
          refine lv_if_eq (tgt := 59) hx hb dX1_findShare_52 (by decide) (fun c_52 => ?_) (fun c_52 => ?_)
          · skip
            have c_52 := b2i_f c_52
            refine lv_lconst (v := 0) hx hb dX1_findShare_59 (by decide) ?_
            have kJ := kJ _ _ hst
            rw [show (shL cut nd ki bi kq) = 0 from if_neg (by rw [show hsB (svF cut nd ki bi kq) = false from c_52]; decide)] at kJ
            exact kJ
          · skip
            have c_52 := b2i_t c_52
            refine lv_lconst (v := 1) hx hb dX1_findShare_55 (by decide) ?_
            refine lv_goto (tgt := 60) hx hb dX1_findShare_56 (by decide) ?_
            have kJ := kJ _ _ hst
            rw [show (shL cut nd ki bi kq) = 1 from if_pos (show hsB (svF cut nd ki bi kq) = true from c_52)] at kJ
            exact kJ
        intro H locs hst
        refine q_goV (q_rNV hE lk_X1_134 (c_X4_enter l D cI cJ cZ sd (sW (calF cut nd bi) (shL cut nd ki bi) kq) (sO (calF cut nd bi) (shL cut nd ki bi) kq) (shL cut nd ki bi kq) (cW (calF cut nd bi) kq) (cO (calF cut nd bi) kq) (clB cut (mnum nd bi kq)) H.size) hst [6] rfl rfl rfl rfl rfl hl.1 ⟨(Nat.le_of_ble_eq_true rfl), (Nat.le_of_ble_eq_true rfl)⟩ (rest := []) rfl (Nat.le_of_ble_eq_true rfl) dX1_findShare_60 ⟨(Nat.le_of_ble_eq_true rfl), (Nat.le_of_ble_eq_true rfl)⟩) hE hst [6] rfl (fun _ => rfl) (fun (_ : Unit) => [(h, .inr (1, [.ref j1, .ref j2, .ref mn, .ref lw, .int cut, .int least, .ref sd, .ref sr])), (mn, .inr (2, [.ref qk, .ref qb, .ref qp, .int (nI nq)])), (qk, .inl (cI, 60, .inl ki)), (qb, .inl (cI, 60, .inl bi)), (g, .inr (0, [.int se, .int sh, .int sp, .int de, .int po, .ref gn, .ref gd, .ref gr, .ref gs, .int lo])), (gn, .inl (cI, 366, .inl nd)), (sd, .inr (4, [.long (if (clB cut (mnum nd bi kq)) = true then (sW (calF cut nd bi) (shL cut nd ki bi) kq) + (shL cut nd ki bi kq) else (sW (calF cut nd bi) (shL cut nd ki bi) kq)), .long (if (clB cut (mnum nd bi kq)) = true then (sO (calF cut nd bi) (shL cut nd ki bi) kq) else (sO (calF cut nd bi) (shL cut nd ki bi) kq) + (shL cut nd ki bi kq)), .int (if (clB cut (mnum nd bi kq)) = true then (cW (calF cut nd bi) kq) + 1 else (cW (calF cut nd bi) kq)), .int (if (clB cut (mnum nd bi kq)) = true then (cO (calF cut nd bi) kq) else (cO (calF cut nd bi) kq) + 1)])), (r, .inr (3, [.long ra, .long rb]))]) (fun _ => rfl) (fun _ H locs hF hst => ?_)
        refine lv_iinc (v := nI (kq + 1)) (lv' := [(3, .int (nI (kq + 1))), (4, .int (mnum nd bi kq)), (0, .ref h), (1, .ref g), (2, .ref r)]) hx hb dX1_findShare_63 hl (k := 1) rfl (nI_next _) (by decide) rfl (fun ls hl => ?_)
        refine lv_goto (tgt := 9) hx hb dX1_findShare_66 (by decide) ?_
        exact ih (kq + 1) (by omega) (by omega) _ _ _ (hst) (lv_sub hl [0, 2, 3, 4] rfl)
  refine lv_aload_n hx hb dX1_findShare_0 rfl (lv_at hl 0 rfl) ?_
  refine gf_X1_50 hE hst 0 rfl rfl dX1_findShare_1 ?_
  refine q_goV (q_rNV hE lk_X1_123 (c_X4_clear l D cI cJ cZ sd s01 s02 s03 s04 s.heap.size) hst [6] rfl rfl rfl rfl rfl hl.1 ⟨(Nat.le_of_ble_eq_true rfl), (Nat.le_of_ble_eq_true rfl)⟩ (rest := []) rfl (Nat.le_of_ble_eq_true rfl) dX1_findShare_4 ⟨(Nat.le_of_ble_eq_true rfl), (Nat.le_of_ble_eq_true rfl)⟩) hE hst [6] rfl (fun _ => rfl) (fun (_ : Unit) => [(h, .inr (1, [.ref j1, .ref j2, .ref mn, .ref lw, .int cut, .int least, .ref sd, .ref sr])), (mn, .inr (2, [.ref qk, .ref qb, .ref qp, .int (nI nq)])), (qk, .inl (cI, 60, .inl ki)), (qb, .inl (cI, 60, .inl bi)), (g, .inr (0, [.int se, .int sh, .int sp, .int de, .int po, .ref gn, .ref gd, .ref gr, .ref gs, .int lo])), (gn, .inl (cI, 366, .inl nd)), (sd, .inr (4, [.long 0, .long 0, .int 0, .int 0])), (r, .inr (3, [.long ra, .long rb]))]) (fun _ => rfl) (fun _ H locs hF hst => ?_)
  refine lv_iconst (v := 0) hx hb dX1_findShare_7 (by decide) ?_
  refine lv_istore_n (lv' := [(3, .int 0), (0, .ref h), (1, .ref g), (2, .ref r)]) hx hb dX1_findShare_8 rfl hl (by decide) rfl (fun ls hl => ?_)
  exact loop_9 (nq + 1) 0 (Nat.zero_le _) (by omega) _ _ _ (hst) (lv_sub hl [0, 1, 2, 3] rfl)
def srA (cut : Int32) (nd ki bi : Nat → Int32) (n : Nat) : Int64 := becA (dfN (calF cut nd bi) (shL cut nd ki bi) n) (dfD (calF cut nd bi) n)
def srB (cut : Int32) (nd ki bi : Nat → Int32) (n : Nat) : Int64 := becB (dfN (calF cut nd bi) (shL cut nd ki bi) n) (dfD (calF cut nd bi) n)
def dsA (cut : Int32) (nd ki bi pa la : Nat → Int32) (y : Int32) (n : Nat) : Int64 := becA (dfN (calF cut nd bi) (wgL cut nd ki bi pa la y) n) (dfD (calF cut nd bi) n)
def dsB (cut : Int32) (nd ki bi pa la : Nat → Int32) (y : Int32) (n : Nat) : Int64 := becB (dfN (calF cut nd bi) (wgL cut nd ki bi pa la y) n) (dfD (calF cut nd bi) n)
def svB (cut : Int32) (nd ki bi : Nat → Int32) (n : Nat) : Bool := dfB (calF cut nd bi) n && !decide (srA cut nd ki bi n = 0)
def svN (cut : Int32) (nd ki bi pa la : Nat → Int32) (y : Int32) (n : Nat) : Int64 := dsA cut nd ki bi pa la y n * srB cut nd ki bi n
def svD (cut : Int32) (nd ki bi pa la : Nat → Int32) (y : Int32) (n : Nat) : Int64 := dsB cut nd ki bi pa la y n * srA cut nd ki bi n
set_option maxHeartbeats 4000000 in
set_option maxRecDepth 100000 in
theorem c_X1_findServing (l : Launch) (D : va_G) (cI cJ cZ : ClassId) (h : Nat) (j1 : Nat) (j2 : Nat) (mn : Nat) (lw : Nat) (sd : Nat) (sr : Nat) (cut : Int32) (least : Int32) (qk : Nat) (qb : Nat) (qp : Nat) (nq : Nat) (g : Nat) (gn : Nat) (gd : Nat) (gr : Nat) (gs : Nat) (se : Int32) (sh : Int32) (sp : Int32) (de : Int32) (po : Int32) (lo : Int32) (nd : Nat → Int32) (ki : Nat → Int32) (bi : Nat → Int32) (pa : Nat → Int32) (la : Nat → Int32) (r : Nat) (s01 : Int64) (s02 : Int64) (ra : Int64) (rb : Int64) (s03 : Int32) (s04 : Int32) (sa : Int64) (sb : Int64) (y0 : Int32) (hn : nq ≤ 60) (hbi : ∀ j, j < nq → vp_in (bi j) 366) : CtI l D cI cJ cZ yX1_findServing cX1_findServing 4 (some .boolean) 5 [.ref h, .ref g, .int y0, .ref r] [(h, .inr (1, [.ref j1, .ref j2, .ref mn, .ref lw, .int cut, .int least, .ref sd, .ref sr])), (mn, .inr (2, [.ref qk, .ref qb, .ref qp, .int (nI nq)])), (qk, .inl (cI, 60, .inl ki)), (qb, .inl (cI, 60, .inl bi)), (qp, .inl (cI, 60, .inl pa)), (lw, .inl (cI, 5, .inl la)), (g, .inr (0, [.int se, .int sh, .int sp, .int de, .int po, .ref gn, .ref gd, .ref gr, .ref gs, .int lo])), (gn, .inl (cI, 366, .inl nd)), (sd, .inr (4, [.long s01, .long s02, .int s03, .int s04])), (r, .inr (3, [.long ra, .long rb])), (sr, .inr (3, [.long sa, .long sb]))] (fun (u : Int64 × Int64 × Int32 × Int32 × Int64 × Int64) => b2i (svB cut nd ki bi nq)) (fun (u : Int64 × Int64 × Int32 × Int32 × Int64 × Int64) => True) (fun (u : Int64 × Int64 × Int32 × Int32 × Int64 × Int64) => [(h, .inr (1, [.ref j1, .ref j2, .ref mn, .ref lw, .int cut, .int least, .ref sd, .ref sr])), (mn, .inr (2, [.ref qk, .ref qb, .ref qp, .int (nI nq)])), (qk, .inl (cI, 60, .inl ki)), (qb, .inl (cI, 60, .inl bi)), (qp, .inl (cI, 60, .inl pa)), (lw, .inl (cI, 5, .inl la)), (g, .inr (0, [.int se, .int sh, .int sp, .int de, .int po, .ref gn, .ref gd, .ref gr, .ref gs, .int lo])), (gn, .inl (cI, 366, .inl nd)), (sd, .inr (4, [.long u.1, .long u.2.1, .int u.2.2.1, .int u.2.2.2.1])), (r, .inr (3, [.long (if svB cut nd ki bi nq = true then becA (svN cut nd ki bi pa la y0 nq) (svD cut nd ki bi pa la y0 nq) else ra), .long (if svB cut nd ki bi nq = true then becB (svN cut nd ki bi pa la y0 nq) (svD cut nd ki bi pa la y0 nq) else rb)])), (sr, .inr (3, [.long u.2.2.2.2.1, .long u.2.2.2.2.2]))]) := by
  refine q_entI (own := RX1) rfl rfl (Nat.le_of_ble_eq_true rfl) ?_
  intro p e s m args below meth c A ls QQ hQ hE hx hb hr hk hin hA hl hst
  have hl : lv_has ls 4 [(0, .ref h), (1, .ref g), (2, .int y0), (3, .ref r)] := hl
  refine lv_aload_n hx hb dX1_findServing_0 rfl (lv_at hl 0 rfl) ?_
  refine lv_aload_n hx hb dX1_findServing_1 rfl (lv_at hl 1 rfl) ?_
  refine lv_aload_n hx hb dX1_findServing_2 rfl (lv_at hl 0 rfl) ?_
  refine gf_X1_57 hE hst 0 rfl rfl dX1_findServing_3 ?_
  refine q_goI (q_rV hE lk_X1_142 (c_X1_findShare l D cI cJ cZ h j1 j2 mn lw sd sr cut least qk qb qp nq g gn gd gr gs se sh sp de po lo nd ki bi sr s01 s02 sa sb s03 s04 (by first | assumption | decide | omega) (by first | assumption | decide | omega) s.heap.size) hst [0, 1, 2, 3, 6, 7, 8, 10] rfl rfl rfl rfl rfl hl.1 ⟨(Nat.le_of_ble_eq_true rfl), (Nat.le_of_ble_eq_true rfl)⟩ (rest := []) rfl (Nat.le_of_ble_eq_true rfl) dX1_findServing_6 ⟨(Nat.le_of_ble_eq_true rfl), (Nat.le_of_ble_eq_true rfl)⟩) hE hst [0, 1, 2, 3, 6, 7, 8, 10] rfl (fun _ => rfl) (fun (u : Int64 × Int64 × Int32 × Int32) => [(h, .inr (1, [.ref j1, .ref j2, .ref mn, .ref lw, .int cut, .int least, .ref sd, .ref sr])), (mn, .inr (2, [.ref qk, .ref qb, .ref qp, .int (nI nq)])), (qk, .inl (cI, 60, .inl ki)), (qb, .inl (cI, 60, .inl bi)), (qp, .inl (cI, 60, .inl pa)), (lw, .inl (cI, 5, .inl la)), (g, .inr (0, [.int se, .int sh, .int sp, .int de, .int po, .ref gn, .ref gd, .ref gr, .ref gs, .int lo])), (gn, .inl (cI, 366, .inl nd)), (sd, .inr (4, [.long u.1, .long u.2.1, .int u.2.2.1, .int u.2.2.2])), (r, .inr (3, [.long ra, .long rb])), (sr, .inr (3, [.long (if dfB (calF cut nd bi) nq = true then becA (dfN (calF cut nd bi) (shL cut nd ki bi) nq) (dfD (calF cut nd bi) nq) else sa), .long (if dfB (calF cut nd bi) nq = true then becB (dfN (calF cut nd bi) (shL cut nd ki bi) nq) (dfD (calF cut nd bi) nq) else sb)]))]) (fun _ => rfl) (fun u H locs hF hst => ?_)
  obtain ⟨s1_1, s2_2, s3_3, s4_4⟩ := u
  have hst : SS D A s [(h, .inr (1, [.ref j1, .ref j2, .ref mn, .ref lw, .int cut, .int least, .ref sd, .ref sr])), (mn, .inr (2, [.ref qk, .ref qb, .ref qp, .int (nI nq)])), (qk, .inl (cI, 60, .inl ki)), (qb, .inl (cI, 60, .inl bi)), (qp, .inl (cI, 60, .inl pa)), (lw, .inl (cI, 5, .inl la)), (g, .inr (0, [.int se, .int sh, .int sp, .int de, .int po, .ref gn, .ref gd, .ref gr, .ref gs, .int lo])), (gn, .inl (cI, 366, .inl nd)), (sd, .inr (4, [.long s1_1, .long s2_2, .int s3_3, .int s4_4])), (r, .inr (3, [.long ra, .long rb])), (sr, .inr (3, [.long (if dfB (calF cut nd bi) nq = true then becA (dfN (calF cut nd bi) (shL cut nd ki bi) nq) (dfD (calF cut nd bi) nq) else sa), .long (if dfB (calF cut nd bi) nq = true then becB (dfN (calF cut nd bi) (shL cut nd ki bi) nq) (dfD (calF cut nd bi) nq) else sb)]))] H locs := hst
  refine W.eq (g2 := F0 m 9 ls [.int (b2i (dfB (calF cut nd bi) nq))]) rfl ?_
  refine lv_if_eq (tgt := 34) hx hb dX1_findServing_9 (by decide) (fun c_9 => ?_) (fun c_9 => ?_)
  · skip
    have c_9 := b2i_f c_9
    refine lv_iconst (v := 0) hx hb dX1_findServing_34 (by decide) ?_
    exact q_retZ hQ hE hr hk hst (s1_1, s2_2, s3_3, s4_4, if dfB (calF cut nd bi) nq = true then becA (dfN (calF cut nd bi) (shL cut nd ki bi) nq) (dfD (calF cut nd bi) nq) else sa, if dfB (calF cut nd bi) nq = true then becB (dfN (calF cut nd bi) (shL cut nd ki bi) nq) (dfD (calF cut nd bi) nq) else sb) (rfl) (by rw [svB, c_9, Bool.false_and]; rfl) (trivial) (by rw [svB, c_9, Bool.false_and]; rfl) dX1_findServing_35
  · skip
    have c_9 := b2i_t c_9
    have eA : (if dfB (calF cut nd bi) nq = true then becA (dfN (calF cut nd bi) (shL cut nd ki bi) nq) (dfD (calF cut nd bi) nq) else sa) = srA cut nd ki bi nq := if_pos c_9
    have eB : (if dfB (calF cut nd bi) nq = true then becB (dfN (calF cut nd bi) (shL cut nd ki bi) nq) (dfD (calF cut nd bi) nq) else sb) = srB cut nd ki bi nq := if_pos c_9
    rw [eA, eB] at hst
    have hst : SS D A s [(h, .inr (1, [.ref j1, .ref j2, .ref mn, .ref lw, .int cut, .int least, .ref sd, .ref sr])), (mn, .inr (2, [.ref qk, .ref qb, .ref qp, .int (nI nq)])), (qk, .inl (cI, 60, .inl ki)), (qb, .inl (cI, 60, .inl bi)), (qp, .inl (cI, 60, .inl pa)), (lw, .inl (cI, 5, .inl la)), (g, .inr (0, [.int se, .int sh, .int sp, .int de, .int po, .ref gn, .ref gd, .ref gr, .ref gs, .int lo])), (gn, .inl (cI, 366, .inl nd)), (sd, .inr (4, [.long s1_1, .long s2_2, .int s3_3, .int s4_4])), (r, .inr (3, [.long ra, .long rb])), (sr, .inr (3, [.long (srA cut nd ki bi nq), .long (srB cut nd ki bi nq)]))] H locs := hst
    refine lv_aload_n hx hb dX1_findServing_12 rfl (lv_at hl 0 rfl) ?_
    refine gf_X1_57 hE hst 0 rfl rfl dX1_findServing_13 ?_
    refine gf_X1_146 hE hst 10 rfl rfl dX1_findServing_16 ?_
    refine lv_lconst (v := 0) hx hb dX1_findServing_19 (by decide) ?_
    refine W.lcmp hx hb dX1_findServing_20 ?_
    refine lv_if_eq (tgt := 34) hx hb dX1_findServing_21 (by decide) (fun c_21 => ?_) (fun c_21 => ?_)
    · skip
      have c_21 := lc_eq.mp c_21
      refine lv_iconst (v := 0) hx hb dX1_findServing_34 (by decide) ?_
      exact q_retZ hQ hE hr hk hst (s1_1, s2_2, s3_3, s4_4, srA cut nd ki bi nq, srB cut nd ki bi nq) (rfl) (by rw [svB, c_9, decide_eq_true c_21]; rfl) (trivial) (by rw [svB, c_9, decide_eq_true c_21]; rfl) dX1_findServing_35
    · skip
      have c_21 := (not_congr lc_eq).mp c_21
      refine lv_aload_n hx hb dX1_findServing_24 rfl (lv_at hl 0 rfl) ?_
      refine lv_aload_n hx hb dX1_findServing_25 rfl (lv_at hl 1 rfl) ?_
      refine lv_iload_n hx hb dX1_findServing_26 rfl (lv_at hl 2 rfl) ?_
      refine lv_aload_n hx hb dX1_findServing_27 rfl (lv_at hl 3 rfl) ?_
      refine q_goI (q_rV hE lk_X1_150 (c_X1_findDoes l D cI cJ cZ h j1 j2 mn lw sd sr cut least qk qb qp nq g gn gd gr gs se sh sp de po lo nd ki bi pa la r s1_1 s2_2 ra rb s3_3 s4_4 y0 (by first | assumption | decide | omega) (by first | assumption | decide | omega) H.size) hst [0, 1, 2, 3, 4, 5, 6, 7, 8, 9] rfl rfl rfl rfl rfl hl.1 ⟨(Nat.le_of_ble_eq_true rfl), (Nat.le_of_ble_eq_true rfl)⟩ (rest := []) rfl (Nat.le_of_ble_eq_true rfl) dX1_findServing_28 ⟨(Nat.le_of_ble_eq_true rfl), (Nat.le_of_ble_eq_true rfl)⟩) hE hst [0, 1, 2, 3, 4, 5, 6, 7, 8, 9] rfl (fun _ => rfl) (fun (u : Int64 × Int64 × Int32 × Int32) => [(h, .inr (1, [.ref j1, .ref j2, .ref mn, .ref lw, .int cut, .int least, .ref sd, .ref sr])), (mn, .inr (2, [.ref qk, .ref qb, .ref qp, .int (nI nq)])), (qk, .inl (cI, 60, .inl ki)), (qb, .inl (cI, 60, .inl bi)), (qp, .inl (cI, 60, .inl pa)), (lw, .inl (cI, 5, .inl la)), (g, .inr (0, [.int se, .int sh, .int sp, .int de, .int po, .ref gn, .ref gd, .ref gr, .ref gs, .int lo])), (gn, .inl (cI, 366, .inl nd)), (sd, .inr (4, [.long u.1, .long u.2.1, .int u.2.2.1, .int u.2.2.2])), (r, .inr (3, [.long (if dfB (calF cut nd bi) nq = true then becA (dfN (calF cut nd bi) (wgL cut nd ki bi pa la y0) nq) (dfD (calF cut nd bi) nq) else ra), .long (if dfB (calF cut nd bi) nq = true then becB (dfN (calF cut nd bi) (wgL cut nd ki bi pa la y0) nq) (dfD (calF cut nd bi) nq) else rb)])), (sr, .inr (3, [.long (srA cut nd ki bi nq), .long (srB cut nd ki bi nq)]))]) (fun _ => rfl) (fun u H locs hF hst => ?_)
      obtain ⟨s1_5, s2_6, s3_7, s4_8⟩ := u
      have hst : SS D A s [(h, .inr (1, [.ref j1, .ref j2, .ref mn, .ref lw, .int cut, .int least, .ref sd, .ref sr])), (mn, .inr (2, [.ref qk, .ref qb, .ref qp, .int (nI nq)])), (qk, .inl (cI, 60, .inl ki)), (qb, .inl (cI, 60, .inl bi)), (qp, .inl (cI, 60, .inl pa)), (lw, .inl (cI, 5, .inl la)), (g, .inr (0, [.int se, .int sh, .int sp, .int de, .int po, .ref gn, .ref gd, .ref gr, .ref gs, .int lo])), (gn, .inl (cI, 366, .inl nd)), (sd, .inr (4, [.long s1_5, .long s2_6, .int s3_7, .int s4_8])), (r, .inr (3, [.long (if dfB (calF cut nd bi) nq = true then becA (dfN (calF cut nd bi) (wgL cut nd ki bi pa la y0) nq) (dfD (calF cut nd bi) nq) else ra), .long (if dfB (calF cut nd bi) nq = true then becB (dfN (calF cut nd bi) (wgL cut nd ki bi pa la y0) nq) (dfD (calF cut nd bi) nq) else rb)])), (sr, .inr (3, [.long (srA cut nd ki bi nq), .long (srB cut nd ki bi nq)]))] H locs := hst
      refine W.eq (g2 := F0 m 31 ls [.int (b2i (dfB (calF cut nd bi) nq))]) rfl ?_
      refine lv_if_ne (tgt := 36) hx hb dX1_findServing_31 (by decide) (fun c_31 => ?_) (fun c_31 => ?_)
      · skip
        have c_31 := b2i_t c_31
        have eA : (if dfB (calF cut nd bi) nq = true then becA (dfN (calF cut nd bi) (wgL cut nd ki bi pa la y0) nq) (dfD (calF cut nd bi) nq) else ra) = dsA cut nd ki bi pa la y0 nq := if_pos c_9
        have eB : (if dfB (calF cut nd bi) nq = true then becB (dfN (calF cut nd bi) (wgL cut nd ki bi pa la y0) nq) (dfD (calF cut nd bi) nq) else rb) = dsB cut nd ki bi pa la y0 nq := if_pos c_9
        rw [eA, eB] at hst
        have hst : SS D A s [(h, .inr (1, [.ref j1, .ref j2, .ref mn, .ref lw, .int cut, .int least, .ref sd, .ref sr])), (mn, .inr (2, [.ref qk, .ref qb, .ref qp, .int (nI nq)])), (qk, .inl (cI, 60, .inl ki)), (qb, .inl (cI, 60, .inl bi)), (qp, .inl (cI, 60, .inl pa)), (lw, .inl (cI, 5, .inl la)), (g, .inr (0, [.int se, .int sh, .int sp, .int de, .int po, .ref gn, .ref gd, .ref gr, .ref gs, .int lo])), (gn, .inl (cI, 366, .inl nd)), (sd, .inr (4, [.long s1_5, .long s2_6, .int s3_7, .int s4_8])), (r, .inr (3, [.long (dsA cut nd ki bi pa la y0 nq), .long (dsB cut nd ki bi pa la y0 nq)])), (sr, .inr (3, [.long (srA cut nd ki bi nq), .long (srB cut nd ki bi nq)]))] H locs := hst
        refine lv_aload_n hx hb dX1_findServing_36 rfl (lv_at hl 3 rfl) ?_
        refine lv_aload_n hx hb dX1_findServing_37 rfl (lv_at hl 3 rfl) ?_
        refine gf_X1_146 hE hst 9 rfl rfl dX1_findServing_38 ?_
        refine lv_aload_n hx hb dX1_findServing_41 rfl (lv_at hl 0 rfl) ?_
        refine gf_X1_57 hE hst 0 rfl rfl dX1_findServing_42 ?_
        refine gf_X1_154 hE hst 10 rfl rfl dX1_findServing_45 ?_
        refine lv_lmul hx hb dX1_findServing_48 ?_
        refine lv_aload_n hx hb dX1_findServing_49 rfl (lv_at hl 3 rfl) ?_
        refine gf_X1_154 hE hst 9 rfl rfl dX1_findServing_50 ?_
        refine lv_aload_n hx hb dX1_findServing_53 rfl (lv_at hl 0 rfl) ?_
        refine gf_X1_57 hE hst 0 rfl rfl dX1_findServing_54 ?_
        refine gf_X1_146 hE hst 10 rfl rfl dX1_findServing_57 ?_
        refine lv_lmul hx hb dX1_findServing_60 ?_
        refine q_goV (q_rNV hE lk_X1_157 (c_X3_become l D cI cJ cZ r (dsA cut nd ki bi pa la y0 nq) (dsB cut nd ki bi pa la y0 nq) ((dsA cut nd ki bi pa la y0 nq) * (srB cut nd ki bi nq)) ((dsB cut nd ki bi pa la y0 nq) * (srA cut nd ki bi nq)) H.size) hst [9] rfl rfl rfl rfl rfl hl.1 ⟨(Nat.le_of_ble_eq_true rfl), (Nat.le_of_ble_eq_true rfl)⟩ (rest := []) rfl (Nat.le_of_ble_eq_true rfl) dX1_findServing_61 ⟨(Nat.le_of_ble_eq_true rfl), (Nat.le_of_ble_eq_true rfl)⟩) hE hst [9] rfl (fun _ => rfl) (fun (_ : Unit) => [(h, .inr (1, [.ref j1, .ref j2, .ref mn, .ref lw, .int cut, .int least, .ref sd, .ref sr])), (mn, .inr (2, [.ref qk, .ref qb, .ref qp, .int (nI nq)])), (qk, .inl (cI, 60, .inl ki)), (qb, .inl (cI, 60, .inl bi)), (qp, .inl (cI, 60, .inl pa)), (lw, .inl (cI, 5, .inl la)), (g, .inr (0, [.int se, .int sh, .int sp, .int de, .int po, .ref gn, .ref gd, .ref gr, .ref gs, .int lo])), (gn, .inl (cI, 366, .inl nd)), (sd, .inr (4, [.long s1_5, .long s2_6, .int s3_7, .int s4_8])), (r, .inr (3, [.long (becA ((dsA cut nd ki bi pa la y0 nq) * (srB cut nd ki bi nq)) ((dsB cut nd ki bi pa la y0 nq) * (srA cut nd ki bi nq))), .long (becB ((dsA cut nd ki bi pa la y0 nq) * (srB cut nd ki bi nq)) ((dsB cut nd ki bi pa la y0 nq) * (srA cut nd ki bi nq)))])), (sr, .inr (3, [.long (srA cut nd ki bi nq), .long (srB cut nd ki bi nq)]))]) (fun _ => rfl) (fun _ H locs hF hst => ?_)
        refine lv_iconst (v := 1) hx hb dX1_findServing_64 (by decide) ?_
        exact q_retZ hQ hE hr hk hst (s1_5, s2_6, s3_7, s4_8, srA cut nd ki bi nq, srB cut nd ki bi nq) (rfl) (by rw [svB, c_9, decide_eq_false c_21]; rfl) (trivial) (by rw [svB, c_9, decide_eq_false c_21]; rfl) dX1_findServing_65
      · skip
        have c_31 := b2i_f c_31
        exact absurd (c_9.symm.trans c_31) (by decide)
def trV (la : Nat → Int32) (y : Int32) : Int64 := (-losI la y - la 4).toInt64
set_option maxHeartbeats 4000000 in
set_option maxRecDepth 100000 in
theorem c_X1_findTruly (l : Launch) (D : va_G) (cI cJ cZ : ClassId) (h : Nat) (j1 : Nat) (j2 : Nat) (mn : Nat) (lw : Nat) (sd : Nat) (sr : Nat) (cut : Int32) (least : Int32) (qk : Nat) (qb : Nat) (qp : Nat) (nq : Nat) (g : Nat) (gn : Nat) (gd : Nat) (gr : Nat) (gs : Nat) (se : Int32) (sh : Int32) (sp : Int32) (de : Int32) (po : Int32) (lo : Int32) (nd : Nat → Int32) (ki : Nat → Int32) (bi : Nat → Int32) (la : Nat → Int32) (r : Nat) (ra : Int64) (rb : Int64) (y0 : Int32) (hn : nq ≤ 60) (hbi : ∀ j, j < nq → vp_in (bi j) 366) : CtI l D cI cJ cZ yX1_findTruly cX1_findTruly 5 (some .boolean) 3 [.ref h, .ref g, .int y0, .ref r] [(h, .inr (1, [.ref j1, .ref j2, .ref mn, .ref lw, .int cut, .int least, .ref sd, .ref sr])), (mn, .inr (2, [.ref qk, .ref qb, .ref qp, .int (nI nq)])), (qk, .inl (cI, 60, .inl ki)), (qb, .inl (cI, 60, .inl bi)), (lw, .inl (cI, 5, .inl la)), (g, .inr (0, [.int se, .int sh, .int sp, .int de, .int po, .ref gn, .ref gd, .ref gr, .ref gs, .int lo])), (gn, .inl (cI, 366, .inl nd)), (r, .inr (3, [.long ra, .long rb]))] (fun (_ : Unit) => b2i (exB (fun m => tkB (ki m) (evB (mnum nd bi m))) nq)) (fun (_ : Unit) => True) (fun (_ : Unit) => [(h, .inr (1, [.ref j1, .ref j2, .ref mn, .ref lw, .int cut, .int least, .ref sd, .ref sr])), (mn, .inr (2, [.ref qk, .ref qb, .ref qp, .int (nI nq)])), (qk, .inl (cI, 60, .inl ki)), (qb, .inl (cI, 60, .inl bi)), (lw, .inl (cI, 5, .inl la)), (g, .inr (0, [.int se, .int sh, .int sp, .int de, .int po, .ref gn, .ref gd, .ref gr, .ref gs, .int lo])), (gn, .inl (cI, 366, .inl nd)), (r, .inr (3, [.long (becA (trV la y0) 1), .long (becB (trV la y0) 1)]))]) := by
  refine q_entI (own := RX1) rfl rfl (Nat.le_of_ble_eq_true rfl) ?_
  intro p e s m args below meth c A ls QQ hQ hE hx hb hr hk hin hA hl hst
  have hl : lv_has ls 5 [(0, .ref h), (1, .ref g), (2, .int y0), (3, .ref r)] := hl
  have loop_24 : ∀ (fu : Nat) (kq : Nat), (kq ≤ nq) → (exB (fun m => tkB (ki m) (evB (mnum nd bi m))) kq = false) → (nq - kq) < fu → ∀ (H : Heap) (locs : List Loc) (ls : Array Slot), SS D A s [(h, .inr (1, [.ref j1, .ref j2, .ref mn, .ref lw, .int cut, .int least, .ref sd, .ref sr])), (mn, .inr (2, [.ref qk, .ref qb, .ref qp, .int (nI nq)])), (qk, .inl (cI, 60, .inl ki)), (qb, .inl (cI, 60, .inl bi)), (lw, .inl (cI, 5, .inl la)), (g, .inr (0, [.int se, .int sh, .int sp, .int de, .int po, .ref gn, .ref gd, .ref gr, .ref gs, .int lo])), (gn, .inl (cI, 366, .inl nd)), (r, .inr (3, [.long (becA (trV la y0) 1), .long (becB (trV la y0) 1)]))] H locs → lv_has ls 5 [(4, .int (nI kq)), (0, .ref h), (1, .ref g), (2, .int y0), (3, .ref r)] → W p l e (rmN 3 0 0) s m args below meth c H locs 0 0 QQ (F0 m 24 ls []) := by
    intro fu
    induction fu with
    | zero =>
      intro kq h1 h2 hn
      exact absurd hn (Nat.not_lt_zero _)
    | succ fu ih =>
      intro kq h1 h2 hn H locs ls hst hl
      refine lv_iload hx hb dX1_findTruly_24 (lv_at hl 0 rfl) ?_
      refine lv_aload_n hx hb dX1_findTruly_26 rfl (lv_at hl 1 rfl) ?_
      refine gf_X1_24 hE hst 0 rfl rfl dX1_findTruly_27 ?_
      refine gf_X1_98 hE hst 1 rfl rfl dX1_findTruly_30 ?_
      refine lv_icmp_ge (tgt := 67) hx hb dX1_findTruly_33 (by decide) (fun c_33 => ?_) (fun c_33 => ?_)
      · skip
        have hk1 : nq = kq := Nat.le_antisymm (Nat.le_of_not_lt (fun z => nI_ge z (by omega) c_33)) h1
        subst hk1
        skip
        refine lv_iconst (v := 0) hx hb dX1_findTruly_67 (by decide) ?_
        exact q_retZ hQ hE hr hk hst () (rfl) (by rw [h2]; rfl) (trivial) (rfl) dX1_findTruly_68
      · skip
        have hk1 : kq < nq := Nat.lt_of_not_le (fun z => c_33 (nI_le z (by omega)))
        refine lv_aload_n hx hb dX1_findTruly_36 rfl (lv_at hl 1 rfl) ?_
        refine lv_aload_n hx hb dX1_findTruly_37 rfl (lv_at hl 1 rfl) ?_
        refine gf_X1_24 hE hst 0 rfl rfl dX1_findTruly_38 ?_
        refine lv_iload hx hb dX1_findTruly_41 (lv_at hl 0 rfl) ?_
        refine q_goI (q_rNV hE lk_X1_88 (c_X2_kindAtN l D cI cJ cZ mn qk qb qp kq (nI nq) ki (by first | assumption | decide | omega) H.size) hst [1, 2] rfl rfl rfl rfl rfl hl.1 ⟨(Nat.le_of_ble_eq_true rfl), (Nat.le_of_ble_eq_true rfl)⟩ (rest := [.ref h]) rfl (Nat.le_of_ble_eq_true rfl) dX1_findTruly_43 ⟨(Nat.le_of_ble_eq_true rfl), (Nat.le_of_ble_eq_true rfl)⟩) hE hst [1, 2] rfl (fun _ => rfl) (fun (_ : Unit) => [(h, .inr (1, [.ref j1, .ref j2, .ref mn, .ref lw, .int cut, .int least, .ref sd, .ref sr])), (mn, .inr (2, [.ref qk, .ref qb, .ref qp, .int (nI nq)])), (qk, .inl (cI, 60, .inl ki)), (qb, .inl (cI, 60, .inl bi)), (lw, .inl (cI, 5, .inl la)), (g, .inr (0, [.int se, .int sh, .int sp, .int de, .int po, .ref gn, .ref gd, .ref gr, .ref gs, .int lo])), (gn, .inl (cI, 366, .inl nd)), (r, .inr (3, [.long (becA (trV la y0) 1), .long (becB (trV la y0) 1)]))]) (fun _ => rfl) (fun _ H locs hF hst => ?_)
        refine lv_aload_n hx hb dX1_findTruly_46 rfl (lv_at hl 1 rfl) ?_
        refine lv_aload_n hx hb dX1_findTruly_47 rfl (lv_at hl 2 rfl) ?_
        refine lv_iload hx hb dX1_findTruly_48 (lv_at hl 0 rfl) ?_
        refine q_goI (q_rV hE lk_X1_80 (c_X1_numberOfMan l D cI cJ cZ h j1 j2 mn lw sd sr cut least qk qb qp (nI nq) g gn gd gr gs se sh sp de po lo nd bi kq (by omega) (hbi kq hk1) H.size) hst [0, 1, 3, 5, 6] rfl rfl rfl rfl rfl hl.1 ⟨(Nat.le_of_ble_eq_true rfl), (Nat.le_of_ble_eq_true rfl)⟩ (rest := [.int (ki kq), .ref h]) rfl (Nat.le_of_ble_eq_true rfl) dX1_findTruly_50 ⟨(Nat.le_of_ble_eq_true rfl), (Nat.le_of_ble_eq_true rfl)⟩) hE hst [0, 1, 3, 5, 6] rfl (fun _ => rfl) (fun (_ : Unit) => [(h, .inr (1, [.ref j1, .ref j2, .ref mn, .ref lw, .int cut, .int least, .ref sd, .ref sr])), (mn, .inr (2, [.ref qk, .ref qb, .ref qp, .int (nI nq)])), (qk, .inl (cI, 60, .inl ki)), (qb, .inl (cI, 60, .inl bi)), (lw, .inl (cI, 5, .inl la)), (g, .inr (0, [.int se, .int sh, .int sp, .int de, .int po, .ref gn, .ref gd, .ref gr, .ref gs, .int lo])), (gn, .inl (cI, 366, .inl nd)), (r, .inr (3, [.long (becA (trV la y0) 1), .long (becB (trV la y0) 1)]))]) (fun _ => rfl) (fun _ H locs hF hst => ?_)
        refine q_goI (q_rV hE lk_X1_161 (c_X1_servesOnlyIfCalled l D cI cJ cZ h j1 j2 mn lw sd sr cut least (ki kq) (mnum nd bi kq) H.size) hst [0] rfl rfl rfl rfl rfl hl.1 ⟨(Nat.le_of_ble_eq_true rfl), (Nat.le_of_ble_eq_true rfl)⟩ (rest := []) rfl (Nat.le_of_ble_eq_true rfl) dX1_findTruly_53 ⟨(Nat.le_of_ble_eq_true rfl), (Nat.le_of_ble_eq_true rfl)⟩) hE hst [0] rfl (fun _ => rfl) (fun (_ : Unit) => [(h, .inr (1, [.ref j1, .ref j2, .ref mn, .ref lw, .int cut, .int least, .ref sd, .ref sr])), (mn, .inr (2, [.ref qk, .ref qb, .ref qp, .int (nI nq)])), (qk, .inl (cI, 60, .inl ki)), (qb, .inl (cI, 60, .inl bi)), (lw, .inl (cI, 5, .inl la)), (g, .inr (0, [.int se, .int sh, .int sp, .int de, .int po, .ref gn, .ref gd, .ref gr, .ref gs, .int lo])), (gn, .inl (cI, 366, .inl nd)), (r, .inr (3, [.long (becA (trV la y0) 1), .long (becB (trV la y0) 1)]))]) (fun _ => rfl) (fun _ H locs hF hst => ?_)
        refine lv_if_eq (tgt := 61) hx hb dX1_findTruly_56 (by decide) (fun c_56 => ?_) (fun c_56 => ?_)
        · skip
          have c_56 := b2i_f c_56
          refine lv_iinc (v := nI (kq + 1)) (lv' := [(4, .int (nI (kq + 1))), (0, .ref h), (1, .ref g), (2, .int y0), (3, .ref r)]) hx hb dX1_findTruly_61 hl (k := 0) rfl (nI_next _) (by decide) rfl (fun ls hl => ?_)
          refine lv_goto (tgt := 24) hx hb dX1_findTruly_64 (by decide) ?_
          exact ih (kq + 1) (by omega) (by rw [exB, h2, Bool.false_or]; exact c_56) (by omega) _ _ _ (hst) (lv_sub hl [0, 1, 2, 3, 4] rfl)
        · skip
          have c_56 := b2i_t c_56
          refine lv_iconst (v := 1) hx hb dX1_findTruly_59 (by decide) ?_
          exact q_retZ hQ hE hr hk hst () (rfl) (by rw [exB_t (g := fun m => tkB (ki m) (evB (mnum nd bi m))) c_56 nq hk1]; rfl) (trivial) (rfl) dX1_findTruly_60
  refine lv_aload_n hx hb dX1_findTruly_0 rfl (lv_at hl 3 rfl) ?_
  refine lv_aload_n hx hb dX1_findTruly_1 rfl (lv_at hl 0 rfl) ?_
  refine lv_iload_n hx hb dX1_findTruly_2 rfl (lv_at hl 2 rfl) ?_
  refine q_goI (q_rV hE lk_X1_114 (c_X1_lossLeft l D cI cJ cZ h j1 j2 mn lw sd sr cut least la y0 s.heap.size) hst [0, 4] rfl rfl rfl rfl rfl hl.1 ⟨(Nat.le_of_ble_eq_true rfl), (Nat.le_of_ble_eq_true rfl)⟩ (rest := [.ref r]) rfl (Nat.le_of_ble_eq_true rfl) dX1_findTruly_3 ⟨(Nat.le_of_ble_eq_true rfl), (Nat.le_of_ble_eq_true rfl)⟩) hE hst [0, 4] rfl (fun _ => rfl) (fun (_ : Unit) => [(h, .inr (1, [.ref j1, .ref j2, .ref mn, .ref lw, .int cut, .int least, .ref sd, .ref sr])), (mn, .inr (2, [.ref qk, .ref qb, .ref qp, .int (nI nq)])), (qk, .inl (cI, 60, .inl ki)), (qb, .inl (cI, 60, .inl bi)), (lw, .inl (cI, 5, .inl la)), (g, .inr (0, [.int se, .int sh, .int sp, .int de, .int po, .ref gn, .ref gd, .ref gr, .ref gs, .int lo])), (gn, .inl (cI, 366, .inl nd)), (r, .inr (3, [.long ra, .long rb]))]) (fun _ => rfl) (fun _ H locs hF hst => ?_)
  refine lv_ineg hx hb dX1_findTruly_6 ?_
  refine lv_aload_n hx hb dX1_findTruly_7 rfl (lv_at hl 0 rfl) ?_
  refine gf_X1_37 hE hst 0 rfl rfl dX1_findTruly_8 ?_
  refine lv_iconst (v := 4) hx hb dX1_findTruly_11 (by decide) ?_
  refine q_goI (q_rNS hE lk_X1_105 (c_X6_at l D cI cJ cZ lw 5 la 4 (by first | assumption | decide | omega) H.size) hst [4] rfl rfl rfl hl.1 ⟨(Nat.le_of_ble_eq_true rfl), (Nat.le_of_ble_eq_true rfl)⟩ (rest := [.int (-(losI la y0)), .ref r]) rfl (Nat.le_of_ble_eq_true rfl) dX1_findTruly_12 ⟨(Nat.le_of_ble_eq_true rfl), (Nat.le_of_ble_eq_true rfl)⟩) hE hst [4] rfl (fun _ => rfl) (fun (_ : Unit) => [(h, .inr (1, [.ref j1, .ref j2, .ref mn, .ref lw, .int cut, .int least, .ref sd, .ref sr])), (mn, .inr (2, [.ref qk, .ref qb, .ref qp, .int (nI nq)])), (qk, .inl (cI, 60, .inl ki)), (qb, .inl (cI, 60, .inl bi)), (lw, .inl (cI, 5, .inl la)), (g, .inr (0, [.int se, .int sh, .int sp, .int de, .int po, .ref gn, .ref gd, .ref gr, .ref gs, .int lo])), (gn, .inl (cI, 366, .inl nd)), (r, .inr (3, [.long ra, .long rb]))]) (fun _ => rfl) (fun _ H locs hF hst => ?_)
  refine q_top (x' := la 4) (atI_n (by decide) (by decide)) ?_
  refine lv_isub hx hb dX1_findTruly_15 ?_
  refine lv_i2l (v := ((-(losI la y0)) - (la 4)).toInt64) hx hb dX1_findTruly_16 rfl ?_
  refine lv_lconst (v := 1) hx hb dX1_findTruly_17 (by decide) ?_
  refine q_goV (q_rNV hE lk_X1_157 (c_X3_become l D cI cJ cZ r ra rb (((-(losI la y0)) - (la 4)).toInt64) 1 H.size) hst [7] rfl rfl rfl rfl rfl hl.1 ⟨(Nat.le_of_ble_eq_true rfl), (Nat.le_of_ble_eq_true rfl)⟩ (rest := []) rfl (Nat.le_of_ble_eq_true rfl) dX1_findTruly_18 ⟨(Nat.le_of_ble_eq_true rfl), (Nat.le_of_ble_eq_true rfl)⟩) hE hst [7] rfl (fun _ => rfl) (fun (_ : Unit) => [(h, .inr (1, [.ref j1, .ref j2, .ref mn, .ref lw, .int cut, .int least, .ref sd, .ref sr])), (mn, .inr (2, [.ref qk, .ref qb, .ref qp, .int (nI nq)])), (qk, .inl (cI, 60, .inl ki)), (qb, .inl (cI, 60, .inl bi)), (lw, .inl (cI, 5, .inl la)), (g, .inr (0, [.int se, .int sh, .int sp, .int de, .int po, .ref gn, .ref gd, .ref gr, .ref gs, .int lo])), (gn, .inl (cI, 366, .inl nd)), (r, .inr (3, [.long (becA (((-(losI la y0)) - (la 4)).toInt64) 1), .long (becB (((-(losI la y0)) - (la 4)).toInt64) 1)]))]) (fun _ => rfl) (fun _ H locs hF hst => ?_)
  refine lv_iconst (v := 0) hx hb dX1_findTruly_21 (by decide) ?_
  refine lv_istore (lv' := [(4, .int 0), (0, .ref h), (1, .ref g), (2, .int y0), (3, .ref r)]) hx hb dX1_findTruly_22 hl (by decide) rfl (fun ls hl => ?_)
  exact loop_24 (nq + 1) 0 (Nat.zero_le _) (rfl) (by omega) _ _ _ (hst) (lv_sub hl [0, 1, 2, 3, 4] rfl)
set_option maxHeartbeats 4000000 in
set_option maxRecDepth 100000 in
theorem c_X1_menOfMonth (l : Launch) (D : va_G) (cI cJ cZ : ClassId) (h : Nat) (j1 : Nat) (j2 : Nat) (mn : Nat) (lw : Nat) (sd : Nat) (sr : Nat) (cut : Int32) (least : Int32) (qk : Nat) (qb : Nat) (qp : Nat) (nq : Nat) (bi : Nat → Int32) (p0 : Int32) (hn : nq ≤ 60) : CtI l D cI cJ cZ yX1_menOfMonth cX1_menOfMonth 4 (some .int) 2 [.ref h, .int p0] [(h, .inr (1, [.ref j1, .ref j2, .ref mn, .ref lw, .int cut, .int least, .ref sd, .ref sr])), (mn, .inr (2, [.ref qk, .ref qb, .ref qp, .int (nI nq)])), (qb, .inl (cI, 60, .inl bi))] (fun (_ : Unit) => cntI (fun m => decide (monOf (bi m) = p0)) nq) (fun (_ : Unit) => True) (fun (_ : Unit) => [(h, .inr (1, [.ref j1, .ref j2, .ref mn, .ref lw, .int cut, .int least, .ref sd, .ref sr])), (mn, .inr (2, [.ref qk, .ref qb, .ref qp, .int (nI nq)])), (qb, .inl (cI, 60, .inl bi))]) := by
  refine q_entI (own := RX1) rfl rfl (Nat.le_of_ble_eq_true rfl) ?_
  intro p e s m args below meth c A ls QQ hQ hE hx hb hr hk hin hA hl hst
  have hl : lv_has ls 4 [(0, .ref h), (1, .int p0)] := hl
  have loop_4 : ∀ (fu : Nat) (kq : Nat), (kq ≤ nq) → (nq - kq) < fu → ∀ (H : Heap) (locs : List Loc) (ls : Array Slot), SS D A s [(h, .inr (1, [.ref j1, .ref j2, .ref mn, .ref lw, .int cut, .int least, .ref sd, .ref sr])), (mn, .inr (2, [.ref qk, .ref qb, .ref qp, .int (nI nq)])), (qb, .inl (cI, 60, .inl bi))] H locs → lv_has ls 4 [(3, .int (nI kq)), (2, .int (cntI (fun m => decide (monOf (bi m) = p0)) kq)), (0, .ref h), (1, .int p0)] → W p l e (rmN 2 0 0) s m args below meth c H locs 0 0 QQ (F0 m 4 ls []) := by
    intro fu
    induction fu with
    | zero =>
      intro kq h1 hn
      exact absurd hn (Nat.not_lt_zero _)
    | succ fu ih =>
      intro kq h1 hn H locs ls hst hl
      refine lv_iload_n hx hb dX1_menOfMonth_4 rfl (lv_at hl 0 rfl) ?_
      refine lv_aload_n hx hb dX1_menOfMonth_5 rfl (lv_at hl 2 rfl) ?_
      refine gf_X1_24 hE hst 0 rfl rfl dX1_menOfMonth_6 ?_
      refine gf_X1_98 hE hst 1 rfl rfl dX1_menOfMonth_9 ?_
      refine lv_icmp_ge (tgt := 39) hx hb dX1_menOfMonth_12 (by decide) (fun c_12 => ?_) (fun c_12 => ?_)
      · skip
        have hk1 : nq = kq := Nat.le_antisymm (Nat.le_of_not_lt (fun z => nI_ge z (by omega) c_12)) h1
        subst hk1
        skip
        refine lv_iload_n hx hb dX1_menOfMonth_39 rfl (lv_at hl 1 rfl) ?_
        exact q_retI hQ hE hr hk hst () (rfl) (trivial) (rfl) dX1_menOfMonth_40
      · skip
        have hk1 : kq < nq := Nat.lt_of_not_le (fun z => c_12 (nI_le z (by omega)))
        refine lv_aload_n hx hb dX1_menOfMonth_15 rfl (lv_at hl 2 rfl) ?_
        refine gf_X1_24 hE hst 0 rfl rfl dX1_menOfMonth_16 ?_
        refine lv_iload_n hx hb dX1_menOfMonth_19 rfl (lv_at hl 0 rfl) ?_
        refine q_goI (q_rNV hE lk_X1_73 (c_X2_birthdayAtN l D cI cJ cZ mn qk qb qp kq (nI nq) bi (by first | assumption | decide | omega) H.size) hst [1, 2] rfl rfl rfl rfl rfl hl.1 ⟨(Nat.le_of_ble_eq_true rfl), (Nat.le_of_ble_eq_true rfl)⟩ (rest := []) rfl (Nat.le_of_ble_eq_true rfl) dX1_menOfMonth_20 ⟨(Nat.le_of_ble_eq_true rfl), (Nat.le_of_ble_eq_true rfl)⟩) hE hst [1, 2] rfl (fun _ => rfl) (fun (_ : Unit) => [(h, .inr (1, [.ref j1, .ref j2, .ref mn, .ref lw, .int cut, .int least, .ref sd, .ref sr])), (mn, .inr (2, [.ref qk, .ref qb, .ref qp, .int (nI nq)])), (qb, .inl (cI, 60, .inl bi))]) (fun _ => rfl) (fun _ H locs hF hst => ?_)
        refine q_goI (q_rNS hE lk_X1_164 (c_X6_monthOf l D cI cJ cZ (bi kq) H.size) hst [] rfl rfl rfl hl.1 ⟨(Nat.le_of_ble_eq_true rfl), (Nat.le_of_ble_eq_true rfl)⟩ (rest := []) rfl (Nat.le_of_ble_eq_true rfl) dX1_menOfMonth_23 ⟨(Nat.le_of_ble_eq_true rfl), (Nat.le_of_ble_eq_true rfl)⟩) hE hst [] rfl (fun _ => rfl) (fun (_ : Unit) => [(h, .inr (1, [.ref j1, .ref j2, .ref mn, .ref lw, .int cut, .int least, .ref sd, .ref sr])), (mn, .inr (2, [.ref qk, .ref qb, .ref qp, .int (nI nq)])), (qb, .inl (cI, 60, .inl bi))]) (fun _ => rfl) (fun _ H locs hF hst => ?_)
        refine lv_iload_n hx hb dX1_menOfMonth_26 rfl (lv_at hl 3 rfl) ?_
        refine lv_icmp_ne (tgt := 33) hx hb dX1_menOfMonth_27 (by decide) (fun c_27 => ?_) (fun c_27 => ?_)
        · skip
          have hl : lv_has ls 4 [(3, .int (nI kq)), (2, .int (cntI (fun m => decide (monOf (bi m) = p0)) (kq + 1))), (0, .ref h), (1, .int p0)] := by rw [cnt_f (f := fun m => decide (monOf (bi m) = p0)) (decide_eq_false c_27)]; exact hl
          refine lv_iinc (v := nI (kq + 1)) (lv' := [(3, .int (nI (kq + 1))), (2, .int (cntI (fun m => decide (monOf (bi m) = p0)) (kq + 1))), (0, .ref h), (1, .int p0)]) hx hb dX1_menOfMonth_33 hl (k := 0) rfl (nI_next _) (by decide) rfl (fun ls hl => ?_)
          refine lv_goto (tgt := 4) hx hb dX1_menOfMonth_36 (by decide) ?_
          exact ih (kq + 1) (by omega) (by omega) _ _ _ (hst) (lv_sub hl [0, 1, 2, 3] rfl)
        · skip
          refine lv_iinc (v := (cntI (fun m => decide (monOf (bi m) = p0)) kq) + 1) (lv' := [(2, .int ((cntI (fun m => decide (monOf (bi m) = p0)) kq) + 1)), (3, .int (nI kq)), (0, .ref h), (1, .int p0)]) hx hb dX1_menOfMonth_30 hl (k := 1) rfl (rfl) (by decide) rfl (fun ls hl => ?_)
          have hl : lv_has ls 4 [(2, .int (cntI (fun m => decide (monOf (bi m) = p0)) (kq + 1))), (3, .int (nI kq)), (0, .ref h), (1, .int p0)] := by rw [cnt_t (f := fun m => decide (monOf (bi m) = p0)) (decide_eq_true c_27)]; exact hl
          refine lv_iinc (v := nI (kq + 1)) (lv' := [(3, .int (nI (kq + 1))), (2, .int (cntI (fun m => decide (monOf (bi m) = p0)) (kq + 1))), (0, .ref h), (1, .int p0)]) hx hb dX1_menOfMonth_33 hl (k := 1) rfl (nI_next _) (by decide) rfl (fun ls hl => ?_)
          refine lv_goto (tgt := 4) hx hb dX1_menOfMonth_36 (by decide) ?_
          exact ih (kq + 1) (by omega) (by omega) _ _ _ (hst) (lv_sub hl [0, 1, 2, 3] rfl)
  refine lv_iconst (v := 0) hx hb dX1_menOfMonth_0 (by decide) ?_
  refine lv_istore_n (lv' := [(2, .int 0), (0, .ref h), (1, .int p0)]) hx hb dX1_menOfMonth_1 rfl hl (by decide) rfl (fun ls hl => ?_)
  refine lv_iconst (v := 0) hx hb dX1_menOfMonth_2 (by decide) ?_
  refine lv_istore_n (lv' := [(3, .int 0), (2, .int 0), (0, .ref h), (1, .int p0)]) hx hb dX1_menOfMonth_3 rfl hl (by decide) rfl (fun ls hl => ?_)
  exact loop_4 (nq + 1) 0 (Nat.zero_le _) (by omega) _ _ _ (hst) (lv_sub hl [0, 1, 2, 3] rfl)
set_option maxHeartbeats 4000000 in
set_option maxRecDepth 100000 in
theorem c_X1_isShown (l : Launch) (D : va_G) (cI cJ cZ : ClassId) (h : Nat) (j1 : Nat) (j2 : Nat) (mn : Nat) (lw : Nat) (sd : Nat) (sr : Nat) (cut : Int32) (least : Int32) (qk : Nat) (qb : Nat) (qp : Nat) (nq : Nat) (bi : Nat → Int32) (p0 : Int32) (hn : nq ≤ 60) : CtI l D cI cJ cZ yX1_isShown cX1_isShown 2 (some .boolean) 3 [.ref h, .int p0] [(h, .inr (1, [.ref j1, .ref j2, .ref mn, .ref lw, .int cut, .int least, .ref sd, .ref sr])), (mn, .inr (2, [.ref qk, .ref qb, .ref qp, .int (nI nq)])), (qb, .inl (cI, 60, .inl bi))] (fun (_ : Unit) => b2i (decide (least ≤ cntI (fun m => decide (monOf (bi m) = p0)) nq))) (fun (_ : Unit) => True) (fun (_ : Unit) => [(h, .inr (1, [.ref j1, .ref j2, .ref mn, .ref lw, .int cut, .int least, .ref sd, .ref sr])), (mn, .inr (2, [.ref qk, .ref qb, .ref qp, .int (nI nq)])), (qb, .inl (cI, 60, .inl bi))]) := by
  refine q_entI (own := RX1) rfl rfl (Nat.le_of_ble_eq_true rfl) ?_
  intro p e s m args below meth c A ls QQ hQ hE hx hb hr hk hin hA hl hst
  have hl : lv_has ls 2 [(0, .ref h), (1, .int p0)] := hl
  refine lv_aload_n hx hb dX1_isShown_0 rfl (lv_at hl 0 rfl) ?_
  refine lv_iload_n hx hb dX1_isShown_1 rfl (lv_at hl 1 rfl) ?_
  refine q_goI (q_rV hE lk_X1_167 (c_X1_menOfMonth l D cI cJ cZ h j1 j2 mn lw sd sr cut least qk qb qp nq bi p0 (by first | assumption | decide | omega) s.heap.size) hst [0, 1, 2] rfl rfl rfl rfl rfl hl.1 ⟨(Nat.le_of_ble_eq_true rfl), (Nat.le_of_ble_eq_true rfl)⟩ (rest := []) rfl (Nat.le_of_ble_eq_true rfl) dX1_isShown_2 ⟨(Nat.le_of_ble_eq_true rfl), (Nat.le_of_ble_eq_true rfl)⟩) hE hst [0, 1, 2] rfl (fun _ => rfl) (fun (_ : Unit) => [(h, .inr (1, [.ref j1, .ref j2, .ref mn, .ref lw, .int cut, .int least, .ref sd, .ref sr])), (mn, .inr (2, [.ref qk, .ref qb, .ref qp, .int (nI nq)])), (qb, .inl (cI, 60, .inl bi))]) (fun _ => rfl) (fun _ H locs hF hst => ?_)
  refine lv_aload_n hx hb dX1_isShown_5 rfl (lv_at hl 0 rfl) ?_
  refine gf_X1_44 hE hst 0 rfl rfl dX1_isShown_6 ?_
  refine lv_icmp_lt (tgt := 16) hx hb dX1_isShown_9 (by decide) (fun c_9 => ?_) (fun c_9 => ?_)
  · skip
    refine lv_iconst (v := 0) hx hb dX1_isShown_16 (by decide) ?_
    exact q_retZ hQ hE hr hk hst () (rfl) (by rw [decide_eq_false (Int32.not_le.mpr c_9)]; rfl) (trivial) (rfl) dX1_isShown_17
  · skip
    refine lv_iconst (v := 1) hx hb dX1_isShown_12 (by decide) ?_
    refine lv_goto (tgt := 17) hx hb dX1_isShown_13 (by decide) ?_
    exact q_retZ hQ hE hr hk hst () (rfl) (by rw [decide_eq_true (Int32.not_lt.mp c_9)]; rfl) (trivial) (rfl) dX1_isShown_17
def gsL (f : Nat → Bool) (w : Nat → Int64) : Nat → Int64
  | 0 => 0
  | k + 1 => if f k = true then gsL f w k + w k else gsL f w k
theorem gs_t {f : Nat → Bool} {w : Nat → Int64} {k : Nat} (h : f k = true) : gsL f w (k + 1) = gsL f w k + w k := if_pos h
theorem gs_f {f : Nat → Bool} {w : Nat → Int64} {k : Nat} (h : f k = false) : gsL f w (k + 1) = gsL f w k := if_neg (by rw [h]; decide)
set_option maxHeartbeats 4000000 in
set_option maxRecDepth 100000 in
theorem c_X1_findGroup (l : Launch) (D : va_G) (cI cJ cZ : ClassId) (h : Nat) (j1 : Nat) (j2 : Nat) (mn : Nat) (lw : Nat) (sd : Nat) (sr : Nat) (cut : Int32) (least : Int32) (qk : Nat) (qb : Nat) (qp : Nat) (nq : Nat) (g : Nat) (gn : Nat) (gd : Nat) (gr : Nat) (gs : Nat) (se : Int32) (sh : Int32) (sp : Int32) (de : Int32) (po : Int32) (lo : Int32) (nd : Nat → Int32) (ki : Nat → Int32) (bi : Nat → Int32) (pa : Nat → Int32) (la : Nat → Int32) (r : Nat) (ra : Int64) (rb : Int64) (p0 : Int32) (y0 : Int32) (hn : nq ≤ 60) (hbi : ∀ j, j < nq → vp_in (bi j) 366) : CtV l D cI cJ cZ yX1_findGroup cX1_findGroup 8 none 4 0 0 [.ref h, .ref g, .int p0, .int y0, .ref r] [(h, .inr (1, [.ref j1, .ref j2, .ref mn, .ref lw, .int cut, .int least, .ref sd, .ref sr])), (mn, .inr (2, [.ref qk, .ref qb, .ref qp, .int (nI nq)])), (qk, .inl (cI, 60, .inl ki)), (qb, .inl (cI, 60, .inl bi)), (qp, .inl (cI, 60, .inl pa)), (lw, .inl (cI, 5, .inl la)), (g, .inr (0, [.int se, .int sh, .int sp, .int de, .int po, .ref gn, .ref gd, .ref gr, .ref gs, .int lo])), (gn, .inl (cI, 366, .inl nd)), (r, .inr (3, [.long ra, .long rb]))] (fun (_ : Unit) => True) (fun (_ : Unit) => [(h, .inr (1, [.ref j1, .ref j2, .ref mn, .ref lw, .int cut, .int least, .ref sd, .ref sr])), (mn, .inr (2, [.ref qk, .ref qb, .ref qp, .int (nI nq)])), (qk, .inl (cI, 60, .inl ki)), (qb, .inl (cI, 60, .inl bi)), (qp, .inl (cI, 60, .inl pa)), (lw, .inl (cI, 5, .inl la)), (g, .inr (0, [.int se, .int sh, .int sp, .int de, .int po, .ref gn, .ref gd, .ref gr, .ref gs, .int lo])), (gn, .inl (cI, 366, .inl nd)), (r, .inr (3, [.long (becA (gsL (fun m => decide (monOf (bi m) = p0)) (wgL cut nd ki bi pa la y0) nq) (cntI (fun m => decide (monOf (bi m) = p0)) nq).toInt64), .long (becB (gsL (fun m => decide (monOf (bi m) = p0)) (wgL cut nd ki bi pa la y0) nq) (cntI (fun m => decide (monOf (bi m) = p0)) nq).toInt64)]))]) := by
  refine q_entV (own := RX1) rfl rfl (Nat.le_of_ble_eq_true rfl) ?_
  intro p e s m args below meth c A ls QQ hQ hE hx hb hr hk hin hA hl hst
  have hl : lv_has ls 8 [(0, .ref h), (1, .ref g), (2, .int p0), (3, .int y0), (4, .ref r)] := hl
  have loop_6 : ∀ (fu : Nat) (kq : Nat), (kq ≤ nq) → (nq - kq) < fu → ∀ (H : Heap) (locs : List Loc) (ls : Array Slot), SS D A s [(h, .inr (1, [.ref j1, .ref j2, .ref mn, .ref lw, .int cut, .int least, .ref sd, .ref sr])), (mn, .inr (2, [.ref qk, .ref qb, .ref qp, .int (nI nq)])), (qk, .inl (cI, 60, .inl ki)), (qb, .inl (cI, 60, .inl bi)), (qp, .inl (cI, 60, .inl pa)), (lw, .inl (cI, 5, .inl la)), (g, .inr (0, [.int se, .int sh, .int sp, .int de, .int po, .ref gn, .ref gd, .ref gr, .ref gs, .int lo])), (gn, .inl (cI, 366, .inl nd)), (r, .inr (3, [.long ra, .long rb]))] H locs → lv_has ls 8 [(7, .int (nI kq)), (5, .long (gsL (fun m => decide (monOf (bi m) = p0)) (wgL cut nd ki bi pa la y0) kq)), (0, .ref h), (1, .ref g), (2, .int p0), (3, .int y0), (4, .ref r)] → W p l e (rmN 4 0 0) s m args below meth c H locs 0 0 QQ (F0 m 6 ls []) := by
    intro fu
    induction fu with
    | zero =>
      intro kq h1 hn
      exact absurd hn (Nat.not_lt_zero _)
    | succ fu ih =>
      intro kq h1 hn H locs ls hst hl
      refine lv_iload hx hb dX1_findGroup_6 (lv_at hl 0 rfl) ?_
      refine lv_aload_n hx hb dX1_findGroup_8 rfl (lv_at hl 2 rfl) ?_
      refine gf_X1_24 hE hst 0 rfl rfl dX1_findGroup_9 ?_
      refine gf_X1_98 hE hst 1 rfl rfl dX1_findGroup_12 ?_
      refine lv_icmp_ge (tgt := 54) hx hb dX1_findGroup_15 (by decide) (fun c_15 => ?_) (fun c_15 => ?_)
      · skip
        have hk1 : nq = kq := Nat.le_antisymm (Nat.le_of_not_lt (fun z => nI_ge z (by omega) c_15)) h1
        subst hk1
        skip
        refine lv_aload hx hb dX1_findGroup_54 (lv_at hl 6 rfl) ?_
        refine lv_lload hx hb dX1_findGroup_56 (lv_at hl 1 rfl) ?_
        refine lv_aload_n hx hb dX1_findGroup_58 rfl (lv_at hl 2 rfl) ?_
        refine lv_iload_n hx hb dX1_findGroup_59 rfl (lv_at hl 4 rfl) ?_
        refine q_goI (q_rV hE lk_X1_167 (c_X1_menOfMonth l D cI cJ cZ h j1 j2 mn lw sd sr cut least qk qb qp nq bi p0 (by first | assumption | decide | omega) H.size) hst [0, 1, 3] rfl rfl rfl rfl rfl hl.1 ⟨(Nat.le_of_ble_eq_true rfl), (Nat.le_of_ble_eq_true rfl)⟩ (rest := [.long (gsL (fun m => decide (monOf (bi m) = p0)) (wgL cut nd ki bi pa la y0) nq), .ref r]) rfl (Nat.le_of_ble_eq_true rfl) dX1_findGroup_60 ⟨(Nat.le_of_ble_eq_true rfl), (Nat.le_of_ble_eq_true rfl)⟩) hE hst [0, 1, 3] rfl (fun _ => rfl) (fun (_ : Unit) => [(h, .inr (1, [.ref j1, .ref j2, .ref mn, .ref lw, .int cut, .int least, .ref sd, .ref sr])), (mn, .inr (2, [.ref qk, .ref qb, .ref qp, .int (nI nq)])), (qk, .inl (cI, 60, .inl ki)), (qb, .inl (cI, 60, .inl bi)), (qp, .inl (cI, 60, .inl pa)), (lw, .inl (cI, 5, .inl la)), (g, .inr (0, [.int se, .int sh, .int sp, .int de, .int po, .ref gn, .ref gd, .ref gr, .ref gs, .int lo])), (gn, .inl (cI, 366, .inl nd)), (r, .inr (3, [.long ra, .long rb]))]) (fun _ => rfl) (fun _ H locs hF hst => ?_)
        refine lv_i2l (v := (cntI (fun m => decide (monOf (bi m) = p0)) nq).toInt64) hx hb dX1_findGroup_63 rfl ?_
        refine q_goV (q_rNV hE lk_X1_157 (c_X3_become l D cI cJ cZ r ra rb (gsL (fun m => decide (monOf (bi m) = p0)) (wgL cut nd ki bi pa la y0) nq) ((cntI (fun m => decide (monOf (bi m) = p0)) nq).toInt64) H.size) hst [8] rfl rfl rfl rfl rfl hl.1 ⟨(Nat.le_of_ble_eq_true rfl), (Nat.le_of_ble_eq_true rfl)⟩ (rest := []) rfl (Nat.le_of_ble_eq_true rfl) dX1_findGroup_64 ⟨(Nat.le_of_ble_eq_true rfl), (Nat.le_of_ble_eq_true rfl)⟩) hE hst [8] rfl (fun _ => rfl) (fun (_ : Unit) => [(h, .inr (1, [.ref j1, .ref j2, .ref mn, .ref lw, .int cut, .int least, .ref sd, .ref sr])), (mn, .inr (2, [.ref qk, .ref qb, .ref qp, .int (nI nq)])), (qk, .inl (cI, 60, .inl ki)), (qb, .inl (cI, 60, .inl bi)), (qp, .inl (cI, 60, .inl pa)), (lw, .inl (cI, 5, .inl la)), (g, .inr (0, [.int se, .int sh, .int sp, .int de, .int po, .ref gn, .ref gd, .ref gr, .ref gs, .int lo])), (gn, .inl (cI, 366, .inl nd)), (r, .inr (3, [.long (becA (gsL (fun m => decide (monOf (bi m) = p0)) (wgL cut nd ki bi pa la y0) nq) ((cntI (fun m => decide (monOf (bi m) = p0)) nq).toInt64)), .long (becB (gsL (fun m => decide (monOf (bi m) = p0)) (wgL cut nd ki bi pa la y0) nq) ((cntI (fun m => decide (monOf (bi m) = p0)) nq).toInt64))]))]) (fun _ => rfl) (fun _ H locs hF hst => ?_)
        exact q_retV hQ hE hr hk hst () (trivial) (rfl) dX1_findGroup_67
      · skip
        have hk1 : kq < nq := Nat.lt_of_not_le (fun z => c_15 (nI_le z (by omega)))
        refine lv_aload_n hx hb dX1_findGroup_18 rfl (lv_at hl 2 rfl) ?_
        refine gf_X1_24 hE hst 0 rfl rfl dX1_findGroup_19 ?_
        refine lv_iload hx hb dX1_findGroup_22 (lv_at hl 0 rfl) ?_
        refine q_goI (q_rNV hE lk_X1_73 (c_X2_birthdayAtN l D cI cJ cZ mn qk qb qp kq (nI nq) bi (by first | assumption | decide | omega) H.size) hst [1, 3] rfl rfl rfl rfl rfl hl.1 ⟨(Nat.le_of_ble_eq_true rfl), (Nat.le_of_ble_eq_true rfl)⟩ (rest := []) rfl (Nat.le_of_ble_eq_true rfl) dX1_findGroup_24 ⟨(Nat.le_of_ble_eq_true rfl), (Nat.le_of_ble_eq_true rfl)⟩) hE hst [1, 3] rfl (fun _ => rfl) (fun (_ : Unit) => [(h, .inr (1, [.ref j1, .ref j2, .ref mn, .ref lw, .int cut, .int least, .ref sd, .ref sr])), (mn, .inr (2, [.ref qk, .ref qb, .ref qp, .int (nI nq)])), (qk, .inl (cI, 60, .inl ki)), (qb, .inl (cI, 60, .inl bi)), (qp, .inl (cI, 60, .inl pa)), (lw, .inl (cI, 5, .inl la)), (g, .inr (0, [.int se, .int sh, .int sp, .int de, .int po, .ref gn, .ref gd, .ref gr, .ref gs, .int lo])), (gn, .inl (cI, 366, .inl nd)), (r, .inr (3, [.long ra, .long rb]))]) (fun _ => rfl) (fun _ H locs hF hst => ?_)
        refine q_goI (q_rNS hE lk_X1_164 (c_X6_monthOf l D cI cJ cZ (bi kq) H.size) hst [] rfl rfl rfl hl.1 ⟨(Nat.le_of_ble_eq_true rfl), (Nat.le_of_ble_eq_true rfl)⟩ (rest := []) rfl (Nat.le_of_ble_eq_true rfl) dX1_findGroup_27 ⟨(Nat.le_of_ble_eq_true rfl), (Nat.le_of_ble_eq_true rfl)⟩) hE hst [] rfl (fun _ => rfl) (fun (_ : Unit) => [(h, .inr (1, [.ref j1, .ref j2, .ref mn, .ref lw, .int cut, .int least, .ref sd, .ref sr])), (mn, .inr (2, [.ref qk, .ref qb, .ref qp, .int (nI nq)])), (qk, .inl (cI, 60, .inl ki)), (qb, .inl (cI, 60, .inl bi)), (qp, .inl (cI, 60, .inl pa)), (lw, .inl (cI, 5, .inl la)), (g, .inr (0, [.int se, .int sh, .int sp, .int de, .int po, .ref gn, .ref gd, .ref gr, .ref gs, .int lo])), (gn, .inl (cI, 366, .inl nd)), (r, .inr (3, [.long ra, .long rb]))]) (fun _ => rfl) (fun _ H locs hF hst => ?_)
        refine lv_iload_n hx hb dX1_findGroup_30 rfl (lv_at hl 4 rfl) ?_
        refine lv_icmp_ne (tgt := 48) hx hb dX1_findGroup_31 (by decide) (fun c_31 => ?_) (fun c_31 => ?_)
        · skip
          have hl : lv_has ls 8 [(7, .int (nI kq)), (5, .long (gsL (fun m => decide (monOf (bi m) = p0)) (wgL cut nd ki bi pa la y0) (kq + 1))), (0, .ref h), (1, .ref g), (2, .int p0), (3, .int y0), (4, .ref r)] := by rw [gs_f (f := fun m => decide (monOf (bi m) = p0)) (w := wgL cut nd ki bi pa la y0) (decide_eq_false c_31)]; exact hl
          refine lv_iinc (v := nI (kq + 1)) (lv' := [(7, .int (nI (kq + 1))), (5, .long (gsL (fun m => decide (monOf (bi m) = p0)) (wgL cut nd ki bi pa la y0) (kq + 1))), (0, .ref h), (1, .ref g), (2, .int p0), (3, .int y0), (4, .ref r)]) hx hb dX1_findGroup_48 hl (k := 0) rfl (nI_next _) (by decide) rfl (fun ls hl => ?_)
          refine lv_goto (tgt := 6) hx hb dX1_findGroup_51 (by decide) ?_
          exact ih (kq + 1) (by omega) (by omega) _ _ _ (hst) (lv_sub hl [0, 1, 2, 3, 4, 5, 6] rfl)
        · skip
          refine lv_lload hx hb dX1_findGroup_34 (lv_at hl 1 rfl) ?_
          refine lv_aload_n hx hb dX1_findGroup_36 rfl (lv_at hl 2 rfl) ?_
          refine lv_aload_n hx hb dX1_findGroup_37 rfl (lv_at hl 3 rfl) ?_
          refine lv_iload hx hb dX1_findGroup_38 (lv_at hl 0 rfl) ?_
          refine lv_iload_n hx hb dX1_findGroup_40 rfl (lv_at hl 5 rfl) ?_
          refine q_goI (q_rV hE lk_X1_130 (c_X1_wageOf l D cI cJ cZ h j1 j2 mn lw sd sr cut least qk qb qp (nI nq) g gn gd gr gs se sh sp de po lo nd ki bi pa la kq y0 (by omega) (hbi kq hk1) H.size) hst [0, 1, 2, 3, 4, 5, 6, 7] rfl rfl rfl rfl rfl hl.1 ⟨(Nat.le_of_ble_eq_true rfl), (Nat.le_of_ble_eq_true rfl)⟩ (rest := [.long (gsL (fun m => decide (monOf (bi m) = p0)) (wgL cut nd ki bi pa la y0) kq)]) rfl (Nat.le_of_ble_eq_true rfl) dX1_findGroup_41 ⟨(Nat.le_of_ble_eq_true rfl), (Nat.le_of_ble_eq_true rfl)⟩) hE hst [0, 1, 2, 3, 4, 5, 6, 7] rfl (fun _ => rfl) (fun (_ : Unit) => [(h, .inr (1, [.ref j1, .ref j2, .ref mn, .ref lw, .int cut, .int least, .ref sd, .ref sr])), (mn, .inr (2, [.ref qk, .ref qb, .ref qp, .int (nI nq)])), (qk, .inl (cI, 60, .inl ki)), (qb, .inl (cI, 60, .inl bi)), (qp, .inl (cI, 60, .inl pa)), (lw, .inl (cI, 5, .inl la)), (g, .inr (0, [.int se, .int sh, .int sp, .int de, .int po, .ref gn, .ref gd, .ref gr, .ref gs, .int lo])), (gn, .inl (cI, 366, .inl nd)), (r, .inr (3, [.long ra, .long rb]))]) (fun _ => rfl) (fun _ H locs hF hst => ?_)
          refine lv_i2l (v := (wagF cut nd ki bi pa la y0 kq).toInt64) hx hb dX1_findGroup_44 rfl ?_
          refine lv_ladd hx hb dX1_findGroup_45 ?_
          refine lv_lstore (lv' := [(5, .long ((gsL (fun m => decide (monOf (bi m) = p0)) (wgL cut nd ki bi pa la y0) kq) + ((wagF cut nd ki bi pa la y0 kq).toInt64))), (7, .int (nI kq)), (0, .ref h), (1, .ref g), (2, .int p0), (3, .int y0), (4, .ref r)]) hx hb dX1_findGroup_46 hl (by decide) rfl (fun ls hl => ?_)
          have hl : lv_has ls 8 [(5, .long (gsL (fun m => decide (monOf (bi m) = p0)) (wgL cut nd ki bi pa la y0) (kq + 1))), (7, .int (nI kq)), (0, .ref h), (1, .ref g), (2, .int p0), (3, .int y0), (4, .ref r)] := by rw [gs_t (f := fun m => decide (monOf (bi m) = p0)) (w := wgL cut nd ki bi pa la y0) (decide_eq_true c_31)]; exact hl
          refine lv_iinc (v := nI (kq + 1)) (lv' := [(7, .int (nI (kq + 1))), (5, .long (gsL (fun m => decide (monOf (bi m) = p0)) (wgL cut nd ki bi pa la y0) (kq + 1))), (0, .ref h), (1, .ref g), (2, .int p0), (3, .int y0), (4, .ref r)]) hx hb dX1_findGroup_48 hl (k := 1) rfl (nI_next _) (by decide) rfl (fun ls hl => ?_)
          refine lv_goto (tgt := 6) hx hb dX1_findGroup_51 (by decide) ?_
          exact ih (kq + 1) (by omega) (by omega) _ _ _ (hst) (lv_sub hl [0, 1, 2, 3, 4, 5, 6] rfl)
  refine lv_lconst (v := 0) hx hb dX1_findGroup_0 (by decide) ?_
  refine lv_lstore (lv' := [(5, .long 0), (0, .ref h), (1, .ref g), (2, .int p0), (3, .int y0), (4, .ref r)]) hx hb dX1_findGroup_1 hl (by decide) rfl (fun ls hl => ?_)
  refine lv_iconst (v := 0) hx hb dX1_findGroup_3 (by decide) ?_
  refine lv_istore (lv' := [(7, .int 0), (5, .long 0), (0, .ref h), (1, .ref g), (2, .int p0), (3, .int y0), (4, .ref r)]) hx hb dX1_findGroup_4 hl (by decide) rfl (fun ls hl => ?_)
  exact loop_6 (nq + 1) 0 (Nat.zero_le _) (by omega) _ _ _ (hst) (lv_sub hl [0, 1, 2, 3, 4, 5, 6] rfl)
set_option maxHeartbeats 4000000 in
set_option maxRecDepth 100000 in
theorem c_X1_menWithNumberUpTo (l : Launch) (D : va_G) (cI cJ cZ : ClassId) (h : Nat) (j1 : Nat) (j2 : Nat) (mn : Nat) (lw : Nat) (sd : Nat) (sr : Nat) (cut : Int32) (least : Int32) (qk : Nat) (qb : Nat) (qp : Nat) (nq : Nat) (g : Nat) (gn : Nat) (gd : Nat) (gr : Nat) (gs : Nat) (se : Int32) (sh : Int32) (sp : Int32) (de : Int32) (po : Int32) (lo : Int32) (nd : Nat → Int32) (bi : Nat → Int32) (p0 : Int32) (hn : nq ≤ 60) (hbi : ∀ j, j < nq → vp_in (bi j) 366) : CtI l D cI cJ cZ yX1_menWithNumberUpTo cX1_menWithNumberUpTo 5 (some .int) 3 [.ref h, .ref g, .int p0] [(h, .inr (1, [.ref j1, .ref j2, .ref mn, .ref lw, .int cut, .int least, .ref sd, .ref sr])), (mn, .inr (2, [.ref qk, .ref qb, .ref qp, .int (nI nq)])), (qb, .inl (cI, 60, .inl bi)), (g, .inr (0, [.int se, .int sh, .int sp, .int de, .int po, .ref gn, .ref gd, .ref gr, .ref gs, .int lo])), (gn, .inl (cI, 366, .inl nd))] (fun (_ : Unit) => cntI (fun m => decide (mnum nd bi m ≤ p0)) nq) (fun (_ : Unit) => True) (fun (_ : Unit) => [(h, .inr (1, [.ref j1, .ref j2, .ref mn, .ref lw, .int cut, .int least, .ref sd, .ref sr])), (mn, .inr (2, [.ref qk, .ref qb, .ref qp, .int (nI nq)])), (qb, .inl (cI, 60, .inl bi)), (g, .inr (0, [.int se, .int sh, .int sp, .int de, .int po, .ref gn, .ref gd, .ref gr, .ref gs, .int lo])), (gn, .inl (cI, 366, .inl nd))]) := by
  refine q_entI (own := RX1) rfl rfl (Nat.le_of_ble_eq_true rfl) ?_
  intro p e s m args below meth c A ls QQ hQ hE hx hb hr hk hin hA hl hst
  have hl : lv_has ls 5 [(0, .ref h), (1, .ref g), (2, .int p0)] := hl
  have loop_5 : ∀ (fu : Nat) (kq : Nat), (kq ≤ nq) → (nq - kq) < fu → ∀ (H : Heap) (locs : List Loc) (ls : Array Slot), SS D A s [(h, .inr (1, [.ref j1, .ref j2, .ref mn, .ref lw, .int cut, .int least, .ref sd, .ref sr])), (mn, .inr (2, [.ref qk, .ref qb, .ref qp, .int (nI nq)])), (qb, .inl (cI, 60, .inl bi)), (g, .inr (0, [.int se, .int sh, .int sp, .int de, .int po, .ref gn, .ref gd, .ref gr, .ref gs, .int lo])), (gn, .inl (cI, 366, .inl nd))] H locs → lv_has ls 5 [(4, .int (nI kq)), (3, .int (cntI (fun m => decide (mnum nd bi m ≤ p0)) kq)), (0, .ref h), (1, .ref g), (2, .int p0)] → W p l e (rmN 3 0 0) s m args below meth c H locs 0 0 QQ (F0 m 5 ls []) := by
    intro fu
    induction fu with
    | zero =>
      intro kq h1 hn
      exact absurd hn (Nat.not_lt_zero _)
    | succ fu ih =>
      intro kq h1 hn H locs ls hst hl
      refine lv_iload hx hb dX1_menWithNumberUpTo_5 (lv_at hl 0 rfl) ?_
      refine lv_aload_n hx hb dX1_menWithNumberUpTo_7 rfl (lv_at hl 2 rfl) ?_
      refine gf_X1_24 hE hst 0 rfl rfl dX1_menWithNumberUpTo_8 ?_
      refine gf_X1_98 hE hst 1 rfl rfl dX1_menWithNumberUpTo_11 ?_
      refine lv_icmp_ge (tgt := 37) hx hb dX1_menWithNumberUpTo_14 (by decide) (fun c_14 => ?_) (fun c_14 => ?_)
      · skip
        have hk1 : nq = kq := Nat.le_antisymm (Nat.le_of_not_lt (fun z => nI_ge z (by omega) c_14)) h1
        subst hk1
        skip
        refine lv_iload_n hx hb dX1_menWithNumberUpTo_37 rfl (lv_at hl 1 rfl) ?_
        exact q_retI hQ hE hr hk hst () (rfl) (trivial) (rfl) dX1_menWithNumberUpTo_38
      · skip
        have hk1 : kq < nq := Nat.lt_of_not_le (fun z => c_14 (nI_le z (by omega)))
        refine lv_aload_n hx hb dX1_menWithNumberUpTo_17 rfl (lv_at hl 2 rfl) ?_
        refine lv_aload_n hx hb dX1_menWithNumberUpTo_18 rfl (lv_at hl 3 rfl) ?_
        refine lv_iload hx hb dX1_menWithNumberUpTo_19 (lv_at hl 0 rfl) ?_
        refine q_goI (q_rV hE lk_X1_80 (c_X1_numberOfMan l D cI cJ cZ h j1 j2 mn lw sd sr cut least qk qb qp (nI nq) g gn gd gr gs se sh sp de po lo nd bi kq (by omega) (hbi kq hk1) H.size) hst [0, 1, 2, 3, 4] rfl rfl rfl rfl rfl hl.1 ⟨(Nat.le_of_ble_eq_true rfl), (Nat.le_of_ble_eq_true rfl)⟩ (rest := []) rfl (Nat.le_of_ble_eq_true rfl) dX1_menWithNumberUpTo_21 ⟨(Nat.le_of_ble_eq_true rfl), (Nat.le_of_ble_eq_true rfl)⟩) hE hst [0, 1, 2, 3, 4] rfl (fun _ => rfl) (fun (_ : Unit) => [(h, .inr (1, [.ref j1, .ref j2, .ref mn, .ref lw, .int cut, .int least, .ref sd, .ref sr])), (mn, .inr (2, [.ref qk, .ref qb, .ref qp, .int (nI nq)])), (qb, .inl (cI, 60, .inl bi)), (g, .inr (0, [.int se, .int sh, .int sp, .int de, .int po, .ref gn, .ref gd, .ref gr, .ref gs, .int lo])), (gn, .inl (cI, 366, .inl nd))]) (fun _ => rfl) (fun _ H locs hF hst => ?_)
        refine lv_iload_n hx hb dX1_menWithNumberUpTo_24 rfl (lv_at hl 4 rfl) ?_
        refine lv_icmp_gt (tgt := 31) hx hb dX1_menWithNumberUpTo_25 (by decide) (fun c_25 => ?_) (fun c_25 => ?_)
        · skip
          have hl : lv_has ls 5 [(4, .int (nI kq)), (3, .int (cntI (fun m => decide (mnum nd bi m ≤ p0)) (kq + 1))), (0, .ref h), (1, .ref g), (2, .int p0)] := by rw [cnt_f (f := fun m => decide (mnum nd bi m ≤ p0)) (decide_eq_false (Int32.not_le.mpr c_25))]; exact hl
          refine lv_iinc (v := nI (kq + 1)) (lv' := [(4, .int (nI (kq + 1))), (3, .int (cntI (fun m => decide (mnum nd bi m ≤ p0)) (kq + 1))), (0, .ref h), (1, .ref g), (2, .int p0)]) hx hb dX1_menWithNumberUpTo_31 hl (k := 0) rfl (nI_next _) (by decide) rfl (fun ls hl => ?_)
          refine lv_goto (tgt := 5) hx hb dX1_menWithNumberUpTo_34 (by decide) ?_
          exact ih (kq + 1) (by omega) (by omega) _ _ _ (hst) (lv_sub hl [0, 1, 2, 3, 4] rfl)
        · skip
          refine lv_iinc (v := (cntI (fun m => decide (mnum nd bi m ≤ p0)) kq) + 1) (lv' := [(3, .int ((cntI (fun m => decide (mnum nd bi m ≤ p0)) kq) + 1)), (4, .int (nI kq)), (0, .ref h), (1, .ref g), (2, .int p0)]) hx hb dX1_menWithNumberUpTo_28 hl (k := 1) rfl (rfl) (by decide) rfl (fun ls hl => ?_)
          have hl : lv_has ls 5 [(3, .int (cntI (fun m => decide (mnum nd bi m ≤ p0)) (kq + 1))), (4, .int (nI kq)), (0, .ref h), (1, .ref g), (2, .int p0)] := by rw [cnt_t (f := fun m => decide (mnum nd bi m ≤ p0)) (decide_eq_true (Int32.not_lt.mp c_25))]; exact hl
          refine lv_iinc (v := nI (kq + 1)) (lv' := [(4, .int (nI (kq + 1))), (3, .int (cntI (fun m => decide (mnum nd bi m ≤ p0)) (kq + 1))), (0, .ref h), (1, .ref g), (2, .int p0)]) hx hb dX1_menWithNumberUpTo_31 hl (k := 1) rfl (nI_next _) (by decide) rfl (fun ls hl => ?_)
          refine lv_goto (tgt := 5) hx hb dX1_menWithNumberUpTo_34 (by decide) ?_
          exact ih (kq + 1) (by omega) (by omega) _ _ _ (hst) (lv_sub hl [0, 1, 2, 3, 4] rfl)
  refine lv_iconst (v := 0) hx hb dX1_menWithNumberUpTo_0 (by decide) ?_
  refine lv_istore_n (lv' := [(3, .int 0), (0, .ref h), (1, .ref g), (2, .int p0)]) hx hb dX1_menWithNumberUpTo_1 rfl hl (by decide) rfl (fun ls hl => ?_)
  refine lv_iconst (v := 0) hx hb dX1_menWithNumberUpTo_2 (by decide) ?_
  refine lv_istore (lv' := [(4, .int 0), (3, .int 0), (0, .ref h), (1, .ref g), (2, .int p0)]) hx hb dX1_menWithNumberUpTo_3 hl (by decide) rfl (fun ls hl => ?_)
  exact loop_5 (nq + 1) 0 (Nat.zero_le _) (by omega) _ _ _ (hst) (lv_sub hl [0, 1, 2, 3, 4] rfl)
def upI (nd bi : Nat → Int32) (n : Nat) (x : Int32) : Int32 := cntI (fun m => decide (mnum nd bi m ≤ x)) n
def lcB (nd bi : Nat → Int32) (n : Nat) (many b : Int32) (k : Nat) : Bool := (decide (b = -9) || decide (mnum nd bi k < b)) && decide (many ≤ upI nd bi n (mnum nd bi k))
def lcF (nd bi : Nat → Int32) (n : Nat) (many : Int32) : Nat → Int32
  | 0 => -9
  | k + 1 => if lcB nd bi n many (lcF nd bi n many k) k = true then mnum nd bi k else lcF nd bi n many k
def lcR (nd bi : Nat → Int32) (n : Nat) (many : Int32) : Int32 := if 0 < many then lcF nd bi n many n else 0
set_option maxHeartbeats 4000000 in
set_option maxRecDepth 100000 in
theorem c_X1_leastCutFor (l : Launch) (D : va_G) (cI cJ cZ : ClassId) (h : Nat) (j1 : Nat) (j2 : Nat) (mn : Nat) (lw : Nat) (sd : Nat) (sr : Nat) (cut : Int32) (least : Int32) (qk : Nat) (qb : Nat) (qp : Nat) (nq : Nat) (g : Nat) (gn : Nat) (gd : Nat) (gr : Nat) (gs : Nat) (se : Int32) (sh : Int32) (sp : Int32) (de : Int32) (po : Int32) (lo : Int32) (nd : Nat → Int32) (bi : Nat → Int32) (p0 : Int32) (hn : nq ≤ 60) (hbi : ∀ j, j < nq → vp_in (bi j) 366) : CtI l D cI cJ cZ yX1_leastCutFor cX1_leastCutFor 7 (some .int) 4 [.ref h, .ref g, .int p0] [(h, .inr (1, [.ref j1, .ref j2, .ref mn, .ref lw, .int cut, .int least, .ref sd, .ref sr])), (mn, .inr (2, [.ref qk, .ref qb, .ref qp, .int (nI nq)])), (qb, .inl (cI, 60, .inl bi)), (g, .inr (0, [.int se, .int sh, .int sp, .int de, .int po, .ref gn, .ref gd, .ref gr, .ref gs, .int lo])), (gn, .inl (cI, 366, .inl nd))] (fun (_ : Unit) => lcR nd bi nq p0) (fun (_ : Unit) => True) (fun (_ : Unit) => [(h, .inr (1, [.ref j1, .ref j2, .ref mn, .ref lw, .int cut, .int least, .ref sd, .ref sr])), (mn, .inr (2, [.ref qk, .ref qb, .ref qp, .int (nI nq)])), (qb, .inl (cI, 60, .inl bi)), (g, .inr (0, [.int se, .int sh, .int sp, .int de, .int po, .ref gn, .ref gd, .ref gr, .ref gs, .int lo])), (gn, .inl (cI, 366, .inl nd))]) := by
  refine q_entI (own := RX1) rfl rfl (Nat.le_of_ble_eq_true rfl) ?_
  intro p e s m args below meth c A ls QQ hQ hE hx hb hr hk hin hA hl hst
  have hl : lv_has ls 7 [(0, .ref h), (1, .ref g), (2, .int p0)] := hl
  have loop_12 : ∀ (fu : Nat) (kq : Nat), (kq ≤ nq) → (0 < p0) → (nq - kq) < fu → ∀ (H : Heap) (locs : List Loc) (ls : Array Slot), SS D A s [(h, .inr (1, [.ref j1, .ref j2, .ref mn, .ref lw, .int cut, .int least, .ref sd, .ref sr])), (mn, .inr (2, [.ref qk, .ref qb, .ref qp, .int (nI nq)])), (qb, .inl (cI, 60, .inl bi)), (g, .inr (0, [.int se, .int sh, .int sp, .int de, .int po, .ref gn, .ref gd, .ref gr, .ref gs, .int lo])), (gn, .inl (cI, 366, .inl nd))] H locs → lv_has ls 7 [(4, .int (nI kq)), (3, .int (lcF nd bi nq p0 kq)), (0, .ref h), (1, .ref g), (2, .int p0)] → W p l e (rmN 4 0 0) s m args below meth c H locs 0 0 QQ (F0 m 12 ls []) := by
    intro fu
    induction fu with
    | zero =>
      intro kq h1 h2 hn
      exact absurd hn (Nat.not_lt_zero _)
    | succ fu ih =>
      intro kq h1 h2 hn H locs ls hst hl
      refine lv_iload hx hb dX1_leastCutFor_12 (lv_at hl 0 rfl) ?_
      refine lv_aload_n hx hb dX1_leastCutFor_14 rfl (lv_at hl 2 rfl) ?_
      refine gf_X1_24 hE hst 0 rfl rfl dX1_leastCutFor_15 ?_
      refine gf_X1_98 hE hst 1 rfl rfl dX1_leastCutFor_18 ?_
      refine lv_icmp_ge (tgt := 77) hx hb dX1_leastCutFor_21 (by decide) (fun c_21 => ?_) (fun c_21 => ?_)
      · skip
        have hk1 : nq = kq := Nat.le_antisymm (Nat.le_of_not_lt (fun z => nI_ge z (by omega) c_21)) h1
        subst hk1
        skip
        refine lv_iload_n hx hb dX1_leastCutFor_77 rfl (lv_at hl 1 rfl) ?_
        exact q_retI hQ hE hr hk hst () (by rw [lcR, if_pos h2]) (trivial) (rfl) dX1_leastCutFor_78
      · skip
        have hk1 : kq < nq := Nat.lt_of_not_le (fun z => c_21 (nI_le z (by omega)))
        refine lv_aload_n hx hb dX1_leastCutFor_24 rfl (lv_at hl 2 rfl) ?_
        refine lv_aload_n hx hb dX1_leastCutFor_25 rfl (lv_at hl 3 rfl) ?_
        refine lv_iload hx hb dX1_leastCutFor_26 (lv_at hl 0 rfl) ?_
        refine q_goI (q_rV hE lk_X1_80 (c_X1_numberOfMan l D cI cJ cZ h j1 j2 mn lw sd sr cut least qk qb qp (nI nq) g gn gd gr gs se sh sp de po lo nd bi kq (by omega) (hbi kq hk1) H.size) hst [0, 1, 2, 3, 4] rfl rfl rfl rfl rfl hl.1 ⟨(Nat.le_of_ble_eq_true rfl), (Nat.le_of_ble_eq_true rfl)⟩ (rest := []) rfl (Nat.le_of_ble_eq_true rfl) dX1_leastCutFor_28 ⟨(Nat.le_of_ble_eq_true rfl), (Nat.le_of_ble_eq_true rfl)⟩) hE hst [0, 1, 2, 3, 4] rfl (fun _ => rfl) (fun (_ : Unit) => [(h, .inr (1, [.ref j1, .ref j2, .ref mn, .ref lw, .int cut, .int least, .ref sd, .ref sr])), (mn, .inr (2, [.ref qk, .ref qb, .ref qp, .int (nI nq)])), (qb, .inl (cI, 60, .inl bi)), (g, .inr (0, [.int se, .int sh, .int sp, .int de, .int po, .ref gn, .ref gd, .ref gr, .ref gs, .int lo])), (gn, .inl (cI, 366, .inl nd))]) (fun _ => rfl) (fun _ H locs hF hst => ?_)
        refine lv_istore (lv' := [(5, .int (mnum nd bi kq)), (4, .int (nI kq)), (3, .int (lcF nd bi nq p0 kq)), (0, .ref h), (1, .ref g), (2, .int p0)]) hx hb dX1_leastCutFor_31 hl (by decide) rfl (fun ls hl => ?_)
        suffices kJ : ∀ (H : Heap) (locs : List Loc), SS D A s [(h, .inr (1, [.ref j1, .ref j2, .ref mn, .ref lw, .int cut, .int least, .ref sd, .ref sr])), (mn, .inr (2, [.ref qk, .ref qb, .ref qp, .int (nI nq)])), (qb, .inl (cI, 60, .inl bi)), (g, .inr (0, [.int se, .int sh, .int sp, .int de, .int po, .ref gn, .ref gd, .ref gr, .ref gs, .int lo])), (gn, .inl (cI, 366, .inl nd))] H locs → W p l e (rmN 4 0 0) s m args below meth c H locs 0 0 QQ (F0 m 50 ls [.int (b2i (decide (lcF nd bi nq p0 kq = -9) || decide (mnum nd bi kq < lcF nd bi nq p0 kq)))]) by
          refine lv_iload_n hx hb dX1_leastCutFor_33 rfl (lv_at hl 2 rfl) ?_
          refine lv_bipush (v := (-9)) hx hb dX1_leastCutFor_34 (by decide) ?_
          refine lv_icmp_eq (tgt := 45) hx hb dX1_leastCutFor_36 (by decide) (fun c_36 => ?_) (fun c_36 => ?_)
          · skip
            refine lv_iconst (v := 1) hx hb dX1_leastCutFor_45 (by decide) ?_
            refine lv_goto (tgt := 50) hx hb dX1_leastCutFor_46 (by decide) ?_
            have kJ := kJ _ _ hst
            rw [show (b2i (decide (lcF nd bi nq p0 kq = -9) || decide (mnum nd bi kq < lcF nd bi nq p0 kq))) = 1 from by rw [decide_eq_true c_36, Bool.true_or]; rfl] at kJ
            exact kJ
          · skip
            refine lv_iload hx hb dX1_leastCutFor_39 (lv_at hl 0 rfl) ?_
            refine lv_iload_n hx hb dX1_leastCutFor_41 rfl (lv_at hl 2 rfl) ?_
            refine lv_icmp_ge (tgt := 49) hx hb dX1_leastCutFor_42 (by decide) (fun c_42 => ?_) (fun c_42 => ?_)
            · skip
              refine lv_iconst (v := 0) hx hb dX1_leastCutFor_49 (by decide) ?_
              have kJ := kJ _ _ hst
              rw [show (b2i (decide (lcF nd bi nq p0 kq = -9) || decide (mnum nd bi kq < lcF nd bi nq p0 kq))) = 0 from by rw [decide_eq_false c_36, decide_eq_false (Int32.not_lt.mpr c_42)]; rfl] at kJ
              exact kJ
            · skip
              refine lv_iconst (v := 1) hx hb dX1_leastCutFor_45 (by decide) ?_
              refine lv_goto (tgt := 50) hx hb dX1_leastCutFor_46 (by decide) ?_
              have kJ := kJ _ _ hst
              rw [show (b2i (decide (lcF nd bi nq p0 kq = -9) || decide (mnum nd bi kq < lcF nd bi nq p0 kq))) = 1 from by rw [decide_eq_true (Int32.not_le.mp c_42), Bool.or_true]; rfl] at kJ
              exact kJ
        intro H locs hst
        refine lv_istore (lv' := [(6, .int (b2i (decide (lcF nd bi nq p0 kq = -9) || decide (mnum nd bi kq < lcF nd bi nq p0 kq)))), (5, .int (mnum nd bi kq)), (4, .int (nI kq)), (3, .int (lcF nd bi nq p0 kq)), (0, .ref h), (1, .ref g), (2, .int p0)]) hx hb dX1_leastCutFor_50 hl (by decide) rfl (fun ls hl => ?_)
        refine lv_iload hx hb dX1_leastCutFor_52 (lv_at hl 0 rfl) ?_
        refine lv_if_eq (tgt := 71) hx hb dX1_leastCutFor_54 (by decide) (fun c_54 => ?_) (fun c_54 => ?_)
        · skip
          have c_54 := b2i_f c_54
          have hl : lv_has ls 7 [(6, .int (b2i (decide (lcF nd bi nq p0 kq = -9) || decide (mnum nd bi kq < lcF nd bi nq p0 kq)))), (5, .int (mnum nd bi kq)), (4, .int (nI kq)), (3, .int (lcF nd bi nq p0 (kq + 1))), (0, .ref h), (1, .ref g), (2, .int p0)] := by rw [show lcF nd bi nq p0 (kq + 1) = lcF nd bi nq p0 kq from if_neg (by rw [lcB, c_54, Bool.false_and]; decide)]; exact hl
          refine lv_iinc (v := nI (kq + 1)) (lv' := [(4, .int (nI (kq + 1))), (6, .int (b2i (decide (lcF nd bi nq p0 kq = -9) || decide (mnum nd bi kq < lcF nd bi nq p0 kq)))), (5, .int (mnum nd bi kq)), (3, .int (lcF nd bi nq p0 (kq + 1))), (0, .ref h), (1, .ref g), (2, .int p0)]) hx hb dX1_leastCutFor_71 hl (k := 2) rfl (nI_next _) (by decide) rfl (fun ls hl => ?_)
          refine lv_goto (tgt := 12) hx hb dX1_leastCutFor_74 (by decide) ?_
          exact ih (kq + 1) (by omega) (h2) (by omega) _ _ _ (hst) (lv_sub hl [0, 3, 4, 5, 6] rfl)
        · skip
          have c_54 := b2i_t c_54
          refine lv_aload_n hx hb dX1_leastCutFor_57 rfl (lv_at hl 4 rfl) ?_
          refine lv_aload_n hx hb dX1_leastCutFor_58 rfl (lv_at hl 5 rfl) ?_
          refine lv_iload hx hb dX1_leastCutFor_59 (lv_at hl 1 rfl) ?_
          refine q_goI (q_rV hE lk_X1_170 (c_X1_menWithNumberUpTo l D cI cJ cZ h j1 j2 mn lw sd sr cut least qk qb qp nq g gn gd gr gs se sh sp de po lo nd bi (mnum nd bi kq) (by first | assumption | decide | omega) (by first | assumption | decide | omega) H.size) hst [0, 1, 2, 3, 4] rfl rfl rfl rfl rfl hl.1 ⟨(Nat.le_of_ble_eq_true rfl), (Nat.le_of_ble_eq_true rfl)⟩ (rest := []) rfl (Nat.le_of_ble_eq_true rfl) dX1_leastCutFor_61 ⟨(Nat.le_of_ble_eq_true rfl), (Nat.le_of_ble_eq_true rfl)⟩) hE hst [0, 1, 2, 3, 4] rfl (fun _ => rfl) (fun (_ : Unit) => [(h, .inr (1, [.ref j1, .ref j2, .ref mn, .ref lw, .int cut, .int least, .ref sd, .ref sr])), (mn, .inr (2, [.ref qk, .ref qb, .ref qp, .int (nI nq)])), (qb, .inl (cI, 60, .inl bi)), (g, .inr (0, [.int se, .int sh, .int sp, .int de, .int po, .ref gn, .ref gd, .ref gr, .ref gs, .int lo])), (gn, .inl (cI, 366, .inl nd))]) (fun _ => rfl) (fun _ H locs hF hst => ?_)
          refine lv_iload_n hx hb dX1_leastCutFor_64 rfl (lv_at hl 6 rfl) ?_
          refine lv_icmp_lt (tgt := 71) hx hb dX1_leastCutFor_65 (by decide) (fun c_65 => ?_) (fun c_65 => ?_)
          · skip
            have hl : lv_has ls 7 [(6, .int (b2i (decide (lcF nd bi nq p0 kq = -9) || decide (mnum nd bi kq < lcF nd bi nq p0 kq)))), (5, .int (mnum nd bi kq)), (4, .int (nI kq)), (3, .int (lcF nd bi nq p0 (kq + 1))), (0, .ref h), (1, .ref g), (2, .int p0)] := by rw [show lcF nd bi nq p0 (kq + 1) = lcF nd bi nq p0 kq from if_neg (by rw [lcB, c_54, Bool.true_and, decide_eq_false (show ¬ p0 ≤ upI nd bi nq (mnum nd bi kq) from Int32.not_le.mpr c_65)]; decide)]; exact hl
            refine lv_iinc (v := nI (kq + 1)) (lv' := [(4, .int (nI (kq + 1))), (6, .int (b2i (decide (lcF nd bi nq p0 kq = -9) || decide (mnum nd bi kq < lcF nd bi nq p0 kq)))), (5, .int (mnum nd bi kq)), (3, .int (lcF nd bi nq p0 (kq + 1))), (0, .ref h), (1, .ref g), (2, .int p0)]) hx hb dX1_leastCutFor_71 hl (k := 2) rfl (nI_next _) (by decide) rfl (fun ls hl => ?_)
            refine lv_goto (tgt := 12) hx hb dX1_leastCutFor_74 (by decide) ?_
            exact ih (kq + 1) (by omega) (h2) (by omega) _ _ _ (hst) (lv_sub hl [0, 3, 4, 5, 6] rfl)
          · skip
            refine lv_iload hx hb dX1_leastCutFor_68 (lv_at hl 1 rfl) ?_
            refine lv_istore_n (lv' := [(3, .int (mnum nd bi kq)), (6, .int (b2i (decide (lcF nd bi nq p0 kq = -9) || decide (mnum nd bi kq < lcF nd bi nq p0 kq)))), (5, .int (mnum nd bi kq)), (4, .int (nI kq)), (0, .ref h), (1, .ref g), (2, .int p0)]) hx hb dX1_leastCutFor_70 rfl hl (by decide) rfl (fun ls hl => ?_)
            have hl : lv_has ls 7 [(3, .int (lcF nd bi nq p0 (kq + 1))), (6, .int (b2i (decide (lcF nd bi nq p0 kq = -9) || decide (mnum nd bi kq < lcF nd bi nq p0 kq)))), (5, .int (mnum nd bi kq)), (4, .int (nI kq)), (0, .ref h), (1, .ref g), (2, .int p0)] := by rw [show lcF nd bi nq p0 (kq + 1) = mnum nd bi kq from if_pos (by rw [lcB, c_54, Bool.true_and, decide_eq_true (show p0 ≤ upI nd bi nq (mnum nd bi kq) from Int32.not_lt.mp c_65)])]; exact hl
            refine lv_iinc (v := nI (kq + 1)) (lv' := [(4, .int (nI (kq + 1))), (3, .int (lcF nd bi nq p0 (kq + 1))), (6, .int (b2i (decide (lcF nd bi nq p0 kq = -9) || decide (mnum nd bi kq < lcF nd bi nq p0 kq)))), (5, .int (mnum nd bi kq)), (0, .ref h), (1, .ref g), (2, .int p0)]) hx hb dX1_leastCutFor_71 hl (k := 3) rfl (nI_next _) (by decide) rfl (fun ls hl => ?_)
            refine lv_goto (tgt := 12) hx hb dX1_leastCutFor_74 (by decide) ?_
            exact ih (kq + 1) (by omega) (h2) (by omega) _ _ _ (hst) (lv_sub hl [0, 1, 4, 5, 6] rfl)
  refine lv_iload_n hx hb dX1_leastCutFor_0 rfl (lv_at hl 2 rfl) ?_
  refine lv_if_gt (tgt := 6) hx hb dX1_leastCutFor_1 (by decide) (fun c_1 => ?_) (fun c_1 => ?_)
  · skip
    refine lv_bipush (v := (-9)) hx hb dX1_leastCutFor_6 (by decide) ?_
    refine lv_istore_n (lv' := [(3, .int (-9)), (0, .ref h), (1, .ref g), (2, .int p0)]) hx hb dX1_leastCutFor_8 rfl hl (by decide) rfl (fun ls hl => ?_)
    refine lv_iconst (v := 0) hx hb dX1_leastCutFor_9 (by decide) ?_
    refine lv_istore (lv' := [(4, .int 0), (3, .int (-9)), (0, .ref h), (1, .ref g), (2, .int p0)]) hx hb dX1_leastCutFor_10 hl (by decide) rfl (fun ls hl => ?_)
    exact loop_12 (nq + 1) 0 (Nat.zero_le _) (c_1) (by omega) _ _ _ (hst) (lv_sub hl [0, 1, 2, 3, 4] rfl)
  · skip
    refine lv_iconst (v := 0) hx hb dX1_leastCutFor_4 (by decide) ?_
    exact q_retI hQ hE hr hk hst () (by rw [lcR, if_neg c_1]) (trivial) (rfl) dX1_leastCutFor_5
