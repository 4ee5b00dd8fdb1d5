/-! the rest of the jar -/
def mst (m : Nat) : Nat := ([0, 31, 60, 91, 121, 152, 182, 213, 244, 274, 305, 335, 366] : List Nat).getD m 0
def mln (m : Nat) : Nat := ([31, 29, 31, 30, 31, 30, 31, 31, 30, 31, 30, 31] : List Nat).getD m 0
theorem mst_ok : ∀ m, m < 13 → fMS m = nI (mst m) ∧ mst m ≤ 366 := by decide +kernel
theorem mln_ok : ∀ m, m < 12 → mst (m + 1) = mst m + mln m ∧ 0 < mln m ∧ mln m ≤ 31 := by decide +kernel
theorem ms_at {m : Nat} (h : m < 13) : atI 13 fMS (nI m) = nI (mst m) := by rw [atI_n h (by decide), (mst_ok m h).1]
theorem ml_at {m : Nat} (h : m < 12) : monLen (nI m) = nI (mln m) := by
  rw [monLen, nI_1, ms_at (by omega), ms_at (by omega), (mln_ok m h).1, pk_sub (by omega)]
  congr 1
  omega
def sumR (f : Nat → Int32) : Nat → Nat → Int32
  | 0, _ => 0
  | n + 1, a => sumR f n a + f (a + n)
def monS (nd : Nat → Int32) (m : Nat) : Int32 := sumR nd (mln m) (mst m)
def monD (nd : Nat → Int32) (m : Nat) : Int64 := absL (2 * (monS nd m).toInt64 - 367 * (nI (mln m)).toInt64)
def wor (nd : Nat → Int32) : Nat → Nat
  | 0 => 0
  | k + 1 => if monD nd (k + 1) * (nI (mln (wor nd k))).toInt64 ≤ monD nd (wor nd k) * (nI (mln (k + 1))).toInt64 then wor nd k else k + 1
theorem wor_le (nd : Nat → Int32) : ∀ k, wor nd k ≤ k
  | 0 => Nat.le_refl _
  | k + 1 => by
    rw [wor]
    by_cases h : monD nd (k + 1) * (nI (mln (wor nd k))).toInt64 ≤ monD nd (wor nd k) * (nI (mln (k + 1))).toInt64
    · rw [if_pos h]
      have := wor_le nd k
      omega
    · rw [if_neg h]
      omega
def leaL (nd : Nat → Int32) : Nat → Int64
  | 0 => 0
  | k + 1 => leaL nd k + (2 * (nI k).toInt64 - 365) * (2 * (nd k).toInt64 - 367)
set_option maxHeartbeats 4000000 in
set_option maxRecDepth 100000 in
theorem c_X0_prepare (l : Launch) (D : va_G) (cI cJ cZ : ClassId) (h : Nat) (qn : Nat) (qd : Nat) (qr : Nat) (qs : Nat) (kS : Nat) (sp : Nat) (de : Nat) (se0 : Int32) (sh0 : Int32) (sp0 : Int32) (de0 : Int32) (p0 : Int32) (lo : Int32) (po : Bool) (nd : Nat → Int32) (dn : Nat → Int32) (f : Nat → Int32) (hk0 : kS < 2147483648) (hs : sp < 366) (hd1 : 1 ≤ de) (hd2 : de < 2147483648) (hz : dn 0 = 0) : CtV l D cI cJ cZ yX0_prepare cX0_prepare 5 none 4 0 0 [.ref h, .int p0, .int (nI kS), .int (nI sp), .int (nI de)] [(h, .inr (0, [.int se0, .int sh0, .int sp0, .int de0, .int (b2i po), .ref qn, .ref qd, .ref qr, .ref qs, .int lo])), (qn, .inl (cI, 366, .inl nd)), (qd, .inl (cI, 367, .inl dn)), (qr, .inl (cI, 366, .inl f))] (fun (u : Int32 × (Nat → Int32)) => True) (fun (u : Int32 × (Nat → Int32)) => [(h, .inr (0, [.int p0, .int (nI kS), .int (nI sp), .int (nI de), .int (b2i po), .ref qn, .ref qd, .ref qr, .ref qs, .int u.1])), (qn, .inl (cI, 366, .inl (numF p0 kS sp de po))), (qd, .inl (cI, 367, .inl (dayF p0 kS sp de po))), (qr, .inl (cI, 366, .inl u.2))]) := by
  refine q_entV (own := RX0) rfl rfl (Nat.le_of_ble_eq_true rfl) ?_
  intro p e s m args below meth c A ls QQ hQ hE hx hb hr hk hin hA hl hst
  have hl : lv_has ls 5 [(0, .ref h), (1, .int p0), (2, .int (nI kS)), (3, .int (nI sp)), (4, .int (nI de))] := hl
  refine lv_aload_n hx hb dX0_prepare_0 rfl (lv_at hl 0 rfl) ?_
  refine lv_iload_n hx hb dX0_prepare_1 rfl (lv_at hl 1 rfl) ?_
  refine pf_X0_9 hE hst 0 rfl (rfl) (rfl) (Nat.le_of_ble_eq_true rfl) [(h, .inr (0, [.int p0, .int sh0, .int sp0, .int de0, .int (b2i po), .ref qn, .ref qd, .ref qr, .ref qs, .int lo])), (qn, .inl (cI, 366, .inl nd)), (qd, .inl (cI, 367, .inl dn)), (qr, .inl (cI, 366, .inl f))] rfl dX0_prepare_2 (fun H locs hst => ?_)
  refine lv_aload_n hx hb dX0_prepare_5 rfl (lv_at hl 0 rfl) ?_
  refine lv_iload_n hx hb dX0_prepare_6 rfl (lv_at hl 2 rfl) ?_
  refine pf_X0_15 hE hst 0 rfl (rfl) (rfl) (Nat.le_of_ble_eq_true rfl) [(h, .inr (0, [.int p0, .int (nI kS), .int sp0, .int de0, .int (b2i po), .ref qn, .ref qd, .ref qr, .ref qs, .int lo])), (qn, .inl (cI, 366, .inl nd)), (qd, .inl (cI, 367, .inl dn)), (qr, .inl (cI, 366, .inl f))] rfl dX0_prepare_7 (fun H locs hst => ?_)
  refine lv_aload_n hx hb dX0_prepare_10 rfl (lv_at hl 0 rfl) ?_
  refine lv_iload_n hx hb dX0_prepare_11 rfl (lv_at hl 3 rfl) ?_
  refine pf_X0_18 hE hst 0 rfl (rfl) (rfl) (Nat.le_of_ble_eq_true rfl) [(h, .inr (0, [.int p0, .int (nI kS), .int (nI sp), .int de0, .int (b2i po), .ref qn, .ref qd, .ref qr, .ref qs, .int lo])), (qn, .inl (cI, 366, .inl nd)), (qd, .inl (cI, 367, .inl dn)), (qr, .inl (cI, 366, .inl f))] rfl dX0_prepare_12 (fun H locs hst => ?_)
  refine lv_aload_n hx hb dX0_prepare_15 rfl (lv_at hl 0 rfl) ?_
  refine lv_iload hx hb dX0_prepare_16 (lv_at hl 4 rfl) ?_
  refine pf_X0_21 hE hst 0 rfl (rfl) (rfl) (Nat.le_of_ble_eq_true rfl) [(h, .inr (0, [.int p0, .int (nI kS), .int (nI sp), .int (nI de), .int (b2i po), .ref qn, .ref qd, .ref qr, .ref qs, .int lo])), (qn, .inl (cI, 366, .inl nd)), (qd, .inl (cI, 367, .inl dn)), (qr, .inl (cI, 366, .inl f))] rfl dX0_prepare_18 (fun H locs hst => ?_)
  refine lv_aload_n hx hb dX0_prepare_21 rfl (lv_at hl 0 rfl) ?_
  refine q_goV (q_rV hE lk_X0_45 (c_X0_draw l D cI cJ cZ h qn qd qr qs kS sp de p0 lo po nd dn f (by first | assumption | decide | omega) (by first | assumption | decide | omega) (by first | assumption | decide | omega) (by first | assumption | decide | omega) (by first | assumption | decide | omega) H.size) hst [0, 1, 2, 3] rfl rfl rfl rfl rfl hl.1 ⟨(Nat.le_of_ble_eq_true rfl), (Nat.le_of_ble_eq_true rfl)⟩ (rest := []) rfl (Nat.le_of_ble_eq_true rfl) dX0_prepare_22 ⟨(Nat.le_of_ble_eq_true rfl), (Nat.le_of_ble_eq_true rfl)⟩) hE hst [0, 1, 2, 3] rfl (fun _ => rfl) (fun (u : Int32 × (Nat → Int32)) => [(h, .inr (0, [.int p0, .int (nI kS), .int (nI sp), .int (nI de), .int (b2i po), .ref qn, .ref qd, .ref qr, .ref qs, .int u.1])), (qn, .inl (cI, 366, .inl (numF p0 kS sp de po))), (qd, .inl (cI, 367, .inl (dayF p0 kS sp de po))), (qr, .inl (cI, 366, .inl u.2))]) (fun _ => rfl) (fun u H locs hF hst => ?_)
  obtain ⟨lo1_1, f1_2⟩ := u
  have hst : SS D A s [(h, .inr (0, [.int p0, .int (nI kS), .int (nI sp), .int (nI de), .int (b2i po), .ref qn, .ref qd, .ref qr, .ref qs, .int lo1_1])), (qn, .inl (cI, 366, .inl (numF p0 kS sp de po))), (qd, .inl (cI, 367, .inl (dayF p0 kS sp de po))), (qr, .inl (cI, 366, .inl f1_2))] H locs := hst
  exact q_retV hQ hE hr hk hst (lo1_1, f1_2) (trivial) (rfl) dX0_prepare_25
theorem b2i_inj {x y : Bool} (h : b2i x = b2i y) : x = y := by cases x <;> cases y <;> first | rfl | exact absurd h (by decide)
set_option maxHeartbeats 4000000 in
set_option maxRecDepth 100000 in
theorem c_X0_turnOver (l : Launch) (D : va_G) (cI cJ cZ : ClassId) (h : Nat) (qn : Nat) (qd : Nat) (qr : Nat) (qs : Nat) (kS : Nat) (sp : Nat) (de : Nat) (se : Int32) (lo : Int32) (po : Bool) (b0 : Bool) (f : Nat → Int32) (hk0 : kS < 2147483648) (hs : sp < 366) (hd1 : 1 ≤ de) (hd2 : de < 2147483648) : CtI l D cI cJ cZ yX0_turnOver cX0_turnOver 2 (some .boolean) 4 [.ref h, .int (b2i b0)] [(h, .inr (0, [.int se, .int (nI kS), .int (nI sp), .int (nI de), .int (b2i po), .ref qn, .ref qd, .ref qr, .ref qs, .int lo])), (qn, .inl (cI, 366, .inl (numF se kS sp de po))), (qd, .inl (cI, 367, .inl (dayF se kS sp de po))), (qr, .inl (cI, 366, .inl f))] (fun (u : Int32 × (Nat → Int32)) => if po = b0 then 0 else 1) (fun (u : Int32 × (Nat → Int32)) => True) (fun (u : Int32 × (Nat → Int32)) => [(h, .inr (0, [.int se, .int (nI kS), .int (nI sp), .int (nI de), .int (b2i b0), .ref qn, .ref qd, .ref qr, .ref qs, .int u.1])), (qn, .inl (cI, 366, .inl (numF se kS sp de b0))), (qd, .inl (cI, 367, .inl (dayF se kS sp de b0))), (qr, .inl (cI, 366, .inl u.2))]) := by
  refine q_entI (own := RX0) rfl rfl (Nat.le_of_ble_eq_true rfl) ?_
  intro p e s m args below meth c A ls QQ hQ hE hx hb hr hk hin hA hl hst
  have hl : lv_has ls 2 [(0, .ref h), (1, .int (b2i b0))] := hl
  refine lv_aload_n hx hb dX0_turnOver_0 rfl (lv_at hl 0 rfl) ?_
  refine gf_X0_24 hE hst 0 rfl rfl dX0_turnOver_1 ?_
  refine lv_iload_n hx hb dX0_turnOver_4 rfl (lv_at hl 1 rfl) ?_
  refine lv_icmp_ne (tgt := 10) hx hb dX0_turnOver_5 (by decide) (fun c_5 => ?_) (fun c_5 => ?_)
  · skip
    have eb : ¬ po = b0 := fun z => c_5 (by rw [z])
    refine lv_aload_n hx hb dX0_turnOver_10 rfl (lv_at hl 0 rfl) ?_
    refine lv_iload_n hx hb dX0_turnOver_11 rfl (lv_at hl 1 rfl) ?_
    refine pf_X0_24 hE hst 0 rfl (b2i_fits _) (b2i_nar _) (Nat.le_of_ble_eq_true rfl) [(h, .inr (0, [.int se, .int (nI kS), .int (nI sp), .int (nI de), .int (b2i b0), .ref qn, .ref qd, .ref qr, .ref qs, .int lo])), (qn, .inl (cI, 366, .inl (numF se kS sp de po))), (qd, .inl (cI, 367, .inl (dayF se kS sp de po))), (qr, .inl (cI, 366, .inl f))] rfl dX0_turnOver_12 (fun H locs hst => ?_)
    refine lv_aload_n hx hb dX0_turnOver_15 rfl (lv_at hl 0 rfl) ?_
    refine q_goV (q_rV hE lk_X0_45 (c_X0_draw l D cI cJ cZ h qn qd qr qs kS sp de se lo b0 (numF se kS sp de po) (dayF se kS sp de po) f (hk0) (hs) (hd1) (hd2) (by rw [dayF, dn_0]) H.size) hst [0, 1, 2, 3] rfl rfl rfl rfl rfl hl.1 ⟨(Nat.le_of_ble_eq_true rfl), (Nat.le_of_ble_eq_true rfl)⟩ (rest := []) rfl (Nat.le_of_ble_eq_true rfl) dX0_turnOver_16 ⟨(Nat.le_of_ble_eq_true rfl), (Nat.le_of_ble_eq_true rfl)⟩) hE hst [0, 1, 2, 3] rfl (fun _ => rfl) (fun (u : Int32 × (Nat → Int32)) => [(h, .inr (0, [.int se, .int (nI kS), .int (nI sp), .int (nI de), .int (b2i b0), .ref qn, .ref qd, .ref qr, .ref qs, .int u.1])), (qn, .inl (cI, 366, .inl (numF se kS sp de b0))), (qd, .inl (cI, 367, .inl (dayF se kS sp de b0))), (qr, .inl (cI, 366, .inl u.2))]) (fun _ => rfl) (fun u H locs hF hst => ?_)
    obtain ⟨lo1_1, f1_2⟩ := u
    have hst : SS D A s [(h, .inr (0, [.int se, .int (nI kS), .int (nI sp), .int (nI de), .int (b2i b0), .ref qn, .ref qd, .ref qr, .ref qs, .int lo1_1])), (qn, .inl (cI, 366, .inl (numF se kS sp de b0))), (qd, .inl (cI, 367, .inl (dayF se kS sp de b0))), (qr, .inl (cI, 366, .inl f1_2))] H locs := hst
    refine lv_iconst (v := 1) hx hb dX0_turnOver_19 (by decide) ?_
    exact q_retZ hQ hE hr hk hst (lo1_1, f1_2) (rfl) (by rw [if_neg eb]) (trivial) (rfl) dX0_turnOver_20
  · skip
    have eb := b2i_inj c_5
    subst eb
    refine lv_iconst (v := 0) hx hb dX0_turnOver_8 (by decide) ?_
    exact q_retZ hQ hE hr hk hst (lo, f) (rfl) (by rw [if_pos rfl]) (trivial) (rfl) dX0_turnOver_9
set_option maxHeartbeats 4000000 in
set_option maxRecDepth 100000 in
theorem c_X0_copyJar (l : Launch) (D : va_G) (cI cJ cZ : ClassId) (h : Nat) (qn : Nat) (qd : Nat) (qr : Nat) (qs : Nat) (g : Nat) (rn : Nat) (rd : Nat) (rr : Nat) (rs : Nat) (se : Int32) (sh : Int32) (sp : Int32) (de : Int32) (po : Int32) (lo : Int32) (se2 : Int32) (sh2 : Int32) (sp2 : Int32) (de2 : Int32) (lo2 : Int32) (b2 : Bool) (nd : Nat → Int32) (dn : Nat → Int32) (nd2 : Nat → Int32) (dn2 : Nat → Int32) : CtV l D cI cJ cZ yX0_copyJar cX0_copyJar 2 none 2 0 0 [.ref h, .ref g] [(h, .inr (0, [.int se, .int sh, .int sp, .int de, .int po, .ref qn, .ref qd, .ref qr, .ref qs, .int lo])), (qn, .inl (cI, 366, .inl nd)), (qd, .inl (cI, 367, .inl dn)), (g, .inr (0, [.int se2, .int sh2, .int sp2, .int de2, .int (b2i b2), .ref rn, .ref rd, .ref rr, .ref rs, .int lo2])), (rn, .inl (cI, 366, .inl nd2)), (rd, .inl (cI, 367, .inl dn2))] (fun (_ : Unit) => True) (fun (_ : Unit) => [(h, .inr (0, [.int se2, .int sh2, .int sp2, .int de2, .int (b2i b2), .ref qn, .ref qd, .ref qr, .ref qs, .int lo])), (qn, .inl (cI, 366, .inl nd2)), (qd, .inl (cI, 367, .inl dn2)), (g, .inr (0, [.int se2, .int sh2, .int sp2, .int de2, .int (b2i b2), .ref rn, .ref rd, .ref rr, .ref rs, .int lo2])), (rn, .inl (cI, 366, .inl nd2)), (rd, .inl (cI, 367, .inl dn2))]) := by
  refine q_entV (own := RX0) rfl rfl (Nat.le_of_ble_eq_true rfl) ?_
  intro p e s m args below meth c A ls QQ hQ hE hx hb hr hk hin hA hl hst
  have hl : lv_has ls 2 [(0, .ref h), (1, .ref g)] := hl
  refine lv_aload_n hx hb dX0_copyJar_0 rfl (lv_at hl 0 rfl) ?_
  refine lv_aload_n hx hb dX0_copyJar_1 rfl (lv_at hl 1 rfl) ?_
  refine gf_X0_9 hE hst 3 rfl rfl dX0_copyJar_2 ?_
  refine pf_X0_9 hE hst 0 rfl (rfl) (rfl) (Nat.le_of_ble_eq_true rfl) [(h, .inr (0, [.int se2, .int sh, .int sp, .int de, .int po, .ref qn, .ref qd, .ref qr, .ref qs, .int lo])), (qn, .inl (cI, 366, .inl nd)), (qd, .inl (cI, 367, .inl dn)), (g, .inr (0, [.int se2, .int sh2, .int sp2, .int de2, .int (b2i b2), .ref rn, .ref rd, .ref rr, .ref rs, .int lo2])), (rn, .inl (cI, 366, .inl nd2)), (rd, .inl (cI, 367, .inl dn2))] rfl dX0_copyJar_5 (fun H locs hst => ?_)
  refine lv_aload_n hx hb dX0_copyJar_8 rfl (lv_at hl 0 rfl) ?_
  refine lv_aload_n hx hb dX0_copyJar_9 rfl (lv_at hl 1 rfl) ?_
  refine gf_X0_15 hE hst 3 rfl rfl dX0_copyJar_10 ?_
  refine pf_X0_15 hE hst 0 rfl (rfl) (rfl) (Nat.le_of_ble_eq_true rfl) [(h, .inr (0, [.int se2, .int sh2, .int sp, .int de, .int po, .ref qn, .ref qd, .ref qr, .ref qs, .int lo])), (qn, .inl (cI, 366, .inl nd)), (qd, .inl (cI, 367, .inl dn)), (g, .inr (0, [.int se2, .int sh2, .int sp2, .int de2, .int (b2i b2), .ref rn, .ref rd, .ref rr, .ref rs, .int lo2])), (rn, .inl (cI, 366, .inl nd2)), (rd, .inl (cI, 367, .inl dn2))] rfl dX0_copyJar_13 (fun H locs hst => ?_)
  refine lv_aload_n hx hb dX0_copyJar_16 rfl (lv_at hl 0 rfl) ?_
  refine lv_aload_n hx hb dX0_copyJar_17 rfl (lv_at hl 1 rfl) ?_
  refine gf_X0_18 hE hst 3 rfl rfl dX0_copyJar_18 ?_
  refine pf_X0_18 hE hst 0 rfl (rfl) (rfl) (Nat.le_of_ble_eq_true rfl) [(h, .inr (0, [.int se2, .int sh2, .int sp2, .int de, .int po, .ref qn, .ref qd, .ref qr, .ref qs, .int lo])), (qn, .inl (cI, 366, .inl nd)), (qd, .inl (cI, 367, .inl dn)), (g, .inr (0, [.int se2, .int sh2, .int sp2, .int de2, .int (b2i b2), .ref rn, .ref rd, .ref rr, .ref rs, .int lo2])), (rn, .inl (cI, 366, .inl nd2)), (rd, .inl (cI, 367, .inl dn2))] rfl dX0_copyJar_21 (fun H locs hst => ?_)
  refine lv_aload_n hx hb dX0_copyJar_24 rfl (lv_at hl 0 rfl) ?_
  refine lv_aload_n hx hb dX0_copyJar_25 rfl (lv_at hl 1 rfl) ?_
  refine gf_X0_21 hE hst 3 rfl rfl dX0_copyJar_26 ?_
  refine pf_X0_21 hE hst 0 rfl (rfl) (rfl) (Nat.le_of_ble_eq_true rfl) [(h, .inr (0, [.int se2, .int sh2, .int sp2, .int de2, .int po, .ref qn, .ref qd, .ref qr, .ref qs, .int lo])), (qn, .inl (cI, 366, .inl nd)), (qd, .inl (cI, 367, .inl dn)), (g, .inr (0, [.int se2, .int sh2, .int sp2, .int de2, .int (b2i b2), .ref rn, .ref rd, .ref rr, .ref rs, .int lo2])), (rn, .inl (cI, 366, .inl nd2)), (rd, .inl (cI, 367, .inl dn2))] rfl dX0_copyJar_29 (fun H locs hst => ?_)
  refine lv_aload_n hx hb dX0_copyJar_32 rfl (lv_at hl 0 rfl) ?_
  refine lv_aload_n hx hb dX0_copyJar_33 rfl (lv_at hl 1 rfl) ?_
  refine gf_X0_24 hE hst 3 rfl rfl dX0_copyJar_34 ?_
  refine pf_X0_24 hE hst 0 rfl (b2i_fits _) (b2i_nar _) (Nat.le_of_ble_eq_true rfl) [(h, .inr (0, [.int se2, .int sh2, .int sp2, .int de2, .int (b2i b2), .ref qn, .ref qd, .ref qr, .ref qs, .int lo])), (qn, .inl (cI, 366, .inl nd)), (qd, .inl (cI, 367, .inl dn)), (g, .inr (0, [.int se2, .int sh2, .int sp2, .int de2, .int (b2i b2), .ref rn, .ref rd, .ref rr, .ref rs, .int lo2])), (rn, .inl (cI, 366, .inl nd2)), (rd, .inl (cI, 367, .inl dn2))] rfl dX0_copyJar_37 (fun H locs hst => ?_)
  refine lv_aload_n hx hb dX0_copyJar_40 rfl (lv_at hl 1 rfl) ?_
  refine gf_X0_28 hE hst 3 rfl rfl dX0_copyJar_41 ?_
  refine lv_aload_n hx hb dX0_copyJar_44 rfl (lv_at hl 0 rfl) ?_
  refine gf_X0_28 hE hst 0 rfl rfl dX0_copyJar_45 ?_
  refine q_goV (q_rNS hE lk_X0_48 (c_X6_copyRow l D cI cJ cZ rn qn 366 nd2 nd (by first | assumption | decide | omega) H.size) hst [4, 1] rfl rfl rfl hl.1 ⟨(Nat.le_of_ble_eq_true rfl), (Nat.le_of_ble_eq_true rfl)⟩ (rest := []) rfl (Nat.le_of_ble_eq_true rfl) dX0_copyJar_48 ⟨(Nat.le_of_ble_eq_true rfl), (Nat.le_of_ble_eq_true rfl)⟩) hE hst [4, 1] rfl (fun _ => rfl) (fun (_ : Unit) => [(h, .inr (0, [.int se2, .int sh2, .int sp2, .int de2, .int (b2i b2), .ref qn, .ref qd, .ref qr, .ref qs, .int lo])), (qn, .inl (cI, 366, .inl nd2)), (qd, .inl (cI, 367, .inl dn)), (g, .inr (0, [.int se2, .int sh2, .int sp2, .int de2, .int (b2i b2), .ref rn, .ref rd, .ref rr, .ref rs, .int lo2])), (rn, .inl (cI, 366, .inl nd2)), (rd, .inl (cI, 367, .inl dn2))]) (fun _ => rfl) (fun _ H locs hF hst => ?_)
  refine lv_aload_n hx hb dX0_copyJar_51 rfl (lv_at hl 1 rfl) ?_
  refine gf_X0_32 hE hst 3 rfl rfl dX0_copyJar_52 ?_
  refine lv_aload_n hx hb dX0_copyJar_55 rfl (lv_at hl 0 rfl) ?_
  refine gf_X0_32 hE hst 0 rfl rfl dX0_copyJar_56 ?_
  refine q_goV (q_rNS hE lk_X0_48 (c_X6_copyRow l D cI cJ cZ rd qd 367 dn2 dn (by first | assumption | decide | omega) H.size) hst [5, 2] rfl rfl rfl hl.1 ⟨(Nat.le_of_ble_eq_true rfl), (Nat.le_of_ble_eq_true rfl)⟩ (rest := []) rfl (Nat.le_of_ble_eq_true rfl) dX0_copyJar_59 ⟨(Nat.le_of_ble_eq_true rfl), (Nat.le_of_ble_eq_true rfl)⟩) hE hst [5, 2] rfl (fun _ => rfl) (fun (_ : Unit) => [(h, .inr (0, [.int se2, .int sh2, .int sp2, .int de2, .int (b2i b2), .ref qn, .ref qd, .ref qr, .ref qs, .int lo])), (qn, .inl (cI, 366, .inl nd2)), (qd, .inl (cI, 367, .inl dn2)), (g, .inr (0, [.int se2, .int sh2, .int sp2, .int de2, .int (b2i b2), .ref rn, .ref rd, .ref rr, .ref rs, .int lo2])), (rn, .inl (cI, 366, .inl nd2)), (rd, .inl (cI, 367, .inl dn2))]) (fun _ => rfl) (fun _ H locs hF hst => ?_)
  exact q_retV hQ hE hr hk hst () (trivial) (rfl) dX0_copyJar_62
set_option maxHeartbeats 4000000 in
set_option maxRecDepth 100000 in
theorem c_X0_numberAt (l : Launch) (D : va_G) (cI cJ cZ : ClassId) (h : Nat) (qn : Nat) (qd : Nat) (qr : Nat) (qs : Nat) (se : Int32) (sh : Int32) (sp : Int32) (de : Int32) (po : Int32) (lo : Int32) (p0 : Int32) (nd : Nat → Int32) : CtI l D cI cJ cZ yX0_numberAt cX0_numberAt 2 (some .int) 1 [.ref h, .int p0] [(h, .inr (0, [.int se, .int sh, .int sp, .int de, .int po, .ref qn, .ref qd, .ref qr, .ref qs, .int lo])), (qn, .inl (cI, 366, .inl nd))] (fun (_ : Unit) => atI 366 nd p0) (fun (_ : Unit) => True) (fun (_ : Unit) => [(h, .inr (0, [.int se, .int sh, .int sp, .int de, .int po, .ref qn, .ref qd, .ref qr, .ref qs, .int lo])), (qn, .inl (cI, 366, .inl nd))]) := by
  refine q_entI (own := RX0) rfl rfl (Nat.le_of_ble_eq_true rfl) ?_
  intro p e s m args below meth c A ls QQ hQ hE hx hb hr hk hin hA hl hst
  have hl : lv_has ls 2 [(0, .ref h), (1, .int p0)] := hl
  refine lv_aload_n hx hb dX0_numberAt_0 rfl (lv_at hl 0 rfl) ?_
  refine gf_X0_28 hE hst 0 rfl rfl dX0_numberAt_1 ?_
  refine lv_iload_n hx hb dX0_numberAt_4 rfl (lv_at hl 1 rfl) ?_
  refine q_goI (q_rNS hE lk_X0_88 (c_X6_at l D cI cJ cZ qn 366 nd p0 (by first | assumption | decide | omega) s.heap.size) hst [1] rfl rfl rfl hl.1 ⟨(Nat.le_of_ble_eq_true rfl), (Nat.le_of_ble_eq_true rfl)⟩ (rest := []) rfl (Nat.le_of_ble_eq_true rfl) dX0_numberAt_5 ⟨(Nat.le_of_ble_eq_true rfl), (Nat.le_of_ble_eq_true rfl)⟩) hE hst [1] rfl (fun _ => rfl) (fun (_ : Unit) => [(h, .inr (0, [.int se, .int sh, .int sp, .int de, .int po, .ref qn, .ref qd, .ref qr, .ref qs, .int lo])), (qn, .inl (cI, 366, .inl nd))]) (fun _ => rfl) (fun _ H locs hF hst => ?_)
  exact q_retI hQ hE hr hk hst () (rfl) (trivial) (rfl) dX0_numberAt_8
set_option maxHeartbeats 4000000 in
set_option maxRecDepth 100000 in
theorem c_X0_dayAt (l : Launch) (D : va_G) (cI cJ cZ : ClassId) (h : Nat) (qn : Nat) (qd : Nat) (qr : Nat) (qs : Nat) (se : Int32) (sh : Int32) (sp : Int32) (de : Int32) (po : Int32) (lo : Int32) (p0 : Int32) (dn : Nat → Int32) : CtI l D cI cJ cZ yX0_dayAt cX0_dayAt 2 (some .int) 1 [.ref h, .int p0] [(h, .inr (0, [.int se, .int sh, .int sp, .int de, .int po, .ref qn, .ref qd, .ref qr, .ref qs, .int lo])), (qd, .inl (cI, 367, .inl dn))] (fun (_ : Unit) => atI 367 dn p0) (fun (_ : Unit) => True) (fun (_ : Unit) => [(h, .inr (0, [.int se, .int sh, .int sp, .int de, .int po, .ref qn, .ref qd, .ref qr, .ref qs, .int lo])), (qd, .inl (cI, 367, .inl dn))]) := by
  refine q_entI (own := RX0) rfl rfl (Nat.le_of_ble_eq_true rfl) ?_
  intro p e s m args below meth c A ls QQ hQ hE hx hb hr hk hin hA hl hst
  have hl : lv_has ls 2 [(0, .ref h), (1, .int p0)] := hl
  refine lv_aload_n hx hb dX0_dayAt_0 rfl (lv_at hl 0 rfl) ?_
  refine gf_X0_32 hE hst 0 rfl rfl dX0_dayAt_1 ?_
  refine lv_iload_n hx hb dX0_dayAt_4 rfl (lv_at hl 1 rfl) ?_
  refine q_goI (q_rNS hE lk_X0_88 (c_X6_at l D cI cJ cZ qd 367 dn p0 (by first | assumption | decide | omega) s.heap.size) hst [1] rfl rfl rfl hl.1 ⟨(Nat.le_of_ble_eq_true rfl), (Nat.le_of_ble_eq_true rfl)⟩ (rest := []) rfl (Nat.le_of_ble_eq_true rfl) dX0_dayAt_5 ⟨(Nat.le_of_ble_eq_true rfl), (Nat.le_of_ble_eq_true rfl)⟩) hE hst [1] rfl (fun _ => rfl) (fun (_ : Unit) => [(h, .inr (0, [.int se, .int sh, .int sp, .int de, .int po, .ref qn, .ref qd, .ref qr, .ref qs, .int lo])), (qd, .inl (cI, 367, .inl dn))]) (fun _ => rfl) (fun _ H locs hF hst => ?_)
  exact q_retI hQ hE hr hk hst () (rfl) (trivial) (rfl) dX0_dayAt_8
set_option maxHeartbeats 4000000 in
set_option maxRecDepth 100000 in
theorem c_X0_monthSum (l : Launch) (D : va_G) (cI cJ cZ : ClassId) (h : Nat) (qn : Nat) (qd : Nat) (qr : Nat) (qs : Nat) (se : Int32) (sh : Int32) (sp : Int32) (de : Int32) (po : Int32) (lo : Int32) (mo : Nat) (nd : Nat → Int32) (hm : mo < 12) : CtI l D cI cJ cZ yX0_monthSum cX0_monthSum 4 (some .int) 2 [.ref h, .int (nI mo)] [(h, .inr (0, [.int se, .int sh, .int sp, .int de, .int po, .ref qn, .ref qd, .ref qr, .ref qs, .int lo])), (qn, .inl (cI, 366, .inl nd))] (fun (_ : Unit) => monS nd mo) (fun (_ : Unit) => True) (fun (_ : Unit) => [(h, .inr (0, [.int se, .int sh, .int sp, .int de, .int po, .ref qn, .ref qd, .ref qr, .ref qs, .int lo])), (qn, .inl (cI, 366, .inl nd))]) := by
  refine q_entI (own := RX0) rfl rfl (Nat.le_of_ble_eq_true rfl) ?_
  intro p e s m args below meth c A ls QQ hQ hE hx hb hr hk hin hA hl hst
  have hl : lv_has ls 4 [(0, .ref h), (1, .int (nI mo))] := hl
  have hml := mln_ok mo hm
  have hms := (mst_ok (mo + 1) (by omega)).2
  have loop_10 : ∀ (n : Nat) (i : Nat), (i ≤ mln mo) → (mln mo - i) < n → ∀ (H : Heap) (locs : List Loc) (ls : Array Slot), SS D A s [(h, .inr (0, [.int se, .int sh, .int sp, .int de, .int po, .ref qn, .ref qd, .ref qr, .ref qs, .int lo])), (qn, .inl (cI, 366, .inl nd))] H locs → lv_has ls 4 [(3, .int (nI (mst mo + i))), (2, .int (sumR nd i (mst mo))), (0, .ref h), (1, .int (nI mo))] → W p l e (rmN 2 0 0) s m args below meth c H locs 0 0 QQ (F0 m 10 ls []) := by
    intro n
    induction n with
    | zero =>
      intro i h1 hn
      exact absurd hn (Nat.not_lt_zero _)
    | succ n ih =>
      intro i h1 hn H locs ls hst hl
      refine lv_iload_n hx hb dX0_monthSum_10 rfl (lv_at hl 0 rfl) ?_
      refine q_getsN hE hst hE.2.2.1.2.1 wk_2_133 dX0_monthSum_11 (fun tb_11 hT_11 => ?_)
      refine lv_iload_n hx hb dX0_monthSum_14 rfl (lv_at hl 3 rfl) ?_
      refine lv_iconst (v := 1) hx hb dX0_monthSum_15 (by decide) ?_
      refine lv_iadd hx hb dX0_monthSum_16 ?_
      refine q_top (x' := nI (mo + 1)) (nI_1 _) ?_
      refine q_tabN hE lk_X0_88 hst hT_11 (by decide) hl.1 ⟨(Nat.le_of_ble_eq_true rfl), (Nat.le_of_ble_eq_true rfl)⟩ (Nat.le_of_ble_eq_true rfl) ⟨(Nat.le_of_ble_eq_true rfl), (Nat.le_of_ble_eq_true rfl)⟩ dX0_monthSum_17 (fun H locs hst => ?_)
      refine q_top (x' := nI (mst mo + mln mo)) (by rw [ms_at (by omega), hml.1]) ?_
      refine lv_icmp_ge (tgt := 37) hx hb dX0_monthSum_20 (by decide) (fun c_20 => ?_) (fun c_20 => ?_)
      · skip
        have hk1 : i = mln mo := Nat.le_antisymm h1 (Nat.le_of_not_lt (fun z => nI_ge (a := mst mo + i) (b := mst mo + mln mo) (by omega) (by omega) c_20))
        refine lv_iload_n hx hb dX0_monthSum_37 rfl (lv_at hl 1 rfl) ?_
        exact q_retI hQ hE hr hk hst () (by rw [hk1]; rfl) (trivial) (rfl) dX0_monthSum_38
      · skip
        have hk1 : i < mln mo := Nat.lt_of_not_le (fun z => c_20 (nI_le (by omega) (by omega)))
        refine lv_iload_n hx hb dX0_monthSum_23 rfl (lv_at hl 1 rfl) ?_
        refine lv_aload_n hx hb dX0_monthSum_24 rfl (lv_at hl 2 rfl) ?_
        refine lv_iload_n hx hb dX0_monthSum_25 rfl (lv_at hl 0 rfl) ?_
        refine q_goI (q_rV hE lk_X0_104 (c_X0_numberAt l D cI cJ cZ h qn qd qr qs se sh sp de po lo (nI (mst mo + i)) nd H.size) hst [0, 1] rfl rfl rfl rfl rfl hl.1 ⟨(Nat.le_of_ble_eq_true rfl), (Nat.le_of_ble_eq_true rfl)⟩ (rest := [.int (sumR nd i (mst mo))]) rfl (Nat.le_of_ble_eq_true rfl) dX0_monthSum_26 ⟨(Nat.le_of_ble_eq_true rfl), (Nat.le_of_ble_eq_true rfl)⟩) hE hst [0, 1] rfl (fun _ => rfl) (fun (_ : Unit) => [(h, .inr (0, [.int se, .int sh, .int sp, .int de, .int po, .ref qn, .ref qd, .ref qr, .ref qs, .int lo])), (qn, .inl (cI, 366, .inl nd))]) (fun _ => rfl) (fun _ H locs hF hst => ?_)
        refine q_top (x' := nd (mst mo + i)) (atI_n (by omega) (by decide)) ?_
        refine lv_iadd hx hb dX0_monthSum_29 ?_
        refine lv_istore_n (lv' := [(2, .int ((sumR nd i (mst mo)) + (nd (mst mo + i)))), (3, .int (nI (mst mo + i))), (0, .ref h), (1, .int (nI mo))]) hx hb dX0_monthSum_30 rfl hl (by decide) rfl (fun ls hl => ?_)
        refine lv_iinc (v := nI ((mst mo + i) + 1)) (lv' := [(3, .int (nI ((mst mo + i) + 1))), (2, .int ((sumR nd i (mst mo)) + (nd (mst mo + i)))), (0, .ref h), (1, .int (nI mo))]) hx hb dX0_monthSum_31 hl (k := 1) rfl (nI_next _) (by decide) rfl (fun ls hl => ?_)
        refine lv_goto (tgt := 10) hx hb dX0_monthSum_34 (by decide) ?_
        exact ih (i + 1) (by omega) (by omega) _ _ _ (hst) (lv_sub hl [0, 1, 2, 3] rfl)
  refine lv_iconst (v := 0) hx hb dX0_monthSum_0 (by decide) ?_
  refine lv_istore_n (lv' := [(2, .int 0), (0, .ref h), (1, .int (nI mo))]) hx hb dX0_monthSum_1 rfl hl (by decide) rfl (fun ls hl => ?_)
  refine q_getsN hE hst hE.2.2.1.2.1 wk_2_133 dX0_monthSum_2 (fun tb_2 hT_2 => ?_)
  refine lv_iload_n hx hb dX0_monthSum_5 rfl (lv_at hl 2 rfl) ?_
  refine q_tabN hE lk_X0_88 hst hT_2 (by decide) hl.1 ⟨(Nat.le_of_ble_eq_true rfl), (Nat.le_of_ble_eq_true rfl)⟩ (Nat.le_of_ble_eq_true rfl) ⟨(Nat.le_of_ble_eq_true rfl), (Nat.le_of_ble_eq_true rfl)⟩ dX0_monthSum_6 (fun H locs hst => ?_)
  refine q_top (x' := nI (mst mo)) (ms_at (by omega)) ?_
  refine lv_istore_n (lv' := [(3, .int (nI (mst mo))), (2, .int 0), (0, .ref h), (1, .int (nI mo))]) hx hb dX0_monthSum_9 rfl hl (by decide) rfl (fun ls hl => ?_)
  exact loop_10 (mln mo + 1) 0 (Nat.zero_le _) (by omega) _ _ _ (hst) (lv_sub hl [0, 1, 2, 3] rfl)
set_option maxHeartbeats 4000000 in
set_option maxRecDepth 100000 in
theorem c_X0_leaning (l : Launch) (D : va_G) (cI cJ cZ : ClassId) (h : Nat) (qn : Nat) (qd : Nat) (qr : Nat) (qs : Nat) (se : Int32) (sh : Int32) (sp : Int32) (de : Int32) (po : Int32) (lo : Int32) (nd : Nat → Int32) : CtL l D cI cJ cZ yX0_leaning cX0_leaning 4 (some .long) 2 [.ref h] [(h, .inr (0, [.int se, .int sh, .int sp, .int de, .int po, .ref qn, .ref qd, .ref qr, .ref qs, .int lo])), (qn, .inl (cI, 366, .inl nd))] (fun (_ : Unit) => leaL nd 366) (fun (_ : Unit) => True) (fun (_ : Unit) => [(h, .inr (0, [.int se, .int sh, .int sp, .int de, .int po, .ref qn, .ref qd, .ref qr, .ref qs, .int lo])), (qn, .inl (cI, 366, .inl nd))]) := by
  refine q_entL (own := RX0) rfl rfl (Nat.le_of_ble_eq_true rfl) ?_
  intro p e s m args below meth c A ls QQ hQ hE hx hb hr hk hin hA hl hst
  have hl : lv_has ls 4 [(0, .ref h)] := hl
  have loop_4 : ∀ (n : Nat) (k : Nat), (k ≤ 366) → (366 - k) < n → ∀ (H : Heap) (locs : List Loc) (ls : Array Slot), SS D A s [(h, .inr (0, [.int se, .int sh, .int sp, .int de, .int po, .ref qn, .ref qd, .ref qr, .ref qs, .int lo])), (qn, .inl (cI, 366, .inl nd))] H locs → lv_has ls 4 [(3, .int (nI k)), (1, .long (leaL nd k)), (0, .ref h)] → W p l e (rmN 2 0 0) s m args below meth c H locs 0 0 QQ (F0 m 4 ls []) := by
    intro n
    induction n with
    | zero =>
      intro k h1 hn
      exact absurd hn (Nat.not_lt_zero _)
    | succ n ih =>
      intro k h1 hn H locs ls hst hl
      refine lv_iload_n hx hb dX0_leaning_4 rfl (lv_at hl 0 rfl) ?_
      refine lv_sipush (v := 366) hx hb dX0_leaning_5 (by decide) ?_
      refine lv_icmp_ge (tgt := 45) hx hb dX0_leaning_8 (by decide) (fun c_8 => ?_) (fun c_8 => ?_)
      · skip
        have hk1 : k = 366 := Nat.le_antisymm h1 (Nat.le_of_not_lt (fun z => nI_ge z (by decide) c_8))
        subst hk1
        refine lv_lload_n hx hb dX0_leaning_45 rfl (lv_at hl 1 rfl) ?_
        exact q_retL hQ hE hr hk hst () (rfl) (trivial) (rfl) dX0_leaning_46
      · skip
        have hk1 : k < 366 := Nat.lt_of_not_le (fun z => c_8 (nI_le z (by omega)))
        refine lv_lload_n hx hb dX0_leaning_11 rfl (lv_at hl 1 rfl) ?_
        refine q_ldc2 hE wk_2_163 dX0_leaning_12 ?_
        refine lv_iload_n hx hb dX0_leaning_15 rfl (lv_at hl 0 rfl) ?_
        refine lv_i2l (v := (nI k).toInt64) hx hb dX0_leaning_16 rfl ?_
        refine lv_lmul hx hb dX0_leaning_17 ?_
        refine q_ldc2 hE wk_2_164 dX0_leaning_18 ?_
        refine lv_lsub hx hb dX0_leaning_21 ?_
        refine q_ldc2 hE wk_2_163 dX0_leaning_22 ?_
        refine lv_aload_n hx hb dX0_leaning_25 rfl (lv_at hl 2 rfl) ?_
        refine lv_iload_n hx hb dX0_leaning_26 rfl (lv_at hl 0 rfl) ?_
        refine q_goI (q_rV hE lk_X0_104 (c_X0_numberAt l D cI cJ cZ h qn qd qr qs se sh sp de po lo (nI k) nd H.size) hst [0, 1] rfl rfl rfl rfl rfl hl.1 ⟨(Nat.le_of_ble_eq_true rfl), (Nat.le_of_ble_eq_true rfl)⟩ (rest := [.long 2, .long ((2 * ((nI k).toInt64)) - 365), .long (leaL nd k)]) rfl (Nat.le_of_ble_eq_true rfl) dX0_leaning_27 ⟨(Nat.le_of_ble_eq_true rfl), (Nat.le_of_ble_eq_true rfl)⟩) hE hst [0, 1] rfl (fun _ => rfl) (fun (_ : Unit) => [(h, .inr (0, [.int se, .int sh, .int sp, .int de, .int po, .ref qn, .ref qd, .ref qr, .ref qs, .int lo])), (qn, .inl (cI, 366, .inl nd))]) (fun _ => rfl) (fun _ H locs hF hst => ?_)
        refine q_top (x' := nd k) (atI_n hk1 (by decide)) ?_
        refine lv_i2l (v := (nd k).toInt64) hx hb dX0_leaning_30 rfl ?_
        refine lv_lmul hx hb dX0_leaning_31 ?_
        refine q_ldc2 hE wk_2_165 dX0_leaning_32 ?_
        refine lv_lsub hx hb dX0_leaning_35 ?_
        refine lv_lmul hx hb dX0_leaning_36 ?_
        refine lv_ladd hx hb dX0_leaning_37 ?_
        refine lv_lstore_n (lv' := [(1, .long ((leaL nd k) + (((2 * ((nI k).toInt64)) - 365) * ((2 * ((nd k).toInt64)) - 367)))), (3, .int (nI k)), (0, .ref h)]) hx hb dX0_leaning_38 rfl hl (by decide) rfl (fun ls hl => ?_)
        refine lv_iinc (v := nI (k + 1)) (lv' := [(3, .int (nI (k + 1))), (1, .long ((leaL nd k) + (((2 * ((nI k).toInt64)) - 365) * ((2 * ((nd k).toInt64)) - 367)))), (0, .ref h)]) hx hb dX0_leaning_39 hl (k := 1) rfl (nI_next _) (by decide) rfl (fun ls hl => ?_)
        refine lv_goto (tgt := 4) hx hb dX0_leaning_42 (by decide) ?_
        exact ih (k + 1) (by omega) (by omega) _ _ _ (hst) (lv_sub hl [0, 1, 2] rfl)
  refine lv_lconst (v := 0) hx hb dX0_leaning_0 (by decide) ?_
  refine lv_lstore_n (lv' := [(1, .long 0), (0, .ref h)]) hx hb dX0_leaning_1 rfl hl (by decide) rfl (fun ls hl => ?_)
  refine lv_iconst (v := 0) hx hb dX0_leaning_2 (by decide) ?_
  refine lv_istore_n (lv' := [(3, .int 0), (1, .long 0), (0, .ref h)]) hx hb dX0_leaning_3 rfl hl (by decide) rfl (fun ls hl => ?_)
  exact loop_4 (367) 0 (by decide) (by decide) _ _ _ (hst) (lv_sub hl [0, 1, 2] rfl)
set_option maxHeartbeats 4000000 in
set_option maxRecDepth 100000 in
theorem c_X0_monthDistance (l : Launch) (D : va_G) (cI cJ cZ : ClassId) (h : Nat) (qn : Nat) (qd : Nat) (qr : Nat) (qs : Nat) (se : Int32) (sh : Int32) (sp : Int32) (de : Int32) (po : Int32) (lo : Int32) (mo : Nat) (nd : Nat → Int32) (hm : mo < 12) : CtL l D cI cJ cZ yX0_monthDistance cX0_monthDistance 2 (some .long) 3 [.ref h, .int (nI mo)] [(h, .inr (0, [.int se, .int sh, .int sp, .int de, .int po, .ref qn, .ref qd, .ref qr, .ref qs, .int lo])), (qn, .inl (cI, 366, .inl nd))] (fun (_ : Unit) => monD nd mo) (fun (_ : Unit) => True) (fun (_ : Unit) => [(h, .inr (0, [.int se, .int sh, .int sp, .int de, .int po, .ref qn, .ref qd, .ref qr, .ref qs, .int lo])), (qn, .inl (cI, 366, .inl nd))]) := by
  refine q_entL (own := RX0) rfl rfl (Nat.le_of_ble_eq_true rfl) ?_
  intro p e s m args below meth c A ls QQ hQ hE hx hb hr hk hin hA hl hst
  have hl : lv_has ls 2 [(0, .ref h), (1, .int (nI mo))] := hl
  refine q_ldc2 hE wk_2_163 dX0_monthDistance_0 ?_
  refine lv_aload_n hx hb dX0_monthDistance_3 rfl (lv_at hl 0 rfl) ?_
  refine lv_iload_n hx hb dX0_monthDistance_4 rfl (lv_at hl 1 rfl) ?_
  refine q_goI (q_rV hE lk_X0_120 (c_X0_monthSum l D cI cJ cZ h qn qd qr qs se sh sp de po lo mo nd (by first | assumption | decide | omega) s.heap.size) hst [0, 1] rfl rfl rfl rfl rfl hl.1 ⟨(Nat.le_of_ble_eq_true rfl), (Nat.le_of_ble_eq_true rfl)⟩ (rest := [.long 2]) rfl (Nat.le_of_ble_eq_true rfl) dX0_monthDistance_5 ⟨(Nat.le_of_ble_eq_true rfl), (Nat.le_of_ble_eq_true rfl)⟩) hE hst [0, 1] rfl (fun _ => rfl) (fun (_ : Unit) => [(h, .inr (0, [.int se, .int sh, .int sp, .int de, .int po, .ref qn, .ref qd, .ref qr, .ref qs, .int lo])), (qn, .inl (cI, 366, .inl nd))]) (fun _ => rfl) (fun _ H locs hF hst => ?_)
  refine lv_i2l (v := (monS nd mo).toInt64) hx hb dX0_monthDistance_8 rfl ?_
  refine lv_lmul hx hb dX0_monthDistance_9 ?_
  refine q_ldc2 hE wk_2_165 dX0_monthDistance_10 ?_
  refine lv_iload_n hx hb dX0_monthDistance_13 rfl (lv_at hl 1 rfl) ?_
  refine q_goI (q_rNS hE lk_X0_117 (c_X6_monthLength l D cI cJ cZ (nI mo) H.size) hst [] rfl rfl rfl hl.1 ⟨(Nat.le_of_ble_eq_true rfl), (Nat.le_of_ble_eq_true rfl)⟩ (rest := [.long 367, .long (2 * ((monS nd mo).toInt64))]) rfl (Nat.le_of_ble_eq_true rfl) dX0_monthDistance_14 ⟨(Nat.le_of_ble_eq_true rfl), (Nat.le_of_ble_eq_true rfl)⟩) hE hst [] rfl (fun _ => rfl) (fun (_ : Unit) => [(h, .inr (0, [.int se, .int sh, .int sp, .int de, .int po, .ref qn, .ref qd, .ref qr, .ref qs, .int lo])), (qn, .inl (cI, 366, .inl nd))]) (fun _ => rfl) (fun _ H locs hF hst => ?_)
  refine q_top (x' := nI (mln mo)) (ml_at hm) ?_
  refine lv_i2l (v := (nI (mln mo)).toInt64) hx hb dX0_monthDistance_17 rfl ?_
  refine lv_lmul hx hb dX0_monthDistance_18 ?_
  refine lv_lsub hx hb dX0_monthDistance_19 ?_
  refine q_abs hE wk_2_180 hl.1 (Nat.le_of_ble_eq_true rfl) (Nat.le_of_ble_eq_true rfl) (Nat.le_of_ble_eq_true rfl) (Nat.le_of_ble_eq_true rfl) dX0_monthDistance_20 ?_
  exact q_retL hQ hE hr hk hst () (rfl) (trivial) (rfl) dX0_monthDistance_23
set_option maxHeartbeats 4000000 in
set_option maxRecDepth 100000 in
theorem c_X0_worstMonth (l : Launch) (D : va_G) (cI cJ cZ : ClassId) (h : Nat) (qn : Nat) (qd : Nat) (qr : Nat) (qs : Nat) (se : Int32) (sh : Int32) (sp : Int32) (de : Int32) (po : Int32) (lo : Int32) (nd : Nat → Int32) : CtI l D cI cJ cZ yX0_worstMonth cX0_worstMonth 3 (some .int) 4 [.ref h] [(h, .inr (0, [.int se, .int sh, .int sp, .int de, .int po, .ref qn, .ref qd, .ref qr, .ref qs, .int lo])), (qn, .inl (cI, 366, .inl nd))] (fun (_ : Unit) => nI (wor nd 11)) (fun (_ : Unit) => True) (fun (_ : Unit) => [(h, .inr (0, [.int se, .int sh, .int sp, .int de, .int po, .ref qn, .ref qd, .ref qr, .ref qs, .int lo])), (qn, .inl (cI, 366, .inl nd))]) := by
  refine q_entI (own := RX0) rfl rfl (Nat.le_of_ble_eq_true rfl) ?_
  intro p e s m args below meth c A ls QQ hQ hE hx hb hr hk hin hA hl hst
  have hl : lv_has ls 3 [(0, .ref h)] := hl
  have loop_4 : ∀ (n : Nat) (k : Nat), (k ≤ 11) → (11 - k) < n → ∀ (H : Heap) (locs : List Loc) (ls : Array Slot), SS D A s [(h, .inr (0, [.int se, .int sh, .int sp, .int de, .int po, .ref qn, .ref qd, .ref qr, .ref qs, .int lo])), (qn, .inl (cI, 366, .inl nd))] H locs → lv_has ls 3 [(2, .int (nI (k + 1))), (1, .int (nI (wor nd k))), (0, .ref h)] → W p l e (rmN 4 0 0) s m args below meth c H locs 0 0 QQ (F0 m 4 ls []) := by
    intro n
    induction n with
    | zero =>
      intro k h1 hn
      exact absurd hn (Nat.not_lt_zero _)
    | succ n ih =>
      intro k h1 hn H locs ls hst hl
      have hw := wor_le nd k
      refine lv_iload_n hx hb dX0_worstMonth_4 rfl (lv_at hl 0 rfl) ?_
      refine lv_bipush (v := 12) hx hb dX0_worstMonth_5 (by decide) ?_
      refine lv_icmp_ge (tgt := 44) hx hb dX0_worstMonth_7 (by decide) (fun c_7 => ?_) (fun c_7 => ?_)
      · skip
        have hk1 : k = 11 := Nat.le_antisymm h1 (Nat.le_of_not_lt (fun z => nI_ge (a := k + 1) (b := 12) (by omega) (by decide) c_7))
        subst hk1
        refine lv_iload_n hx hb dX0_worstMonth_44 rfl (lv_at hl 1 rfl) ?_
        exact q_retI hQ hE hr hk hst () (rfl) (trivial) (rfl) dX0_worstMonth_45
      · skip
        have hk1 : k < 11 := Nat.lt_of_not_le (fun z => c_7 (nI_le (a := 12) (b := k + 1) (by omega) (by omega)))
        refine lv_aload_n hx hb dX0_worstMonth_10 rfl (lv_at hl 2 rfl) ?_
        refine lv_iload_n hx hb dX0_worstMonth_11 rfl (lv_at hl 0 rfl) ?_
        refine q_goL (q_rV hE lk_X0_113 (c_X0_monthDistance l D cI cJ cZ h qn qd qr qs se sh sp de po lo (k + 1) nd (by omega) H.size) hst [0, 1] rfl rfl rfl rfl rfl hl.1 ⟨(Nat.le_of_ble_eq_true rfl), (Nat.le_of_ble_eq_true rfl)⟩ (rest := []) rfl (Nat.le_of_ble_eq_true rfl) dX0_worstMonth_12 ⟨(Nat.le_of_ble_eq_true rfl), (Nat.le_of_ble_eq_true rfl)⟩) hE hst [0, 1] rfl (fun _ => rfl) (fun (_ : Unit) => [(h, .inr (0, [.int se, .int sh, .int sp, .int de, .int po, .ref qn, .ref qd, .ref qr, .ref qs, .int lo])), (qn, .inl (cI, 366, .inl nd))]) (fun _ => rfl) (fun _ H locs hF hst => ?_)
        refine lv_iload_n hx hb dX0_worstMonth_15 rfl (lv_at hl 1 rfl) ?_
        refine q_goI (q_rNS hE lk_X0_117 (c_X6_monthLength l D cI cJ cZ (nI (wor nd k)) H.size) hst [] rfl rfl rfl hl.1 ⟨(Nat.le_of_ble_eq_true rfl), (Nat.le_of_ble_eq_true rfl)⟩ (rest := [.long (monD nd (k + 1))]) rfl (Nat.le_of_ble_eq_true rfl) dX0_worstMonth_16 ⟨(Nat.le_of_ble_eq_true rfl), (Nat.le_of_ble_eq_true rfl)⟩) hE hst [] rfl (fun _ => rfl) (fun (_ : Unit) => [(h, .inr (0, [.int se, .int sh, .int sp, .int de, .int po, .ref qn, .ref qd, .ref qr, .ref qs, .int lo])), (qn, .inl (cI, 366, .inl nd))]) (fun _ => rfl) (fun _ H locs hF hst => ?_)
        refine q_top (x' := nI (mln (wor nd k))) (ml_at (by omega)) ?_
        refine lv_i2l (v := (nI (mln (wor nd k))).toInt64) hx hb dX0_worstMonth_19 rfl ?_
        refine lv_lmul hx hb dX0_worstMonth_20 ?_
        refine lv_aload_n hx hb dX0_worstMonth_21 rfl (lv_at hl 2 rfl) ?_
        refine lv_iload_n hx hb dX0_worstMonth_22 rfl (lv_at hl 1 rfl) ?_
        refine q_goL (q_rV hE lk_X0_113 (c_X0_monthDistance l D cI cJ cZ h qn qd qr qs se sh sp de po lo (wor nd k) nd (by omega) H.size) hst [0, 1] rfl rfl rfl rfl rfl hl.1 ⟨(Nat.le_of_ble_eq_true rfl), (Nat.le_of_ble_eq_true rfl)⟩ (rest := [.long ((monD nd (k + 1)) * ((nI (mln (wor nd k))).toInt64))]) rfl (Nat.le_of_ble_eq_true rfl) dX0_worstMonth_23 ⟨(Nat.le_of_ble_eq_true rfl), (Nat.le_of_ble_eq_true rfl)⟩) hE hst [0, 1] rfl (fun _ => rfl) (fun (_ : Unit) => [(h, .inr (0, [.int se, .int sh, .int sp, .int de, .int po, .ref qn, .ref qd, .ref qr, .ref qs, .int lo])), (qn, .inl (cI, 366, .inl nd))]) (fun _ => rfl) (fun _ H locs hF hst => ?_)
        refine lv_iload_n hx hb dX0_worstMonth_26 rfl (lv_at hl 0 rfl) ?_
        refine q_goI (q_rNS hE lk_X0_117 (c_X6_monthLength l D cI cJ cZ (nI (k + 1)) H.size) hst [] rfl rfl rfl hl.1 ⟨(Nat.le_of_ble_eq_true rfl), (Nat.le_of_ble_eq_true rfl)⟩ (rest := [.long (monD nd (wor nd k)), .long ((monD nd (k + 1)) * ((nI (mln (wor nd k))).toInt64))]) rfl (Nat.le_of_ble_eq_true rfl) dX0_worstMonth_27 ⟨(Nat.le_of_ble_eq_true rfl), (Nat.le_of_ble_eq_true rfl)⟩) hE hst [] rfl (fun _ => rfl) (fun (_ : Unit) => [(h, .inr (0, [.int se, .int sh, .int sp, .int de, .int po, .ref qn, .ref qd, .ref qr, .ref qs, .int lo])), (qn, .inl (cI, 366, .inl nd))]) (fun _ => rfl) (fun _ H locs hF hst => ?_)
        refine q_top (x' := nI (mln (k + 1))) (ml_at (by omega)) ?_
        refine lv_i2l (v := (nI (mln (k + 1))).toInt64) hx hb dX0_worstMonth_30 rfl ?_
        refine lv_lmul hx hb dX0_worstMonth_31 ?_
        refine W.lcmp hx hb dX0_worstMonth_32 ?_
        refine lv_if_le (tgt := 38) hx hb dX0_worstMonth_33 (by decide) (fun c_33 => ?_) (fun c_33 => ?_)
        · skip
          have c_33 := lc_le.mp c_33
          have ew : wor nd (k + 1) = wor nd k := by rw [wor, if_pos c_33]
          have hl : lv_has ls 3 [(2, .int (nI (k + 1))), (1, .int (nI (wor nd (k + 1)))), (0, .ref h)] := by rw [ew]; exact hl
          refine lv_iinc (v := nI ((k + 1) + 1)) (lv' := [(2, .int (nI ((k + 1) + 1))), (1, .int (nI (wor nd (k + 1)))), (0, .ref h)]) hx hb dX0_worstMonth_38 hl (k := 0) rfl (nI_next _) (by decide) rfl (fun ls hl => ?_)
          refine lv_goto (tgt := 4) hx hb dX0_worstMonth_41 (by decide) ?_
          exact ih (k + 1) (by omega) (by omega) _ _ _ (hst) (lv_sub hl [0, 1, 2] rfl)
        · skip
          have c_33 := (not_congr lc_le).mp c_33
          have ew : wor nd (k + 1) = k + 1 := by rw [wor, if_neg c_33]
          refine lv_iload_n hx hb dX0_worstMonth_36 rfl (lv_at hl 0 rfl) ?_
          refine lv_istore_n (lv' := [(1, .int (nI (k + 1))), (2, .int (nI (k + 1))), (0, .ref h)]) hx hb dX0_worstMonth_37 rfl hl (by decide) rfl (fun ls hl => ?_)
          have hl : lv_has ls 3 [(1, .int (nI (wor nd (k + 1)))), (2, .int (nI (k + 1))), (0, .ref h)] := by rw [ew]; exact hl
          refine lv_iinc (v := nI ((k + 1) + 1)) (lv' := [(2, .int (nI ((k + 1) + 1))), (1, .int (nI (wor nd (k + 1)))), (0, .ref h)]) hx hb dX0_worstMonth_38 hl (k := 1) rfl (nI_next _) (by decide) rfl (fun ls hl => ?_)
          refine lv_goto (tgt := 4) hx hb dX0_worstMonth_41 (by decide) ?_
          exact ih (k + 1) (by omega) (by omega) _ _ _ (hst) (lv_sub hl [0, 1, 2] rfl)
  refine lv_iconst (v := 0) hx hb dX0_worstMonth_0 (by decide) ?_
  refine lv_istore_n (lv' := [(1, .int 0), (0, .ref h)]) hx hb dX0_worstMonth_1 rfl hl (by decide) rfl (fun ls hl => ?_)
  refine lv_iconst (v := 1) hx hb dX0_worstMonth_2 (by decide) ?_
  refine lv_istore_n (lv' := [(2, .int 1), (1, .int 0), (0, .ref h)]) hx hb dX0_worstMonth_3 rfl hl (by decide) rfl (fun ls hl => ?_)
  exact loop_4 (12) 0 (by decide) (by decide) _ _ _ (hst) (lv_sub hl [0, 1, 2] rfl)
