/-! the reference: a jar made, poured; the image -/
theorem ck_jar {seF seF2 : Nat → Int32} {kF spF deF kF2 spF2 deF2 : Nat → Nat} {pF pF2 : Nat → Bool} {nm dz : Nat → Int32} {j0 : Nat} (h : ckM seF kF spF deF pF nm dz) (e : ∀ j, j ≠ j0 → seF2 j = seF j ∧ kF2 j = kF j ∧ spF2 j = spF j ∧ deF2 j = deF j ∧ pF2 j = pF j) : ckM seF2 kF2 spF2 deF2 pF2 nm (upd dz j0 0) :=
  ck_new h (fun j hj => by obtain ⟨e1, e2, e3, e4, e5⟩ := e j hj; rw [ndM, ndM, e1, e2, e3, e4, e5])
theorem updN_n {r : Nat → Nat} {j v x : Nat} (h : x ≠ j) : updN r j v x = r x := if_neg h
theorem updB_n {r : Nat → Bool} {j x : Nat} {v : Bool} (h : x ≠ j) : updB r j v x = r x := if_neg h
theorem updI_n {r : Nat → Int32} {j x : Nat} {v : Int32} (h : x ≠ j) : upd r j v x = r x := if_neg h
theorem jo_jar {kF spF deF : Nat → Nat} {j0 a b c : Nat} (h : joM kF spF deF) (ha : a ≤ 2000) (hb : b ≤ 365) (hc : 1 ≤ c) (hd : c ≤ 366) : joM (updN kF j0 a) (updN spF j0 b) (updN deF j0 c) := by
  intro j hj
  unfold updN
  by_cases e : j = j0
  · rw [if_pos e, if_pos e, if_pos e]; exact ⟨ha, hb, hc, hd⟩
  · rw [if_neg e, if_neg e, if_neg e]; exact h j hj
def segK (f g : Nat → Int32) (c m : Nat) : Nat → Int32 := fun x => if c ≤ x ∧ x < c + m then g (x - c) else f x
theorem segK_0 (f g : Nat → Int32) (c : Nat) : segK f g c 0 = f := by funext x; unfold segK; rw [if_neg (by omega)]
theorem segK_s (f g : Nat → Int32) (c k : Nat) : upd (segK f g c k) (c + k) (g k) = segK f g c (k + 1) := by
  funext x
  unfold upd segK
  by_cases e : x = c + k
  · rw [if_pos e, if_pos (by omega), e, show c + k - c = k by omega]
  · rw [if_neg e]
    by_cases h : c ≤ x ∧ x < c + k
    · rw [if_pos h, if_pos (by omega)]
    · rw [if_neg h, if_neg (by omega)]
theorem segK_in {f g : Nat → Int32} {c m i : Nat} (h : i < m) : segK f g c m (c + i) = g i := by
  unfold segK; rw [if_pos (by omega), show c + i - c = i by omega]
theorem segK_out {f g : Nat → Int32} {c m x : Nat} (h : x < c ∨ c + m ≤ x) : segK f g c m x = f x := by
  unfold segK; rw [if_neg (by omega)]
def bakK (f g : Nat → Int32) (c m : Nat) : Nat → Int32 := fun x => if x < m then f (c + x) else g x
theorem bakK_0 (f g : Nat → Int32) (c : Nat) : bakK f g c 0 = g := by funext x; unfold bakK; rw [if_neg (by omega)]
theorem bakK_s (f g : Nat → Int32) (c k : Nat) : upd (bakK f g c k) k (f (c + k)) = bakK f g c (k + 1) := by
  funext x
  unfold upd bakK
  by_cases e : x = k
  · rw [if_pos e, if_pos (by omega), e]
  · rw [if_neg e]
    by_cases h : x < k
    · rw [if_pos h, if_pos (by omega)]
    · rw [if_neg h, if_neg (by omega)]
/-- what an image keeps -/
def imgOk (kp seF : Nat → Int32) (kF spF deF : Nat → Nat) (pF : Nat → Bool) (ki bi pa la : Nat → Int32) (zm zc ze : Int32) : Prop :=
  (∀ i, i < 2 → kp (0 + i) = seF i ∧ kp (2 + i) = nI (kF i) ∧ kp (4 + i) = nI (spF i) ∧ kp (6 + i) = nI (deF i) ∧ kp (8 + i) = b2i (pF i)) ∧ (∀ i, i < 60 → kp (10 + i) = ki i ∧ kp (70 + i) = bi i ∧ kp (130 + i) = pa i) ∧ (∀ i, i < 5 → kp (190 + i) = la i) ∧ kp 195 = zm ∧ kp 196 = zc ∧ kp 197 = ze
def imgK (f seF : Nat → Int32) (kF spF deF : Nat → Nat) (pF : Nat → Bool) (ki bi pa la : Nat → Int32) (zm zc ze : Int32) : Nat → Int32 :=
  upd (upd (upd (segK (segK (segK (segK (segK (segK (segK (segK (segK f seF 0 2) (nR kF) 2 2) (nR spF) 4 2) (nR deF) 6 2) (bR pF) 8 2) ki 10 60) bi 70 60) pa 130 60) la 190 5) 195 zm) 196 zc) 197 ze
theorem imgK_ok (f seF : Nat → Int32) (kF spF deF : Nat → Nat) (pF : Nat → Bool) (ki bi pa la : Nat → Int32) (zm zc ze : Int32) : imgOk (imgK f seF kF spF deF pF ki bi pa la zm zc ze) seF kF spF deF pF ki bi pa la zm zc ze := by
  unfold imgK
  refine ⟨fun i hi => ⟨?_, ?_, ?_, ?_, ?_⟩, fun i hi => ⟨?_, ?_, ?_⟩, fun i hi => ?_, ?_, ?_, ?_⟩
  · rw [updI_n (by omega), updI_n (by omega), updI_n (by omega), segK_out (by omega), segK_out (by omega), segK_out (by omega), segK_out (by omega), segK_out (by omega), segK_out (by omega), segK_out (by omega), segK_out (by omega), segK_in hi]
  · rw [updI_n (by omega), updI_n (by omega), updI_n (by omega), segK_out (by omega), segK_out (by omega), segK_out (by omega), segK_out (by omega), segK_out (by omega), segK_out (by omega), segK_out (by omega), segK_in hi]; rfl
  · rw [updI_n (by omega), updI_n (by omega), updI_n (by omega), segK_out (by omega), segK_out (by omega), segK_out (by omega), segK_out (by omega), segK_out (by omega), segK_out (by omega), segK_in hi]; rfl
  · rw [updI_n (by omega), updI_n (by omega), updI_n (by omega), segK_out (by omega), segK_out (by omega), segK_out (by omega), segK_out (by omega), segK_out (by omega), segK_in hi]; rfl
  · rw [updI_n (by omega), updI_n (by omega), updI_n (by omega), segK_out (by omega), segK_out (by omega), segK_out (by omega), segK_out (by omega), segK_in hi]; rfl
  · rw [updI_n (by omega), updI_n (by omega), updI_n (by omega), segK_out (by omega), segK_out (by omega), segK_out (by omega), segK_in hi]
  · rw [updI_n (by omega), updI_n (by omega), updI_n (by omega), segK_out (by omega), segK_out (by omega), segK_in hi]
  · rw [updI_n (by omega), updI_n (by omega), updI_n (by omega), segK_out (by omega), segK_in hi]
  · rw [updI_n (by omega), updI_n (by omega), updI_n (by omega), segK_in hi]
  · rw [updI_n (by omega), updI_n (by omega)]; exact pk_us
  · rw [updI_n (by omega)]; exact pk_us
  · exact pk_us
theorem ck_none {seF : Nat → Int32} {kF spF deF : Nat → Nat} {pF : Nat → Bool} {nm dz : Nat → Int32} : ckM seF kF spF deF pF nm (upd (upd dz 0 0) 1 0) := by
  intro j hj
  have e : upd (upd dz 0 0) 1 0 j = 0 := by
    match j, hj with
    | 0, _ => rfl
    | 1, _ => rfl
  rw [e]
  exact ⟨Or.inl rfl, fun z => absurd z (by decide)⟩
set_option maxHeartbeats 4000000 in
set_option maxRecDepth 100000 in
theorem c_X7_jar (l : Launch) (D : va_G) (cI cJ cZ : ClassId) (x : Nat) (xf : Nat) (xs : Nat) (xk : Nat) (xp : Nat) (xd : Nat) (xo : Nat) (xn : Nat) (xr : Nat) (xy : Nat) (xi : Nat) (xt : Nat) (xq : Nat) (xb : Nat) (xw : Nat) (xl : Nat) (xm : Nat) (xe : Nat) (zl : Int32) (zt : Int32) (za : Int32) (zm : Int32) (zc : Int32) (ze : Int32) (zh : Int32) (zi : Int32) (zq : Int32) (zu : Int64) (zv : Int64) (ru : Nat → Int32) (seF : Nat → Int32) (kF : Nat → Nat) (spF : Nat → Nat) (deF : Nat → Nat) (pF : Nat → Bool) (nm : Nat → Int32) (f : Nat → Int32) (dz : Nat → Int32) (j0 : Nat) (p0 : Int32) (p1 : Int32) (p2 : Int32) (p3 : Int32) (p4 : Int32) (hj : j0 < 2) (hsl : isJarB p0 = true → p0 = nI j0) (hjo : joM kF spF deF) (hck : ckM seF kF spF deF pF nm dz) : CtI l D cI cJ cZ yX7_jar cX7_jar 7 (some .int) 1 [.ref x, .int p0, .int p1, .int p2, .int p3, .int p4] [(x, .inr (7, [.ref xf, .ref xs, .ref xk, .ref xp, .ref xd, .ref xo, .ref xn, .ref xr, .ref xy, .ref xi, .int zl, .long zu, .long zv, .ref xt, .ref xq, .ref xb, .ref xw, .ref xl, .ref xm, .int zt, .int za, .int zm, .int zc, .int ze, .ref xe, .int zh, .int zi, .int zq])), (xs, .inl (cI, 2, .inl seF)), (xk, .inl (cI, 2, .inl (nR kF))), (xp, .inl (cI, 2, .inl (nR spF))), (xd, .inl (cI, 2, .inl (nR deF))), (xo, .inl (cI, 2, .inl (bR pF))), (xn, .inl (cI, 732, .inl nm)), (xr, .inl (cI, 366, .inl f)), (xi, .inl (cZ, 2, .inl dz)), (xf, .inl (cI, 7, .inl ru))] (fun (u : (Nat → Int32)) => if ftf (!isJarB p0) false (decide (p2 < 0) || (decide (p3 < 0) || !decide (1 ≤ p4))) (decide (2000 < p2) || (decide (365 < p3) || !decide (p4 ≤ 366))) = 0 then 1 else ftf (!isJarB p0) false (decide (p2 < 0) || (decide (p3 < 0) || !decide (1 ≤ p4))) (decide (2000 < p2) || (decide (365 < p3) || !decide (p4 ≤ 366)))) (fun (u : (Nat → Int32)) => ckM (if ftf (!isJarB p0) false (decide (p2 < 0) || (decide (p3 < 0) || !decide (1 ≤ p4))) (decide (2000 < p2) || (decide (365 < p3) || !decide (p4 ≤ 366))) = 0 then upd seF j0 p1 else seF) (if ftf (!isJarB p0) false (decide (p2 < 0) || (decide (p3 < 0) || !decide (1 ≤ p4))) (decide (2000 < p2) || (decide (365 < p3) || !decide (p4 ≤ 366))) = 0 then updN kF j0 p2.toNatClampNeg else kF) (if ftf (!isJarB p0) false (decide (p2 < 0) || (decide (p3 < 0) || !decide (1 ≤ p4))) (decide (2000 < p2) || (decide (365 < p3) || !decide (p4 ≤ 366))) = 0 then updN spF j0 p3.toNatClampNeg else spF) (if ftf (!isJarB p0) false (decide (p2 < 0) || (decide (p3 < 0) || !decide (1 ≤ p4))) (decide (2000 < p2) || (decide (365 < p3) || !decide (p4 ≤ 366))) = 0 then updN deF j0 p4.toNatClampNeg else deF) pF nm u ∧ joM (if ftf (!isJarB p0) false (decide (p2 < 0) || (decide (p3 < 0) || !decide (1 ≤ p4))) (decide (2000 < p2) || (decide (365 < p3) || !decide (p4 ≤ 366))) = 0 then updN kF j0 p2.toNatClampNeg else kF) (if ftf (!isJarB p0) false (decide (p2 < 0) || (decide (p3 < 0) || !decide (1 ≤ p4))) (decide (2000 < p2) || (decide (365 < p3) || !decide (p4 ≤ 366))) = 0 then updN spF j0 p3.toNatClampNeg else spF) (if ftf (!isJarB p0) false (decide (p2 < 0) || (decide (p3 < 0) || !decide (1 ≤ p4))) (decide (2000 < p2) || (decide (365 < p3) || !decide (p4 ≤ 366))) = 0 then updN deF j0 p4.toNatClampNeg else deF)) (fun (u : (Nat → Int32)) => [(x, .inr (7, [.ref xf, .ref xs, .ref xk, .ref xp, .ref xd, .ref xo, .ref xn, .ref xr, .ref xy, .ref xi, .int zl, .long zu, .long zv, .ref xt, .ref xq, .ref xb, .ref xw, .ref xl, .ref xm, .int zt, .int za, .int zm, .int zc, .int ze, .ref xe, .int zh, .int zi, .int zq])), (xs, .inl (cI, 2, .inl (if ftf (!isJarB p0) false (decide (p2 < 0) || (decide (p3 < 0) || !decide (1 ≤ p4))) (decide (2000 < p2) || (decide (365 < p3) || !decide (p4 ≤ 366))) = 0 then upd seF j0 p1 else seF))), (xk, .inl (cI, 2, .inl (nR (if ftf (!isJarB p0) false (decide (p2 < 0) || (decide (p3 < 0) || !decide (1 ≤ p4))) (decide (2000 < p2) || (decide (365 < p3) || !decide (p4 ≤ 366))) = 0 then updN kF j0 p2.toNatClampNeg else kF)))), (xp, .inl (cI, 2, .inl (nR (if ftf (!isJarB p0) false (decide (p2 < 0) || (decide (p3 < 0) || !decide (1 ≤ p4))) (decide (2000 < p2) || (decide (365 < p3) || !decide (p4 ≤ 366))) = 0 then updN spF j0 p3.toNatClampNeg else spF)))), (xd, .inl (cI, 2, .inl (nR (if ftf (!isJarB p0) false (decide (p2 < 0) || (decide (p3 < 0) || !decide (1 ≤ p4))) (decide (2000 < p2) || (decide (365 < p3) || !decide (p4 ≤ 366))) = 0 then updN deF j0 p4.toNatClampNeg else deF)))), (xo, .inl (cI, 2, .inl (bR pF))), (xn, .inl (cI, 732, .inl nm)), (xr, .inl (cI, 366, .inl f)), (xi, .inl (cZ, 2, .inl u)), (xf, .inl (cI, 7, .inl (if ftf (!isJarB p0) false (decide (p2 < 0) || (decide (p3 < 0) || !decide (1 ≤ p4))) (decide (2000 < p2) || (decide (365 < p3) || !decide (p4 ≤ 366))) = 0 then ru else bmp ru (ftf (!isJarB p0) false (decide (p2 < 0) || (decide (p3 < 0) || !decide (1 ≤ p4))) (decide (2000 < p2) || (decide (365 < p3) || !decide (p4 ≤ 366)))))))]) := by
  refine q_entI (own := RX7) rfl rfl (Nat.le_of_ble_eq_true rfl) ?_
  intro p e s m args below meth c A ls QQ hQ hE hx hb hr hk hin hA hl hst
  have hl : lv_has ls 7 [(0, .ref x), (1, .int p0), (2, .int p1), (3, .int p2), (4, .int p3), (5, .int p4)] := hl
  refine lv_iload_n hx hb dX7_jar_0 rfl (lv_at hl 1 rfl) ?_
  refine q_goI (q_rS hE lk_X7_77 (c_X7_isJar l D cI cJ cZ p0 s.heap.size) hst [] rfl rfl rfl hl.1 ⟨(Nat.le_of_ble_eq_true rfl), (Nat.le_of_ble_eq_true rfl)⟩ (rest := []) rfl (Nat.le_of_ble_eq_true rfl) dX7_jar_1 ⟨(Nat.le_of_ble_eq_true rfl), (Nat.le_of_ble_eq_true rfl)⟩) hE hst [] rfl (fun _ => rfl) (fun (_ : Unit) => [(x, .inr (7, [.ref xf, .ref xs, .ref xk, .ref xp, .ref xd, .ref xo, .ref xn, .ref xr, .ref xy, .ref xi, .int zl, .long zu, .long zv, .ref xt, .ref xq, .ref xb, .ref xw, .ref xl, .ref xm, .int zt, .int za, .int zm, .int zc, .int ze, .ref xe, .int zh, .int zi, .int zq])), (xs, .inl (cI, 2, .inl seF)), (xk, .inl (cI, 2, .inl (nR kF))), (xp, .inl (cI, 2, .inl (nR spF))), (xd, .inl (cI, 2, .inl (nR deF))), (xo, .inl (cI, 2, .inl (bR pF))), (xn, .inl (cI, 732, .inl nm)), (xr, .inl (cI, 366, .inl f)), (xi, .inl (cZ, 2, .inl dz)), (xf, .inl (cI, 7, .inl ru))]) (fun _ => rfl) (fun _ H locs hF hst => ?_)
  refine lv_if_ne (tgt := 13) hx hb dX7_jar_4 (by decide) (fun c_4 => ?_) (fun c_4 => ?_)
  · skip
    have c_4 := b2i_t c_4
    have hR : ftf (!isJarB p0) false (decide (p2 < 0) || (decide (p3 < 0) || !decide (1 ≤ p4))) (decide (2000 < p2) || (decide (365 < p3) || !decide (p4 ≤ 366))) = ftf false false (decide (p2 < 0) || (decide (p3 < 0) || !decide (1 ≤ p4))) (decide (2000 < p2) || (decide (365 < p3) || !decide (p4 ≤ 366))) := ftf_j c_4 _ _ _
    obtain rfl := hsl c_4
    skip
    suffices kJ : ∀ (H : Heap) (locs : List Loc), SS D A s [(x, .inr (7, [.ref xf, .ref xs, .ref xk, .ref xp, .ref xd, .ref xo, .ref xn, .ref xr, .ref xy, .ref xi, .int zl, .long zu, .long zv, .ref xt, .ref xq, .ref xb, .ref xw, .ref xl, .ref xm, .int zt, .int za, .int zm, .int zc, .int ze, .ref xe, .int zh, .int zi, .int zq])), (xs, .inl (cI, 2, .inl seF)), (xk, .inl (cI, 2, .inl (nR kF))), (xp, .inl (cI, 2, .inl (nR spF))), (xd, .inl (cI, 2, .inl (nR deF))), (xo, .inl (cI, 2, .inl (bR pF))), (xn, .inl (cI, 732, .inl nm)), (xr, .inl (cI, 366, .inl f)), (xi, .inl (cZ, 2, .inl dz)), (xf, .inl (cI, 7, .inl ru))] H locs → W p l e (rmN 1 0 0) s m args below meth c H locs 0 0 QQ (F0 m 62 ls [.int (ftf false false (decide (p2 < 0) || (decide (p3 < 0) || !decide (1 ≤ p4))) (decide (2000 < p2) || (decide (365 < p3) || !decide (p4 ≤ 366))))]) by
      refine lv_iload_n hx hb dX7_jar_13 rfl (lv_at hl 3 rfl) ?_
      refine lv_if_lt (tgt := 28) hx hb dX7_jar_14 (by decide) (fun c_14 => ?_) (fun c_14 => ?_)
      · skip
        refine lv_bipush (v := (-4)) hx hb dX7_jar_28 (by decide) ?_
        refine lv_goto (tgt := 62) hx hb dX7_jar_30 (by decide) ?_
        have kJ := kJ _ _ hst
        rw [show (ftf false false (decide (p2 < 0) || (decide (p3 < 0) || !decide (1 ≤ p4))) (decide (2000 < p2) || (decide (365 < p3) || !decide (p4 ≤ 366)))) = (-4) from (by first | (rw [decide_eq_true c_14]; done) | (rw [decide_eq_true c_14]; rfl))] at kJ
        exact kJ
      · skip
        refine lv_iload hx hb dX7_jar_17 (lv_at hl 4 rfl) ?_
        refine lv_if_lt (tgt := 28) hx hb dX7_jar_19 (by decide) (fun c_19 => ?_) (fun c_19 => ?_)
        · skip
          refine lv_bipush (v := (-4)) hx hb dX7_jar_28 (by decide) ?_
          refine lv_goto (tgt := 62) hx hb dX7_jar_30 (by decide) ?_
          have kJ := kJ _ _ hst
          rw [show (ftf false false (decide (p2 < 0) || (decide (p3 < 0) || !decide (1 ≤ p4))) (decide (2000 < p2) || (decide (365 < p3) || !decide (p4 ≤ 366)))) = (-4) from (by first | (rw [decide_eq_false c_14, decide_eq_true c_19]; done) | (rw [decide_eq_false c_14, decide_eq_true c_19]; rfl))] at kJ
          exact kJ
        · skip
          refine lv_iload hx hb dX7_jar_22 (lv_at hl 5 rfl) ?_
          refine lv_iconst (v := 1) hx hb dX7_jar_24 (by decide) ?_
          refine lv_icmp_ge (tgt := 33) hx hb dX7_jar_25 (by decide) (fun c_25 => ?_) (fun c_25 => ?_)
          · skip
            refine lv_iload_n hx hb dX7_jar_33 rfl (lv_at hl 3 rfl) ?_
            refine lv_sipush (v := 2000) hx hb dX7_jar_34 (by decide) ?_
            refine lv_icmp_gt (tgt := 56) hx hb dX7_jar_37 (by decide) (fun c_37 => ?_) (fun c_37 => ?_)
            · skip
              refine lv_bipush (v := (-6)) hx hb dX7_jar_56 (by decide) ?_
              refine lv_goto (tgt := 62) hx hb dX7_jar_58 (by decide) ?_
              have kJ := kJ _ _ hst
              rw [show (ftf false false (decide (p2 < 0) || (decide (p3 < 0) || !decide (1 ≤ p4))) (decide (2000 < p2) || (decide (365 < p3) || !decide (p4 ≤ 366)))) = (-6) from (by first | (rw [decide_eq_false c_14, decide_eq_false c_19, decide_eq_true c_25, decide_eq_true c_37]; done) | (rw [decide_eq_false c_14, decide_eq_false c_19, decide_eq_true c_25, decide_eq_true c_37]; rfl))] at kJ
              exact kJ
            · skip
              refine lv_iload hx hb dX7_jar_40 (lv_at hl 4 rfl) ?_
              refine lv_sipush (v := 365) hx hb dX7_jar_42 (by decide) ?_
              refine lv_icmp_gt (tgt := 56) hx hb dX7_jar_45 (by decide) (fun c_45 => ?_) (fun c_45 => ?_)
              · skip
                refine lv_bipush (v := (-6)) hx hb dX7_jar_56 (by decide) ?_
                refine lv_goto (tgt := 62) hx hb dX7_jar_58 (by decide) ?_
                have kJ := kJ _ _ hst
                rw [show (ftf false false (decide (p2 < 0) || (decide (p3 < 0) || !decide (1 ≤ p4))) (decide (2000 < p2) || (decide (365 < p3) || !decide (p4 ≤ 366)))) = (-6) from (by first | (rw [decide_eq_false c_14, decide_eq_false c_19, decide_eq_true c_25, decide_eq_false c_37, decide_eq_true c_45]; done) | (rw [decide_eq_false c_14, decide_eq_false c_19, decide_eq_true c_25, decide_eq_false c_37, decide_eq_true c_45]; rfl))] at kJ
                exact kJ
              · skip
                refine lv_iload hx hb dX7_jar_48 (lv_at hl 5 rfl) ?_
                refine lv_sipush (v := 366) hx hb dX7_jar_50 (by decide) ?_
                refine lv_icmp_le (tgt := 61) hx hb dX7_jar_53 (by decide) (fun c_53 => ?_) (fun c_53 => ?_)
                · skip
                  refine lv_iconst (v := 0) hx hb dX7_jar_61 (by decide) ?_
                  have kJ := kJ _ _ hst
                  rw [show (ftf false false (decide (p2 < 0) || (decide (p3 < 0) || !decide (1 ≤ p4))) (decide (2000 < p2) || (decide (365 < p3) || !decide (p4 ≤ 366)))) = 0 from (by first | (rw [decide_eq_false c_14, decide_eq_false c_19, decide_eq_true c_25, decide_eq_false c_37, decide_eq_false c_45, decide_eq_true c_53]; done) | (rw [decide_eq_false c_14, decide_eq_false c_19, decide_eq_true c_25, decide_eq_false c_37, decide_eq_false c_45, decide_eq_true c_53]; rfl))] at kJ
                  exact kJ
                · skip
                  refine lv_bipush (v := (-6)) hx hb dX7_jar_56 (by decide) ?_
                  refine lv_goto (tgt := 62) hx hb dX7_jar_58 (by decide) ?_
                  have kJ := kJ _ _ hst
                  rw [show (ftf false false (decide (p2 < 0) || (decide (p3 < 0) || !decide (1 ≤ p4))) (decide (2000 < p2) || (decide (365 < p3) || !decide (p4 ≤ 366)))) = (-6) from (by first | (rw [decide_eq_false c_14, decide_eq_false c_19, decide_eq_true c_25, decide_eq_false c_37, decide_eq_false c_45, decide_eq_false c_53]; done) | (rw [decide_eq_false c_14, decide_eq_false c_19, decide_eq_true c_25, decide_eq_false c_37, decide_eq_false c_45, decide_eq_false c_53]; rfl))] at kJ
                  exact kJ
          · skip
            refine lv_bipush (v := (-4)) hx hb dX7_jar_28 (by decide) ?_
            refine lv_goto (tgt := 62) hx hb dX7_jar_30 (by decide) ?_
            have kJ := kJ _ _ hst
            rw [show (ftf false false (decide (p2 < 0) || (decide (p3 < 0) || !decide (1 ≤ p4))) (decide (2000 < p2) || (decide (365 < p3) || !decide (p4 ≤ 366)))) = (-4) from (by first | (rw [decide_eq_false c_14, decide_eq_false c_19, decide_eq_false c_25]; done) | (rw [decide_eq_false c_14, decide_eq_false c_19, decide_eq_false c_25]; rfl))] at kJ
            exact kJ
    intro H locs hst
    refine lv_istore (lv' := [(6, .int (ftf false false (decide (p2 < 0) || (decide (p3 < 0) || !decide (1 ≤ p4))) (decide (2000 < p2) || (decide (365 < p3) || !decide (p4 ≤ 366))))), (0, .ref x), (1, .int (nI j0)), (2, .int p1), (3, .int p2), (4, .int p3), (5, .int p4)]) hx hb dX7_jar_62 hl (by decide) rfl (fun ls hl => ?_)
    refine lv_iload hx hb dX7_jar_64 (lv_at hl 0 rfl) ?_
    refine lv_if_eq (tgt := 76) hx hb dX7_jar_66 (by decide) (fun c_66 => ?_) (fun c_66 => ?_)
    · skip
      rw [c_66] at hR
      obtain ⟨-, -, f3, f4⟩ := ftf_1 c_66
      obtain ⟨kS, sp, de, g1, g2, g3, g4, rfl, rfl, rfl⟩ := jar_of f3 f4
      rw [nI_clamp (by omega), nI_clamp (by omega), nI_clamp (by omega)] at hQ
      skip
      refine lv_aload_n hx hb dX7_jar_76 rfl (lv_at hl 1 rfl) ?_
      refine gf_X7_13 hE hst 0 rfl rfl dX7_jar_77 ?_
      refine lv_iload_n hx hb dX7_jar_80 rfl (lv_at hl 2 rfl) ?_
      refine lv_iload_n hx hb dX7_jar_81 rfl (lv_at hl 3 rfl) ?_
      refine q_astN hE hst 1 rfl j0 (rfl) (hj) (by decide) [(x, .inr (7, [.ref xf, .ref xs, .ref xk, .ref xp, .ref xd, .ref xo, .ref xn, .ref xr, .ref xy, .ref xi, .int zl, .long zu, .long zv, .ref xt, .ref xq, .ref xb, .ref xw, .ref xl, .ref xm, .int zt, .int za, .int zm, .int zc, .int ze, .ref xe, .int zh, .int zi, .int zq])), (xs, .inl (cI, 2, .inl (upd seF j0 p1))), (xk, .inl (cI, 2, .inl (nR kF))), (xp, .inl (cI, 2, .inl (nR spF))), (xd, .inl (cI, 2, .inl (nR deF))), (xo, .inl (cI, 2, .inl (bR pF))), (xn, .inl (cI, 732, .inl nm)), (xr, .inl (cI, 366, .inl f)), (xi, .inl (cZ, 2, .inl dz)), (xf, .inl (cI, 7, .inl ru))] rfl dX7_jar_82 (fun H locs hst => ?_)
      refine lv_aload_n hx hb dX7_jar_83 rfl (lv_at hl 1 rfl) ?_
      refine gf_X7_16 hE hst 0 rfl rfl dX7_jar_84 ?_
      refine lv_iload_n hx hb dX7_jar_87 rfl (lv_at hl 2 rfl) ?_
      refine lv_iload_n hx hb dX7_jar_88 rfl (lv_at hl 4 rfl) ?_
      refine q_astN hE hst 2 rfl j0 (rfl) (hj) (by decide) [(x, .inr (7, [.ref xf, .ref xs, .ref xk, .ref xp, .ref xd, .ref xo, .ref xn, .ref xr, .ref xy, .ref xi, .int zl, .long zu, .long zv, .ref xt, .ref xq, .ref xb, .ref xw, .ref xl, .ref xm, .int zt, .int za, .int zm, .int zc, .int ze, .ref xe, .int zh, .int zi, .int zq])), (xs, .inl (cI, 2, .inl (upd seF j0 p1))), (xk, .inl (cI, 2, .inl (upd (nR kF) j0 (nI kS)))), (xp, .inl (cI, 2, .inl (nR spF))), (xd, .inl (cI, 2, .inl (nR deF))), (xo, .inl (cI, 2, .inl (bR pF))), (xn, .inl (cI, 732, .inl nm)), (xr, .inl (cI, 366, .inl f)), (xi, .inl (cZ, 2, .inl dz)), (xf, .inl (cI, 7, .inl ru))] rfl dX7_jar_89 (fun H locs hst => ?_)
      refine lv_aload_n hx hb dX7_jar_90 rfl (lv_at hl 1 rfl) ?_
      refine gf_X7_19 hE hst 0 rfl rfl dX7_jar_91 ?_
      refine lv_iload_n hx hb dX7_jar_94 rfl (lv_at hl 2 rfl) ?_
      refine lv_iload hx hb dX7_jar_95 (lv_at hl 5 rfl) ?_
      refine q_astN hE hst 3 rfl j0 (rfl) (hj) (by decide) [(x, .inr (7, [.ref xf, .ref xs, .ref xk, .ref xp, .ref xd, .ref xo, .ref xn, .ref xr, .ref xy, .ref xi, .int zl, .long zu, .long zv, .ref xt, .ref xq, .ref xb, .ref xw, .ref xl, .ref xm, .int zt, .int za, .int zm, .int zc, .int ze, .ref xe, .int zh, .int zi, .int zq])), (xs, .inl (cI, 2, .inl (upd seF j0 p1))), (xk, .inl (cI, 2, .inl (upd (nR kF) j0 (nI kS)))), (xp, .inl (cI, 2, .inl (upd (nR spF) j0 (nI sp)))), (xd, .inl (cI, 2, .inl (nR deF))), (xo, .inl (cI, 2, .inl (bR pF))), (xn, .inl (cI, 732, .inl nm)), (xr, .inl (cI, 366, .inl f)), (xi, .inl (cZ, 2, .inl dz)), (xf, .inl (cI, 7, .inl ru))] rfl dX7_jar_97 (fun H locs hst => ?_)
      refine lv_aload_n hx hb dX7_jar_98 rfl (lv_at hl 1 rfl) ?_
      refine gf_X7_22 hE hst 0 rfl rfl dX7_jar_99 ?_
      refine lv_iload_n hx hb dX7_jar_102 rfl (lv_at hl 2 rfl) ?_
      refine lv_iload hx hb dX7_jar_103 (lv_at hl 6 rfl) ?_
      refine q_astN hE hst 4 rfl j0 (rfl) (hj) (by decide) [(x, .inr (7, [.ref xf, .ref xs, .ref xk, .ref xp, .ref xd, .ref xo, .ref xn, .ref xr, .ref xy, .ref xi, .int zl, .long zu, .long zv, .ref xt, .ref xq, .ref xb, .ref xw, .ref xl, .ref xm, .int zt, .int za, .int zm, .int zc, .int ze, .ref xe, .int zh, .int zi, .int zq])), (xs, .inl (cI, 2, .inl (upd seF j0 p1))), (xk, .inl (cI, 2, .inl (upd (nR kF) j0 (nI kS)))), (xp, .inl (cI, 2, .inl (upd (nR spF) j0 (nI sp)))), (xd, .inl (cI, 2, .inl (upd (nR deF) j0 (nI de)))), (xo, .inl (cI, 2, .inl (bR pF))), (xn, .inl (cI, 732, .inl nm)), (xr, .inl (cI, 366, .inl f)), (xi, .inl (cZ, 2, .inl dz)), (xf, .inl (cI, 7, .inl ru))] rfl dX7_jar_105 (fun H locs hst => ?_)
      refine lv_aload_n hx hb dX7_jar_106 rfl (lv_at hl 1 rfl) ?_
      refine gf_X7_37 hE hst 0 rfl rfl dX7_jar_107 ?_
      refine lv_iload_n hx hb dX7_jar_110 rfl (lv_at hl 2 rfl) ?_
      refine lv_iconst (v := 0) hx hb dX7_jar_111 (by decide) ?_
      refine q_zastN hE hst 8 rfl j0 (rfl) (hj) (by decide) (rfl) [(x, .inr (7, [.ref xf, .ref xs, .ref xk, .ref xp, .ref xd, .ref xo, .ref xn, .ref xr, .ref xy, .ref xi, .int zl, .long zu, .long zv, .ref xt, .ref xq, .ref xb, .ref xw, .ref xl, .ref xm, .int zt, .int za, .int zm, .int zc, .int ze, .ref xe, .int zh, .int zi, .int zq])), (xs, .inl (cI, 2, .inl (upd seF j0 p1))), (xk, .inl (cI, 2, .inl (upd (nR kF) j0 (nI kS)))), (xp, .inl (cI, 2, .inl (upd (nR spF) j0 (nI sp)))), (xd, .inl (cI, 2, .inl (upd (nR deF) j0 (nI de)))), (xo, .inl (cI, 2, .inl (bR pF))), (xn, .inl (cI, 732, .inl nm)), (xr, .inl (cI, 366, .inl f)), (xi, .inl (cZ, 2, .inl (upd dz j0 0))), (xf, .inl (cI, 7, .inl ru))] rfl dX7_jar_112 (fun H locs hst => ?_)
      have hst : SS D A s [(x, .inr (7, [.ref xf, .ref xs, .ref xk, .ref xp, .ref xd, .ref xo, .ref xn, .ref xr, .ref xy, .ref xi, .int zl, .long zu, .long zv, .ref xt, .ref xq, .ref xb, .ref xw, .ref xl, .ref xm, .int zt, .int za, .int zm, .int zc, .int ze, .ref xe, .int zh, .int zi, .int zq])), (xs, .inl (cI, 2, .inl (upd seF j0 p1))), (xk, .inl (cI, 2, .inl (nR (updN kF j0 kS)))), (xp, .inl (cI, 2, .inl (nR (updN spF j0 sp)))), (xd, .inl (cI, 2, .inl (nR (updN deF j0 de)))), (xo, .inl (cI, 2, .inl (bR pF))), (xn, .inl (cI, 732, .inl nm)), (xr, .inl (cI, 366, .inl f)), (xi, .inl (cZ, 2, .inl (upd dz j0 0))), (xf, .inl (cI, 7, .inl ru))] H locs := by have h := hst; rw [upd_nR, upd_nR, upd_nR] at h; exact h
      refine lv_iconst (v := 1) hx hb dX7_jar_113 (by decide) ?_
      exact q_retI hQ hE hr hk hst (upd dz j0 0) (by rw [if_pos hR]) (⟨by simp only [if_pos hR]; exact ck_jar hck (fun j hj => ⟨updI_n hj, updN_n hj, updN_n hj, updN_n hj, rfl⟩), by simp only [if_pos hR]; exact jo_jar hjo g1 g2 g3 g4⟩) (by simp only [if_pos hR]) dX7_jar_114
    · skip
      have hN := c_66
      rw [← hR] at hN
      refine lv_aload_n hx hb dX7_jar_69 rfl (lv_at hl 1 rfl) ?_
      refine lv_iload hx hb dX7_jar_70 (lv_at hl 0 rfl) ?_
      refine q_goI (q_rV hE lk_X7_81 (c_X7_no l D cI cJ cZ x xf xs xk xp xd xo xn xr xy xi xt xq xb xw xl xm xe zl zt za zm zc ze zh zi zq zu zv ru (ftf false false (decide (p2 < 0) || (decide (p3 < 0) || !decide (1 ≤ p4))) (decide (2000 < p2) || (decide (365 < p3) || !decide (p4 ≤ 366)))) (ftf_in _ _ _ _) H.size) hst [0, 9] rfl rfl rfl rfl rfl hl.1 ⟨(Nat.le_of_ble_eq_true rfl), (Nat.le_of_ble_eq_true rfl)⟩ (rest := []) rfl (Nat.le_of_ble_eq_true rfl) dX7_jar_72 ⟨(Nat.le_of_ble_eq_true rfl), (Nat.le_of_ble_eq_true rfl)⟩) hE hst [0, 9] rfl (fun _ => rfl) (fun (_ : Unit) => [(x, .inr (7, [.ref xf, .ref xs, .ref xk, .ref xp, .ref xd, .ref xo, .ref xn, .ref xr, .ref xy, .ref xi, .int zl, .long zu, .long zv, .ref xt, .ref xq, .ref xb, .ref xw, .ref xl, .ref xm, .int zt, .int za, .int zm, .int zc, .int ze, .ref xe, .int zh, .int zi, .int zq])), (xs, .inl (cI, 2, .inl seF)), (xk, .inl (cI, 2, .inl (nR kF))), (xp, .inl (cI, 2, .inl (nR spF))), (xd, .inl (cI, 2, .inl (nR deF))), (xo, .inl (cI, 2, .inl (bR pF))), (xn, .inl (cI, 732, .inl nm)), (xr, .inl (cI, 366, .inl f)), (xi, .inl (cZ, 2, .inl dz)), (xf, .inl (cI, 7, .inl (bmp ru (ftf false false (decide (p2 < 0) || (decide (p3 < 0) || !decide (1 ≤ p4))) (decide (2000 < p2) || (decide (365 < p3) || !decide (p4 ≤ 366)))))))]) (fun _ => rfl) (fun _ H locs hF hst => ?_)
      exact q_retI hQ hE hr hk hst (dz) (by rw [if_neg hN]; exact hR.symm) (⟨by simp only [if_neg hN]; exact hck, by simp only [if_neg hN]; exact hjo⟩) (by simp only [hR, if_neg c_66]) dX7_jar_75
  · skip
    have c_4 := b2i_f c_4
    refine lv_aload_n hx hb dX7_jar_7 rfl (lv_at hl 0 rfl) ?_
    refine lv_iconst (v := (-1)) hx hb dX7_jar_8 (by decide) ?_
    refine q_goI (q_rV hE lk_X7_81 (c_X7_no l D cI cJ cZ x xf xs xk xp xd xo xn xr xy xi xt xq xb xw xl xm xe zl zt za zm zc ze zh zi zq zu zv ru (-1) (by rw [vp_in_iff]; decide) H.size) hst [0, 9] rfl rfl rfl rfl rfl hl.1 ⟨(Nat.le_of_ble_eq_true rfl), (Nat.le_of_ble_eq_true rfl)⟩ (rest := []) rfl (Nat.le_of_ble_eq_true rfl) dX7_jar_9 ⟨(Nat.le_of_ble_eq_true rfl), (Nat.le_of_ble_eq_true rfl)⟩) hE hst [0, 9] rfl (fun _ => rfl) (fun (_ : Unit) => [(x, .inr (7, [.ref xf, .ref xs, .ref xk, .ref xp, .ref xd, .ref xo, .ref xn, .ref xr, .ref xy, .ref xi, .int zl, .long zu, .long zv, .ref xt, .ref xq, .ref xb, .ref xw, .ref xl, .ref xm, .int zt, .int za, .int zm, .int zc, .int ze, .ref xe, .int zh, .int zi, .int zq])), (xs, .inl (cI, 2, .inl seF)), (xk, .inl (cI, 2, .inl (nR kF))), (xp, .inl (cI, 2, .inl (nR spF))), (xd, .inl (cI, 2, .inl (nR deF))), (xo, .inl (cI, 2, .inl (bR pF))), (xn, .inl (cI, 732, .inl nm)), (xr, .inl (cI, 366, .inl f)), (xi, .inl (cZ, 2, .inl dz)), (xf, .inl (cI, 7, .inl (bmp ru (-1))))]) (fun _ => rfl) (fun _ H locs hF hst => ?_)
    exact q_retI hQ hE hr hk hst (dz) (by rw [show ftf (!isJarB p0) false (decide (p2 < 0) || (decide (p3 < 0) || !decide (1 ≤ p4))) (decide (2000 < p2) || (decide (365 < p3) || !decide (p4 ≤ 366))) = -1 from (by rw [c_4, Bool.not_false]; rfl), if_neg (show ¬ (-1 : Int32) = 0 by decide)]) (⟨by simp only [if_neg (show ¬ ftf (!isJarB p0) false (decide (p2 < 0) || (decide (p3 < 0) || !decide (1 ≤ p4))) (decide (2000 < p2) || (decide (365 < p3) || !decide (p4 ≤ 366))) = 0 by rw [show ftf (!isJarB p0) false (decide (p2 < 0) || (decide (p3 < 0) || !decide (1 ≤ p4))) (decide (2000 < p2) || (decide (365 < p3) || !decide (p4 ≤ 366))) = -1 from (by rw [c_4]; rfl)]; decide)]; exact hck, by simp only [if_neg (show ¬ ftf (!isJarB p0) false (decide (p2 < 0) || (decide (p3 < 0) || !decide (1 ≤ p4))) (decide (2000 < p2) || (decide (365 < p3) || !decide (p4 ≤ 366))) = 0 by rw [show ftf (!isJarB p0) false (decide (p2 < 0) || (decide (p3 < 0) || !decide (1 ≤ p4))) (decide (2000 < p2) || (decide (365 < p3) || !decide (p4 ≤ 366))) = -1 from (by rw [c_4]; rfl)]; decide)]; exact hjo⟩) (by simp only [show ftf (!isJarB p0) false (decide (p2 < 0) || (decide (p3 < 0) || !decide (1 ≤ p4))) (decide (2000 < p2) || (decide (365 < p3) || !decide (p4 ≤ 366))) = -1 from (by rw [c_4, Bool.not_false]; rfl), if_neg (show ¬ (-1 : Int32) = 0 by decide)]) dX7_jar_12
set_option maxHeartbeats 4000000 in
set_option maxRecDepth 100000 in
theorem c_X7_pour (l : Launch) (D : va_G) (cI cJ cZ : ClassId) (x : Nat) (xf : Nat) (xs : Nat) (xk : Nat) (xp : Nat) (xd : Nat) (xo : Nat) (xn : Nat) (xr : Nat) (xy : Nat) (xi : Nat) (xt : Nat) (xq : Nat) (xb : Nat) (xw : Nat) (xl : Nat) (xm : Nat) (xe : Nat) (zl : Int32) (zt : Int32) (za : Int32) (zm : Int32) (zc : Int32) (ze : Int32) (zh : Int32) (zi : Int32) (zq : Int32) (zu : Int64) (zv : Int64) (ru : Nat → Int32) (seF : Nat → Int32) (kF : Nat → Nat) (spF : Nat → Nat) (deF : Nat → Nat) (pF : Nat → Bool) (nm : Nat → Int32) (f : Nat → Int32) (dz : Nat → Int32) (j0 : Nat) (p0 : Int32) (b0 : Bool) (hj : j0 < 2) (hsl : isJarB p0 = true → p0 = nI j0) (hjo : joM kF spF deF) (hck : ckM seF kF spF deF pF nm dz) : CtI l D cI cJ cZ yX7_pour cX7_pour 3 (some .int) 1 [.ref x, .int p0, .int (b2i b0)] [(x, .inr (7, [.ref xf, .ref xs, .ref xk, .ref xp, .ref xd, .ref xo, .ref xn, .ref xr, .ref xy, .ref xi, .int zl, .long zu, .long zv, .ref xt, .ref xq, .ref xb, .ref xw, .ref xl, .ref xm, .int zt, .int za, .int zm, .int zc, .int ze, .ref xe, .int zh, .int zi, .int zq])), (xs, .inl (cI, 2, .inl seF)), (xk, .inl (cI, 2, .inl (nR kF))), (xp, .inl (cI, 2, .inl (nR spF))), (xd, .inl (cI, 2, .inl (nR deF))), (xo, .inl (cI, 2, .inl (bR pF))), (xn, .inl (cI, 732, .inl nm)), (xr, .inl (cI, 366, .inl f)), (xi, .inl (cZ, 2, .inl dz)), (xf, .inl (cI, 7, .inl ru))] (fun (u : (Nat → Int32)) => if isJarB p0 = true then (if pF j0 = b0 then 0 else 1) else -1) (fun (u : (Nat → Int32)) => ckM seF kF spF deF (if isJarB p0 = true then updB pF j0 b0 else pF) nm u) (fun (u : (Nat → Int32)) => [(x, .inr (7, [.ref xf, .ref xs, .ref xk, .ref xp, .ref xd, .ref xo, .ref xn, .ref xr, .ref xy, .ref xi, .int zl, .long zu, .long zv, .ref xt, .ref xq, .ref xb, .ref xw, .ref xl, .ref xm, .int zt, .int za, .int zm, .int zc, .int ze, .ref xe, .int zh, .int zi, .int zq])), (xs, .inl (cI, 2, .inl seF)), (xk, .inl (cI, 2, .inl (nR kF))), (xp, .inl (cI, 2, .inl (nR spF))), (xd, .inl (cI, 2, .inl (nR deF))), (xo, .inl (cI, 2, .inl (bR (if isJarB p0 = true then updB pF j0 b0 else pF)))), (xn, .inl (cI, 732, .inl nm)), (xr, .inl (cI, 366, .inl f)), (xi, .inl (cZ, 2, .inl u)), (xf, .inl (cI, 7, .inl (if isJarB p0 = true then ru else bmp ru (-1))))]) := by
  refine q_entI (own := RX7) rfl rfl (Nat.le_of_ble_eq_true rfl) ?_
  intro p e s m args below meth c A ls QQ hQ hE hx hb hr hk hin hA hl hst
  have hl : lv_has ls 3 [(0, .ref x), (1, .int p0), (2, .int (b2i b0))] := hl
  refine lv_iload_n hx hb dX7_pour_0 rfl (lv_at hl 1 rfl) ?_
  refine q_goI (q_rS hE lk_X7_77 (c_X7_isJar l D cI cJ cZ p0 s.heap.size) hst [] rfl rfl rfl hl.1 ⟨(Nat.le_of_ble_eq_true rfl), (Nat.le_of_ble_eq_true rfl)⟩ (rest := []) rfl (Nat.le_of_ble_eq_true rfl) dX7_pour_1 ⟨(Nat.le_of_ble_eq_true rfl), (Nat.le_of_ble_eq_true rfl)⟩) hE hst [] rfl (fun _ => rfl) (fun (_ : Unit) => [(x, .inr (7, [.ref xf, .ref xs, .ref xk, .ref xp, .ref xd, .ref xo, .ref xn, .ref xr, .ref xy, .ref xi, .int zl, .long zu, .long zv, .ref xt, .ref xq, .ref xb, .ref xw, .ref xl, .ref xm, .int zt, .int za, .int zm, .int zc, .int ze, .ref xe, .int zh, .int zi, .int zq])), (xs, .inl (cI, 2, .inl seF)), (xk, .inl (cI, 2, .inl (nR kF))), (xp, .inl (cI, 2, .inl (nR spF))), (xd, .inl (cI, 2, .inl (nR deF))), (xo, .inl (cI, 2, .inl (bR pF))), (xn, .inl (cI, 732, .inl nm)), (xr, .inl (cI, 366, .inl f)), (xi, .inl (cZ, 2, .inl dz)), (xf, .inl (cI, 7, .inl ru))]) (fun _ => rfl) (fun _ H locs hF hst => ?_)
  refine lv_if_ne (tgt := 13) hx hb dX7_pour_4 (by decide) (fun c_4 => ?_) (fun c_4 => ?_)
  · skip
    have c_4 := b2i_t c_4
    have hR := c_4
    obtain rfl := hsl c_4
    skip
    suffices kJ : ∀ (H : Heap) (locs : List Loc), SS D A s [(x, .inr (7, [.ref xf, .ref xs, .ref xk, .ref xp, .ref xd, .ref xo, .ref xn, .ref xr, .ref xy, .ref xi, .int zl, .long zu, .long zv, .ref xt, .ref xq, .ref xb, .ref xw, .ref xl, .ref xm, .int zt, .int za, .int zm, .int zc, .int ze, .ref xe, .int zh, .int zi, .int zq])), (xs, .inl (cI, 2, .inl seF)), (xk, .inl (cI, 2, .inl (nR kF))), (xp, .inl (cI, 2, .inl (nR spF))), (xd, .inl (cI, 2, .inl (nR deF))), (xo, .inl (cI, 2, .inl (bR pF))), (xn, .inl (cI, 732, .inl nm)), (xr, .inl (cI, 366, .inl f)), (xi, .inl (cZ, 2, .inl dz)), (xf, .inl (cI, 7, .inl ru))] H locs → W p l e (rmN 1 0 0) s m args below meth c H locs 0 0 QQ (F0 m 28 ls [.int (b2i (pF j0))]) by
      refine lv_aload_n hx hb dX7_pour_13 rfl (lv_at hl 0 rfl) ?_
      refine gf_X7_25 hE hst 0 rfl rfl dX7_pour_14 ?_
      refine lv_iload_n hx hb dX7_pour_17 rfl (lv_at hl 1 rfl) ?_
      refine q_aldN hE hst 5 rfl j0 (rfl) (hj) (by decide) dX7_pour_18 ?_
      refine q_top (x' := b2i (pF j0)) (rfl) ?_
      refine lv_iconst (v := 1) hx hb dX7_pour_19 (by decide) ?_
      refine lv_icmp_ne (tgt := 27) hx hb dX7_pour_20 (by decide) (fun c_20 => ?_) (fun c_20 => ?_)
      · skip
        refine lv_iconst (v := 0) hx hb dX7_pour_27 (by decide) ?_
        have kJ := kJ _ _ hst
        rw [show (b2i (pF j0)) = 0 from b2i_n1 c_20] at kJ
        exact kJ
      · skip
        refine lv_iconst (v := 1) hx hb dX7_pour_23 (by decide) ?_
        refine lv_goto (tgt := 28) hx hb dX7_pour_24 (by decide) ?_
        have kJ := kJ _ _ hst
        rw [show (b2i (pF j0)) = 1 from c_20] at kJ
        exact kJ
    intro H locs hst
    refine lv_iload_n hx hb dX7_pour_28 rfl (lv_at hl 2 rfl) ?_
    refine lv_icmp_ne (tgt := 34) hx hb dX7_pour_29 (by decide) (fun c_29 => ?_) (fun c_29 => ?_)
    · skip
      have eb : ¬ pF j0 = b0 := fun z => c_29 (by rw [z])
      refine lv_aload_n hx hb dX7_pour_34 rfl (lv_at hl 0 rfl) ?_
      refine gf_X7_25 hE hst 0 rfl rfl dX7_pour_35 ?_
      refine lv_iload_n hx hb dX7_pour_38 rfl (lv_at hl 1 rfl) ?_
      suffices kJ : ∀ (H : Heap) (locs : List Loc), SS D A s [(x, .inr (7, [.ref xf, .ref xs, .ref xk, .ref xp, .ref xd, .ref xo, .ref xn, .ref xr, .ref xy, .ref xi, .int zl, .long zu, .long zv, .ref xt, .ref xq, .ref xb, .ref xw, .ref xl, .ref xm, .int zt, .int za, .int zm, .int zc, .int ze, .ref xe, .int zh, .int zi, .int zq])), (xs, .inl (cI, 2, .inl seF)), (xk, .inl (cI, 2, .inl (nR kF))), (xp, .inl (cI, 2, .inl (nR spF))), (xd, .inl (cI, 2, .inl (nR deF))), (xo, .inl (cI, 2, .inl (bR pF))), (xn, .inl (cI, 732, .inl nm)), (xr, .inl (cI, 366, .inl f)), (xi, .inl (cZ, 2, .inl dz)), (xf, .inl (cI, 7, .inl ru))] H locs → W p l e (rmN 1 0 0) s m args below meth c H locs 0 0 QQ (F0 m 48 ls [.int (b2i b0), .int (nI j0), .ref xo]) by
        refine lv_iload_n hx hb dX7_pour_39 rfl (lv_at hl 2 rfl) ?_
        refine lv_if_eq (tgt := 47) hx hb dX7_pour_40 (by decide) (fun c_40 => ?_) (fun c_40 => ?_)
        · skip
          have c_40 := b2i_f c_40
          refine lv_iconst (v := 0) hx hb dX7_pour_47 (by decide) ?_
          have kJ := kJ _ _ hst
          rw [show (b2i b0) = 0 from by rw [c_40]; rfl] at kJ
          exact kJ
        · skip
          have c_40 := b2i_t c_40
          refine lv_iconst (v := 1) hx hb dX7_pour_43 (by decide) ?_
          refine lv_goto (tgt := 48) hx hb dX7_pour_44 (by decide) ?_
          have kJ := kJ _ _ hst
          rw [show (b2i b0) = 1 from by rw [c_40]; rfl] at kJ
          exact kJ
      intro H locs hst
      refine q_astN hE hst 5 rfl j0 (rfl) (hj) (by decide) [(x, .inr (7, [.ref xf, .ref xs, .ref xk, .ref xp, .ref xd, .ref xo, .ref xn, .ref xr, .ref xy, .ref xi, .int zl, .long zu, .long zv, .ref xt, .ref xq, .ref xb, .ref xw, .ref xl, .ref xm, .int zt, .int za, .int zm, .int zc, .int ze, .ref xe, .int zh, .int zi, .int zq])), (xs, .inl (cI, 2, .inl seF)), (xk, .inl (cI, 2, .inl (nR kF))), (xp, .inl (cI, 2, .inl (nR spF))), (xd, .inl (cI, 2, .inl (nR deF))), (xo, .inl (cI, 2, .inl (upd (bR pF) j0 (b2i b0)))), (xn, .inl (cI, 732, .inl nm)), (xr, .inl (cI, 366, .inl f)), (xi, .inl (cZ, 2, .inl dz)), (xf, .inl (cI, 7, .inl ru))] rfl dX7_pour_48 (fun H locs hst => ?_)
      have hst : SS D A s [(x, .inr (7, [.ref xf, .ref xs, .ref xk, .ref xp, .ref xd, .ref xo, .ref xn, .ref xr, .ref xy, .ref xi, .int zl, .long zu, .long zv, .ref xt, .ref xq, .ref xb, .ref xw, .ref xl, .ref xm, .int zt, .int za, .int zm, .int zc, .int ze, .ref xe, .int zh, .int zi, .int zq])), (xs, .inl (cI, 2, .inl seF)), (xk, .inl (cI, 2, .inl (nR kF))), (xp, .inl (cI, 2, .inl (nR spF))), (xd, .inl (cI, 2, .inl (nR deF))), (xo, .inl (cI, 2, .inl (bR (updB pF j0 b0)))), (xn, .inl (cI, 732, .inl nm)), (xr, .inl (cI, 366, .inl f)), (xi, .inl (cZ, 2, .inl dz)), (xf, .inl (cI, 7, .inl ru))] H locs := by have h := hst; rw [upd_bR] at h; exact h
      refine lv_aload_n hx hb dX7_pour_49 rfl (lv_at hl 0 rfl) ?_
      refine gf_X7_37 hE hst 0 rfl rfl dX7_pour_50 ?_
      refine lv_iload_n hx hb dX7_pour_53 rfl (lv_at hl 1 rfl) ?_
      refine lv_iconst (v := 0) hx hb dX7_pour_54 (by decide) ?_
      refine q_zastN hE hst 8 rfl j0 (rfl) (hj) (by decide) (rfl) [(x, .inr (7, [.ref xf, .ref xs, .ref xk, .ref xp, .ref xd, .ref xo, .ref xn, .ref xr, .ref xy, .ref xi, .int zl, .long zu, .long zv, .ref xt, .ref xq, .ref xb, .ref xw, .ref xl, .ref xm, .int zt, .int za, .int zm, .int zc, .int ze, .ref xe, .int zh, .int zi, .int zq])), (xs, .inl (cI, 2, .inl seF)), (xk, .inl (cI, 2, .inl (nR kF))), (xp, .inl (cI, 2, .inl (nR spF))), (xd, .inl (cI, 2, .inl (nR deF))), (xo, .inl (cI, 2, .inl (bR (updB pF j0 b0)))), (xn, .inl (cI, 732, .inl nm)), (xr, .inl (cI, 366, .inl f)), (xi, .inl (cZ, 2, .inl (upd dz j0 0))), (xf, .inl (cI, 7, .inl ru))] rfl dX7_pour_55 (fun H locs hst => ?_)
      refine lv_iconst (v := 1) hx hb dX7_pour_56 (by decide) ?_
      exact q_retI hQ hE hr hk hst (upd dz j0 0) (by rw [if_pos hR, if_neg eb]) (by simp only [if_pos hR]; exact ck_jar hck (fun j hj => ⟨rfl, rfl, rfl, rfl, updB_n hj⟩)) (by simp only [if_pos hR]) dX7_pour_57
    · skip
      have eb := b2i_inj c_29
      subst eb
      skip
      refine lv_iconst (v := 0) hx hb dX7_pour_32 (by decide) ?_
      exact q_retI hQ hE hr hk hst (dz) (by rw [if_pos hR, if_pos rfl]) (by simp only [if_pos hR, updB_id]; exact hck) (by simp only [if_pos hR, updB_id]) dX7_pour_33
  · skip
    have c_4 := b2i_f c_4
    refine lv_aload_n hx hb dX7_pour_7 rfl (lv_at hl 0 rfl) ?_
    refine lv_iconst (v := (-1)) hx hb dX7_pour_8 (by decide) ?_
    refine q_goI (q_rV hE lk_X7_81 (c_X7_no l D cI cJ cZ x xf xs xk xp xd xo xn xr xy xi xt xq xb xw xl xm xe zl zt za zm zc ze zh zi zq zu zv ru (-1) (by rw [vp_in_iff]; decide) H.size) hst [0, 9] rfl rfl rfl rfl rfl hl.1 ⟨(Nat.le_of_ble_eq_true rfl), (Nat.le_of_ble_eq_true rfl)⟩ (rest := []) rfl (Nat.le_of_ble_eq_true rfl) dX7_pour_9 ⟨(Nat.le_of_ble_eq_true rfl), (Nat.le_of_ble_eq_true rfl)⟩) hE hst [0, 9] rfl (fun _ => rfl) (fun (_ : Unit) => [(x, .inr (7, [.ref xf, .ref xs, .ref xk, .ref xp, .ref xd, .ref xo, .ref xn, .ref xr, .ref xy, .ref xi, .int zl, .long zu, .long zv, .ref xt, .ref xq, .ref xb, .ref xw, .ref xl, .ref xm, .int zt, .int za, .int zm, .int zc, .int ze, .ref xe, .int zh, .int zi, .int zq])), (xs, .inl (cI, 2, .inl seF)), (xk, .inl (cI, 2, .inl (nR kF))), (xp, .inl (cI, 2, .inl (nR spF))), (xd, .inl (cI, 2, .inl (nR deF))), (xo, .inl (cI, 2, .inl (bR pF))), (xn, .inl (cI, 732, .inl nm)), (xr, .inl (cI, 366, .inl f)), (xi, .inl (cZ, 2, .inl dz)), (xf, .inl (cI, 7, .inl (bmp ru (-1))))]) (fun _ => rfl) (fun _ H locs hF hst => ?_)
    exact q_retI hQ hE hr hk hst (dz) (by rw [if_neg (show ¬ isJarB p0 = true by rw [c_4]; decide)]) (by simp only [if_neg (show ¬ isJarB p0 = true by rw [c_4]; decide)]; exact hck) (by simp only [if_neg (show ¬ isJarB p0 = true by rw [c_4]; decide)]) dX7_pour_12
set_option maxHeartbeats 4000000 in
set_option maxRecDepth 100000 in
theorem c_X7_passesK (l : Launch) (D : va_G) (cI cJ cZ : ClassId) (x : Nat) (xf : Nat) (xs : Nat) (xk : Nat) (xp : Nat) (xd : Nat) (xo : Nat) (xn : Nat) (xr : Nat) (xy : Nat) (xi : Nat) (xt : Nat) (xq : Nat) (xb : Nat) (xw : Nat) (xl : Nat) (xm : Nat) (xe : Nat) (zl : Int32) (zt : Int32) (za : Int32) (zm : Int32) (zc : Int32) (ze : Int32) (zh : Int32) (zu : Int64) (zv : Int64) (kp : Nat → Int32) (q : Nat) (N : Nat) (c0 : Nat) (g : Nat → Int32) (hN : c0 + N ≤ 250) : CtV l D cI cJ cZ yX7_passes cX7_passes 3 none 0 0 0 [.ref x, .ref q] [(x, .inr (7, [.ref xf, .ref xs, .ref xk, .ref xp, .ref xd, .ref xo, .ref xn, .ref xr, .ref xy, .ref xi, .int zl, .long zu, .long zv, .ref xt, .ref xq, .ref xb, .ref xw, .ref xl, .ref xm, .int zt, .int za, .int zm, .int zc, .int ze, .ref xe, .int zh, .int 1, .int (nI c0)])), (xe, .inl (cI, 250, .inl kp)), (q, .inl (cI, N, .inl g))] (fun (_ : Unit) => True) (fun (_ : Unit) => [(x, .inr (7, [.ref xf, .ref xs, .ref xk, .ref xp, .ref xd, .ref xo, .ref xn, .ref xr, .ref xy, .ref xi, .int zl, .long zu, .long zv, .ref xt, .ref xq, .ref xb, .ref xw, .ref xl, .ref xm, .int zt, .int za, .int zm, .int zc, .int ze, .ref xe, .int zh, .int 1, .int (nI (c0 + N))])), (xe, .inl (cI, 250, .inl (segK kp g c0 N))), (q, .inl (cI, N, .inl g))]) := by
  refine q_entV (own := RX7) rfl rfl (Nat.le_of_ble_eq_true rfl) ?_
  intro p e s m args below meth c A ls QQ hQ hE hx hb hr hk hin hA hl hst
  have hl : lv_has ls 3 [(0, .ref x), (1, .ref q)] := hl
  have loop_2 : ∀ (fu : Nat) (kq : Nat), (kq ≤ N) → (N - kq) < fu → ∀ (H : Heap) (locs : List Loc) (ls : Array Slot), SS D A s [(x, .inr (7, [.ref xf, .ref xs, .ref xk, .ref xp, .ref xd, .ref xo, .ref xn, .ref xr, .ref xy, .ref xi, .int zl, .long zu, .long zv, .ref xt, .ref xq, .ref xb, .ref xw, .ref xl, .ref xm, .int zt, .int za, .int zm, .int zc, .int ze, .ref xe, .int zh, .int 1, .int (nI (c0 + kq))])), (xe, .inl (cI, 250, .inl (segK kp g c0 kq))), (q, .inl (cI, N, .inl g))] H locs → lv_has ls 3 [(2, .int (nI kq)), (0, .ref x), (1, .ref q)] → W p l e (rmN 0 0 0) s m args below meth c H locs 0 0 QQ (F0 m 2 ls []) := by
    intro fu
    induction fu with
    | zero =>
      intro kq h1 hn
      exact absurd hn (Nat.not_lt_zero _)
    | succ fu ih =>
      intro kq h1 hn H locs ls hst hl
      refine lv_iload_n hx hb dX7_passes_2 rfl (lv_at hl 0 rfl) ?_
      refine lv_aload_n hx hb dX7_passes_3 rfl (lv_at hl 2 rfl) ?_
      refine q_len hE hst 2 rfl dX7_passes_4 ?_
      refine lv_icmp_ge (tgt := 58) hx hb dX7_passes_5 (by decide) (fun c_5 => ?_) (fun c_5 => ?_)
      · skip
        have hk1 : N = kq := Nat.le_antisymm (Nat.le_of_not_lt (fun z => nI_ge z (by omega) c_5)) h1
        subst hk1
        skip
        have hst : SS D A s [(x, .inr (7, [.ref xf, .ref xs, .ref xk, .ref xp, .ref xd, .ref xo, .ref xn, .ref xr, .ref xy, .ref xi, .int zl, .long zu, .long zv, .ref xt, .ref xq, .ref xb, .ref xw, .ref xl, .ref xm, .int zt, .int za, .int zm, .int zc, .int ze, .ref xe, .int zh, .int 1, .int (nI (c0 + N))])), (xe, .inl (cI, 250, .inl (segK kp g c0 N))), (q, .inl (cI, N, .inl g))] H locs := hst
        exact q_retV hQ hE hr hk hst () (trivial) (rfl) dX7_passes_58
      · skip
        have hk1 : kq < N := Nat.lt_of_not_le (fun z => c_5 (nI_le z (by omega)))
        refine lv_aload_n hx hb dX7_passes_8 rfl (lv_at hl 1 rfl) ?_
        refine gf_X7_207 hE hst 0 rfl rfl dX7_passes_9 ?_
        refine lv_if_eq (tgt := 30) hx hb dX7_passes_12 (by decide) (fun c_12 => ?_) (fun c_12 => ?_)
        · skip
          exact absurd c_12 (by decide)
        · skip
          refine lv_aload_n hx hb dX7_passes_15 rfl (lv_at hl 1 rfl) ?_
          refine gf_X7_66 hE hst 0 rfl rfl dX7_passes_16 ?_
          refine lv_aload_n hx hb dX7_passes_19 rfl (lv_at hl 1 rfl) ?_
          refine gf_X7_211 hE hst 0 rfl rfl dX7_passes_20 ?_
          refine lv_aload_n hx hb dX7_passes_23 rfl (lv_at hl 2 rfl) ?_
          refine lv_iload_n hx hb dX7_passes_24 rfl (lv_at hl 0 rfl) ?_
          refine q_aldN hE hst 2 rfl kq (rfl) (hk1) (by omega) dX7_passes_25 ?_
          refine q_astN hE hst 1 rfl (c0 + kq) (rfl) (by omega) (by omega) [(x, .inr (7, [.ref xf, .ref xs, .ref xk, .ref xp, .ref xd, .ref xo, .ref xn, .ref xr, .ref xy, .ref xi, .int zl, .long zu, .long zv, .ref xt, .ref xq, .ref xb, .ref xw, .ref xl, .ref xm, .int zt, .int za, .int zm, .int zc, .int ze, .ref xe, .int zh, .int 1, .int (nI (c0 + kq))])), (xe, .inl (cI, 250, .inl (upd (segK kp g c0 kq) (c0 + kq) (g kq)))), (q, .inl (cI, N, .inl g))] rfl dX7_passes_26 (fun H locs hst => ?_)
          have hst : SS D A s [(x, .inr (7, [.ref xf, .ref xs, .ref xk, .ref xp, .ref xd, .ref xo, .ref xn, .ref xr, .ref xy, .ref xi, .int zl, .long zu, .long zv, .ref xt, .ref xq, .ref xb, .ref xw, .ref xl, .ref xm, .int zt, .int za, .int zm, .int zc, .int ze, .ref xe, .int zh, .int 1, .int (nI (c0 + kq))])), (xe, .inl (cI, 250, .inl (segK kp g c0 (kq + 1)))), (q, .inl (cI, N, .inl g))] H locs := by have h := hst; rw [segK_s] at h; exact h
          refine lv_goto (tgt := 42) hx hb dX7_passes_27 (by decide) ?_
          have hst : SS D A s [(x, .inr (7, [.ref xf, .ref xs, .ref xk, .ref xp, .ref xd, .ref xo, .ref xn, .ref xr, .ref xy, .ref xi, .int zl, .long zu, .long zv, .ref xt, .ref xq, .ref xb, .ref xw, .ref xl, .ref xm, .int zt, .int za, .int zm, .int zc, .int ze, .ref xe, .int zh, .int 1, .int (nI (c0 + kq))])), (xe, .inl (cI, 250, .inl (segK kp g c0 (kq + 1)))), (q, .inl (cI, N, .inl g))] H locs := hst
          refine lv_aload_n hx hb dX7_passes_42 rfl (lv_at hl 1 rfl) ?_
          refine lv_dup hx hb dX7_passes_43 rfl ?_
          refine gf_X7_211 hE hst 0 rfl rfl dX7_passes_44 ?_
          refine lv_iconst (v := 1) hx hb dX7_passes_47 (by decide) ?_
          refine lv_iadd hx hb dX7_passes_48 ?_
          refine q_top (x' := nI (c0 + (kq + 1))) (nI_1 _) ?_
          refine pf_X7_211 hE hst 0 rfl (rfl) (rfl) (Nat.le_of_ble_eq_true rfl) [(x, .inr (7, [.ref xf, .ref xs, .ref xk, .ref xp, .ref xd, .ref xo, .ref xn, .ref xr, .ref xy, .ref xi, .int zl, .long zu, .long zv, .ref xt, .ref xq, .ref xb, .ref xw, .ref xl, .ref xm, .int zt, .int za, .int zm, .int zc, .int ze, .ref xe, .int zh, .int 1, .int (nI (c0 + (kq + 1)))])), (xe, .inl (cI, 250, .inl (segK kp g c0 (kq + 1)))), (q, .inl (cI, N, .inl g))] rfl dX7_passes_49 (fun H locs hst => ?_)
          refine lv_iinc (v := nI (kq + 1)) (lv' := [(2, .int (nI (kq + 1))), (0, .ref x), (1, .ref q)]) hx hb dX7_passes_52 hl (k := 0) rfl (nI_next _) (by decide) rfl (fun ls hl => ?_)
          refine lv_goto (tgt := 2) hx hb dX7_passes_55 (by decide) ?_
          exact ih (kq + 1) (by omega) (by omega) _ _ _ (hst) (lv_sub hl [0, 1, 2] rfl)
  refine lv_iconst (v := 0) hx hb dX7_passes_0 (by decide) ?_
  refine lv_istore_n (lv' := [(2, .int 0), (0, .ref x), (1, .ref q)]) hx hb dX7_passes_1 rfl hl (by decide) rfl (fun ls hl => ?_)
  exact loop_2 (N + 1) 0 (Nat.zero_le _) (by omega) _ _ _ (by rw [segK_0]; exact hst) (lv_sub hl [0, 1, 2] rfl)
set_option maxHeartbeats 4000000 in
set_option maxRecDepth 100000 in
theorem c_X7_passesB (l : Launch) (D : va_G) (cI cJ cZ : ClassId) (x : Nat) (xf : Nat) (xs : Nat) (xk : Nat) (xp : Nat) (xd : Nat) (xo : Nat) (xn : Nat) (xr : Nat) (xy : Nat) (xi : Nat) (xt : Nat) (xq : Nat) (xb : Nat) (xw : Nat) (xl : Nat) (xm : Nat) (xe : Nat) (zl : Int32) (zt : Int32) (za : Int32) (zm : Int32) (zc : Int32) (ze : Int32) (zh : Int32) (zu : Int64) (zv : Int64) (kp : Nat → Int32) (q : Nat) (N : Nat) (c0 : Nat) (g : Nat → Int32) (hN : c0 + N ≤ 250) : CtV l D cI cJ cZ yX7_passes cX7_passes 3 none 0 0 0 [.ref x, .ref q] [(x, .inr (7, [.ref xf, .ref xs, .ref xk, .ref xp, .ref xd, .ref xo, .ref xn, .ref xr, .ref xy, .ref xi, .int zl, .long zu, .long zv, .ref xt, .ref xq, .ref xb, .ref xw, .ref xl, .ref xm, .int zt, .int za, .int zm, .int zc, .int ze, .ref xe, .int zh, .int 0, .int (nI c0)])), (xe, .inl (cI, 250, .inl kp)), (q, .inl (cI, N, .inl g))] (fun (_ : Unit) => True) (fun (_ : Unit) => [(x, .inr (7, [.ref xf, .ref xs, .ref xk, .ref xp, .ref xd, .ref xo, .ref xn, .ref xr, .ref xy, .ref xi, .int zl, .long zu, .long zv, .ref xt, .ref xq, .ref xb, .ref xw, .ref xl, .ref xm, .int zt, .int za, .int zm, .int zc, .int ze, .ref xe, .int zh, .int 0, .int (nI (c0 + N))])), (xe, .inl (cI, 250, .inl kp)), (q, .inl (cI, N, .inl (fun x => kp (c0 + x))))]) := by
  refine q_entV (own := RX7) rfl rfl (Nat.le_of_ble_eq_true rfl) ?_
  intro p e s m args below meth c A ls QQ hQ hE hx hb hr hk hin hA hl hst
  have hl : lv_has ls 3 [(0, .ref x), (1, .ref q)] := hl
  have loop_2 : ∀ (fu : Nat) (kq : Nat), (kq ≤ N) → (N - kq) < fu → ∀ (H : Heap) (locs : List Loc) (ls : Array Slot), SS D A s [(x, .inr (7, [.ref xf, .ref xs, .ref xk, .ref xp, .ref xd, .ref xo, .ref xn, .ref xr, .ref xy, .ref xi, .int zl, .long zu, .long zv, .ref xt, .ref xq, .ref xb, .ref xw, .ref xl, .ref xm, .int zt, .int za, .int zm, .int zc, .int ze, .ref xe, .int zh, .int 0, .int (nI (c0 + kq))])), (xe, .inl (cI, 250, .inl kp)), (q, .inl (cI, N, .inl (bakK kp g c0 kq)))] H locs → lv_has ls 3 [(2, .int (nI kq)), (0, .ref x), (1, .ref q)] → W p l e (rmN 0 0 0) s m args below meth c H locs 0 0 QQ (F0 m 2 ls []) := by
    intro fu
    induction fu with
    | zero =>
      intro kq h1 hn
      exact absurd hn (Nat.not_lt_zero _)
    | succ fu ih =>
      intro kq h1 hn H locs ls hst hl
      refine lv_iload_n hx hb dX7_passes_2 rfl (lv_at hl 0 rfl) ?_
      refine lv_aload_n hx hb dX7_passes_3 rfl (lv_at hl 2 rfl) ?_
      refine q_len hE hst 2 rfl dX7_passes_4 ?_
      refine lv_icmp_ge (tgt := 58) hx hb dX7_passes_5 (by decide) (fun c_5 => ?_) (fun c_5 => ?_)
      · skip
        have hk1 : N = kq := Nat.le_antisymm (Nat.le_of_not_lt (fun z => nI_ge z (by omega) c_5)) h1
        subst hk1
        skip
        have hst : SS D A s [(x, .inr (7, [.ref xf, .ref xs, .ref xk, .ref xp, .ref xd, .ref xo, .ref xn, .ref xr, .ref xy, .ref xi, .int zl, .long zu, .long zv, .ref xt, .ref xq, .ref xb, .ref xw, .ref xl, .ref xm, .int zt, .int za, .int zm, .int zc, .int ze, .ref xe, .int zh, .int 0, .int (nI (c0 + N))])), (xe, .inl (cI, 250, .inl kp)), (q, .inl (cI, N, .inl (fun x => kp (c0 + x))))] H locs := q_arr hst 2 rfl (fun j hj => if_pos hj) _ rfl
        exact q_retV hQ hE hr hk hst () (trivial) (rfl) dX7_passes_58
      · skip
        have hk1 : kq < N := Nat.lt_of_not_le (fun z => c_5 (nI_le z (by omega)))
        refine lv_aload_n hx hb dX7_passes_8 rfl (lv_at hl 1 rfl) ?_
        refine gf_X7_207 hE hst 0 rfl rfl dX7_passes_9 ?_
        refine lv_if_eq (tgt := 30) hx hb dX7_passes_12 (by decide) (fun c_12 => ?_) (fun c_12 => ?_)
        · skip
          refine lv_aload_n hx hb dX7_passes_30 rfl (lv_at hl 2 rfl) ?_
          refine lv_iload_n hx hb dX7_passes_31 rfl (lv_at hl 0 rfl) ?_
          refine lv_aload_n hx hb dX7_passes_32 rfl (lv_at hl 1 rfl) ?_
          refine gf_X7_66 hE hst 0 rfl rfl dX7_passes_33 ?_
          refine lv_aload_n hx hb dX7_passes_36 rfl (lv_at hl 1 rfl) ?_
          refine gf_X7_211 hE hst 0 rfl rfl dX7_passes_37 ?_
          refine q_aldN hE hst 1 rfl (c0 + kq) (rfl) (by omega) (by omega) dX7_passes_40 ?_
          refine q_astN hE hst 2 rfl kq (rfl) (hk1) (by omega) [(x, .inr (7, [.ref xf, .ref xs, .ref xk, .ref xp, .ref xd, .ref xo, .ref xn, .ref xr, .ref xy, .ref xi, .int zl, .long zu, .long zv, .ref xt, .ref xq, .ref xb, .ref xw, .ref xl, .ref xm, .int zt, .int za, .int zm, .int zc, .int ze, .ref xe, .int zh, .int 0, .int (nI (c0 + kq))])), (xe, .inl (cI, 250, .inl kp)), (q, .inl (cI, N, .inl (upd (bakK kp g c0 kq) kq (kp (c0 + kq)))))] rfl dX7_passes_41 (fun H locs hst => ?_)
          have hst : SS D A s [(x, .inr (7, [.ref xf, .ref xs, .ref xk, .ref xp, .ref xd, .ref xo, .ref xn, .ref xr, .ref xy, .ref xi, .int zl, .long zu, .long zv, .ref xt, .ref xq, .ref xb, .ref xw, .ref xl, .ref xm, .int zt, .int za, .int zm, .int zc, .int ze, .ref xe, .int zh, .int 0, .int (nI (c0 + kq))])), (xe, .inl (cI, 250, .inl kp)), (q, .inl (cI, N, .inl (bakK kp g c0 (kq + 1))))] H locs := by have h := hst; rw [bakK_s] at h; exact h
          refine lv_aload_n hx hb dX7_passes_42 rfl (lv_at hl 1 rfl) ?_
          refine lv_dup hx hb dX7_passes_43 rfl ?_
          refine gf_X7_211 hE hst 0 rfl rfl dX7_passes_44 ?_
          refine lv_iconst (v := 1) hx hb dX7_passes_47 (by decide) ?_
          refine lv_iadd hx hb dX7_passes_48 ?_
          refine q_top (x' := nI (c0 + (kq + 1))) (nI_1 _) ?_
          refine pf_X7_211 hE hst 0 rfl (rfl) (rfl) (Nat.le_of_ble_eq_true rfl) [(x, .inr (7, [.ref xf, .ref xs, .ref xk, .ref xp, .ref xd, .ref xo, .ref xn, .ref xr, .ref xy, .ref xi, .int zl, .long zu, .long zv, .ref xt, .ref xq, .ref xb, .ref xw, .ref xl, .ref xm, .int zt, .int za, .int zm, .int zc, .int ze, .ref xe, .int zh, .int 0, .int (nI (c0 + (kq + 1)))])), (xe, .inl (cI, 250, .inl kp)), (q, .inl (cI, N, .inl (bakK kp g c0 (kq + 1))))] rfl dX7_passes_49 (fun H locs hst => ?_)
          refine lv_iinc (v := nI (kq + 1)) (lv' := [(2, .int (nI (kq + 1))), (0, .ref x), (1, .ref q)]) hx hb dX7_passes_52 hl (k := 0) rfl (nI_next _) (by decide) rfl (fun ls hl => ?_)
          refine lv_goto (tgt := 2) hx hb dX7_passes_55 (by decide) ?_
          exact ih (kq + 1) (by omega) (by omega) _ _ _ (hst) (lv_sub hl [0, 1, 2] rfl)
        · skip
          exact absurd c_12 (by decide)
  refine lv_iconst (v := 0) hx hb dX7_passes_0 (by decide) ?_
  refine lv_istore_n (lv' := [(2, .int 0), (0, .ref x), (1, .ref q)]) hx hb dX7_passes_1 rfl hl (by decide) rfl (fun ls hl => ?_)
  exact loop_2 (N + 1) 0 (Nat.zero_le _) (by omega) _ _ _ (by rw [bakK_0]; exact hst) (lv_sub hl [0, 1, 2] rfl)
set_option maxHeartbeats 4000000 in
set_option maxRecDepth 100000 in
theorem c_X7_passOneK (l : Launch) (D : va_G) (cI cJ cZ : ClassId) (x : Nat) (xf : Nat) (xs : Nat) (xk : Nat) (xp : Nat) (xd : Nat) (xo : Nat) (xn : Nat) (xr : Nat) (xy : Nat) (xi : Nat) (xt : Nat) (xq : Nat) (xb : Nat) (xw : Nat) (xl : Nat) (xm : Nat) (xe : Nat) (zl : Int32) (zt : Int32) (za : Int32) (zm : Int32) (zc : Int32) (ze : Int32) (zh : Int32) (zu : Int64) (zv : Int64) (kp : Nat → Int32) (c0 : Nat) (p0 : Int32) (hN : c0 < 250) : CtI l D cI cJ cZ yX7_passOne cX7_passOne 3 (some .int) 0 [.ref x, .int p0] [(x, .inr (7, [.ref xf, .ref xs, .ref xk, .ref xp, .ref xd, .ref xo, .ref xn, .ref xr, .ref xy, .ref xi, .int zl, .long zu, .long zv, .ref xt, .ref xq, .ref xb, .ref xw, .ref xl, .ref xm, .int zt, .int za, .int zm, .int zc, .int ze, .ref xe, .int zh, .int 1, .int (nI c0)])), (xe, .inl (cI, 250, .inl kp))] (fun (_ : Unit) => p0) (fun (_ : Unit) => True) (fun (_ : Unit) => [(x, .inr (7, [.ref xf, .ref xs, .ref xk, .ref xp, .ref xd, .ref xo, .ref xn, .ref xr, .ref xy, .ref xi, .int zl, .long zu, .long zv, .ref xt, .ref xq, .ref xb, .ref xw, .ref xl, .ref xm, .int zt, .int za, .int zm, .int zc, .int ze, .ref xe, .int zh, .int 1, .int (nI (c0 + 1))])), (xe, .inl (cI, 250, .inl (upd kp c0 p0)))]) := by
  refine q_entI (own := RX7) rfl rfl (Nat.le_of_ble_eq_true rfl) ?_
  intro p e s m args below meth c A ls QQ hQ hE hx hb hr hk hin hA hl hst
  have hl : lv_has ls 3 [(0, .ref x), (1, .int p0)] := hl
  refine lv_aload_n hx hb dX7_passOne_0 rfl (lv_at hl 0 rfl) ?_
  refine gf_X7_207 hE hst 0 rfl rfl dX7_passOne_1 ?_
  refine lv_if_eq (tgt := 11) hx hb dX7_passOne_4 (by decide) (fun c_4 => ?_) (fun c_4 => ?_)
  · skip
    exact absurd c_4 (by decide)
  · skip
    refine lv_iload_n hx hb dX7_passOne_7 rfl (lv_at hl 1 rfl) ?_
    refine lv_goto (tgt := 20) hx hb dX7_passOne_8 (by decide) ?_
    refine lv_istore_n (lv' := [(2, .int p0), (0, .ref x), (1, .int p0)]) hx hb dX7_passOne_20 rfl hl (by decide) rfl (fun ls hl => ?_)
    refine lv_aload_n hx hb dX7_passOne_21 rfl (lv_at hl 1 rfl) ?_
    refine gf_X7_207 hE hst 0 rfl rfl dX7_passOne_22 ?_
    refine lv_if_eq (tgt := 38) hx hb dX7_passOne_25 (by decide) (fun c_25 => ?_) (fun c_25 => ?_)
    · skip
      exact absurd c_25 (by decide)
    · skip
      refine lv_aload_n hx hb dX7_passOne_28 rfl (lv_at hl 1 rfl) ?_
      refine gf_X7_66 hE hst 0 rfl rfl dX7_passOne_29 ?_
      refine lv_aload_n hx hb dX7_passOne_32 rfl (lv_at hl 1 rfl) ?_
      refine gf_X7_211 hE hst 0 rfl rfl dX7_passOne_33 ?_
      refine lv_iload_n hx hb dX7_passOne_36 rfl (lv_at hl 2 rfl) ?_
      refine q_astN hE hst 1 rfl c0 (rfl) (hN) (by decide) [(x, .inr (7, [.ref xf, .ref xs, .ref xk, .ref xp, .ref xd, .ref xo, .ref xn, .ref xr, .ref xy, .ref xi, .int zl, .long zu, .long zv, .ref xt, .ref xq, .ref xb, .ref xw, .ref xl, .ref xm, .int zt, .int za, .int zm, .int zc, .int ze, .ref xe, .int zh, .int 1, .int (nI c0)])), (xe, .inl (cI, 250, .inl (upd kp c0 p0)))] rfl dX7_passOne_37 (fun H locs hst => ?_)
      refine lv_aload_n hx hb dX7_passOne_38 rfl (lv_at hl 1 rfl) ?_
      refine lv_dup hx hb dX7_passOne_39 rfl ?_
      refine gf_X7_211 hE hst 0 rfl rfl dX7_passOne_40 ?_
      refine lv_iconst (v := 1) hx hb dX7_passOne_43 (by decide) ?_
      refine lv_iadd hx hb dX7_passOne_44 ?_
      refine q_top (x' := nI (c0 + 1)) (nI_1 _) ?_
      refine pf_X7_211 hE hst 0 rfl (rfl) (rfl) (Nat.le_of_ble_eq_true rfl) [(x, .inr (7, [.ref xf, .ref xs, .ref xk, .ref xp, .ref xd, .ref xo, .ref xn, .ref xr, .ref xy, .ref xi, .int zl, .long zu, .long zv, .ref xt, .ref xq, .ref xb, .ref xw, .ref xl, .ref xm, .int zt, .int za, .int zm, .int zc, .int ze, .ref xe, .int zh, .int 1, .int (nI (c0 + 1))])), (xe, .inl (cI, 250, .inl (upd kp c0 p0)))] rfl dX7_passOne_45 (fun H locs hst => ?_)
      refine lv_iload_n hx hb dX7_passOne_48 rfl (lv_at hl 0 rfl) ?_
      exact q_retI hQ hE hr hk hst () (rfl) (trivial) (rfl) dX7_passOne_49
set_option maxHeartbeats 4000000 in
set_option maxRecDepth 100000 in
theorem c_X7_passOneB (l : Launch) (D : va_G) (cI cJ cZ : ClassId) (x : Nat) (xf : Nat) (xs : Nat) (xk : Nat) (xp : Nat) (xd : Nat) (xo : Nat) (xn : Nat) (xr : Nat) (xy : Nat) (xi : Nat) (xt : Nat) (xq : Nat) (xb : Nat) (xw : Nat) (xl : Nat) (xm : Nat) (xe : Nat) (zl : Int32) (zt : Int32) (za : Int32) (zm : Int32) (zc : Int32) (ze : Int32) (zh : Int32) (zu : Int64) (zv : Int64) (kp : Nat → Int32) (c0 : Nat) (p0 : Int32) (hN : c0 < 250) : CtI l D cI cJ cZ yX7_passOne cX7_passOne 3 (some .int) 0 [.ref x, .int p0] [(x, .inr (7, [.ref xf, .ref xs, .ref xk, .ref xp, .ref xd, .ref xo, .ref xn, .ref xr, .ref xy, .ref xi, .int zl, .long zu, .long zv, .ref xt, .ref xq, .ref xb, .ref xw, .ref xl, .ref xm, .int zt, .int za, .int zm, .int zc, .int ze, .ref xe, .int zh, .int 0, .int (nI c0)])), (xe, .inl (cI, 250, .inl kp))] (fun (_ : Unit) => kp c0) (fun (_ : Unit) => True) (fun (_ : Unit) => [(x, .inr (7, [.ref xf, .ref xs, .ref xk, .ref xp, .ref xd, .ref xo, .ref xn, .ref xr, .ref xy, .ref xi, .int zl, .long zu, .long zv, .ref xt, .ref xq, .ref xb, .ref xw, .ref xl, .ref xm, .int zt, .int za, .int zm, .int zc, .int ze, .ref xe, .int zh, .int 0, .int (nI (c0 + 1))])), (xe, .inl (cI, 250, .inl kp))]) := by
  refine q_entI (own := RX7) rfl rfl (Nat.le_of_ble_eq_true rfl) ?_
  intro p e s m args below meth c A ls QQ hQ hE hx hb hr hk hin hA hl hst
  have hl : lv_has ls 3 [(0, .ref x), (1, .int p0)] := hl
  refine lv_aload_n hx hb dX7_passOne_0 rfl (lv_at hl 0 rfl) ?_
  refine gf_X7_207 hE hst 0 rfl rfl dX7_passOne_1 ?_
  refine lv_if_eq (tgt := 11) hx hb dX7_passOne_4 (by decide) (fun c_4 => ?_) (fun c_4 => ?_)
  · skip
    refine lv_aload_n hx hb dX7_passOne_11 rfl (lv_at hl 0 rfl) ?_
    refine gf_X7_66 hE hst 0 rfl rfl dX7_passOne_12 ?_
    refine lv_aload_n hx hb dX7_passOne_15 rfl (lv_at hl 0 rfl) ?_
    refine gf_X7_211 hE hst 0 rfl rfl dX7_passOne_16 ?_
    refine q_aldN hE hst 1 rfl c0 (rfl) (hN) (by decide) dX7_passOne_19 ?_
    refine lv_istore_n (lv' := [(2, .int (kp c0)), (0, .ref x), (1, .int p0)]) hx hb dX7_passOne_20 rfl hl (by decide) rfl (fun ls hl => ?_)
    refine lv_aload_n hx hb dX7_passOne_21 rfl (lv_at hl 1 rfl) ?_
    refine gf_X7_207 hE hst 0 rfl rfl dX7_passOne_22 ?_
    refine lv_if_eq (tgt := 38) hx hb dX7_passOne_25 (by decide) (fun c_25 => ?_) (fun c_25 => ?_)
    · skip
      refine lv_aload_n hx hb dX7_passOne_38 rfl (lv_at hl 1 rfl) ?_
      refine lv_dup hx hb dX7_passOne_39 rfl ?_
      refine gf_X7_211 hE hst 0 rfl rfl dX7_passOne_40 ?_
      refine lv_iconst (v := 1) hx hb dX7_passOne_43 (by decide) ?_
      refine lv_iadd hx hb dX7_passOne_44 ?_
      refine q_top (x' := nI (c0 + 1)) (nI_1 _) ?_
      refine pf_X7_211 hE hst 0 rfl (rfl) (rfl) (Nat.le_of_ble_eq_true rfl) [(x, .inr (7, [.ref xf, .ref xs, .ref xk, .ref xp, .ref xd, .ref xo, .ref xn, .ref xr, .ref xy, .ref xi, .int zl, .long zu, .long zv, .ref xt, .ref xq, .ref xb, .ref xw, .ref xl, .ref xm, .int zt, .int za, .int zm, .int zc, .int ze, .ref xe, .int zh, .int 0, .int (nI (c0 + 1))])), (xe, .inl (cI, 250, .inl kp))] rfl dX7_passOne_45 (fun H locs hst => ?_)
      refine lv_iload_n hx hb dX7_passOne_48 rfl (lv_at hl 0 rfl) ?_
      exact q_retI hQ hE hr hk hst () (rfl) (trivial) (rfl) dX7_passOne_49
    · skip
      exact absurd c_25 (by decide)
  · skip
    exact absurd c_4 (by decide)
set_option maxHeartbeats 4000000 in
set_option maxRecDepth 100000 in
theorem c_X7_passesAllK (l : Launch) (D : va_G) (cI cJ cZ : ClassId) (x : Nat) (xf : Nat) (xs : Nat) (xk : Nat) (xp : Nat) (xd : Nat) (xo : Nat) (xn : Nat) (xr : Nat) (xy : Nat) (xi : Nat) (xt : Nat) (xq : Nat) (xb : Nat) (xw : Nat) (xl : Nat) (xm : Nat) (xe : Nat) (zl : Int32) (zt : Int32) (za : Int32) (zm : Int32) (zc : Int32) (ze : Int32) (zh : Int32) (zq : Int32) (zu : Int64) (zv : Int64) (kp : Nat → Int32) (seF : Nat → Int32) (kF : Nat → Nat) (spF : Nat → Nat) (deF : Nat → Nat) (pF : Nat → Bool) (ki : Nat → Int32) (bi : Nat → Int32) (pa : Nat → Int32) (la : Nat → Int32) : CtV l D cI cJ cZ yX7_passesAll cX7_passesAll 1 none 1 0 0 [.ref x] [(x, .inr (7, [.ref xf, .ref xs, .ref xk, .ref xp, .ref xd, .ref xo, .ref xn, .ref xr, .ref xy, .ref xi, .int zl, .long zu, .long zv, .ref xt, .ref xq, .ref xb, .ref xw, .ref xl, .ref xm, .int zt, .int za, .int zm, .int zc, .int ze, .ref xe, .int zh, .int 1, .int zq])), (xe, .inl (cI, 250, .inl kp)), (xs, .inl (cI, 2, .inl seF)), (xk, .inl (cI, 2, .inl (nR kF))), (xp, .inl (cI, 2, .inl (nR spF))), (xd, .inl (cI, 2, .inl (nR deF))), (xo, .inl (cI, 2, .inl (bR pF))), (xq, .inl (cI, 60, .inl ki)), (xb, .inl (cI, 60, .inl bi)), (xw, .inl (cI, 60, .inl pa)), (xl, .inl (cI, 5, .inl la))] (fun (_ : Unit) => True) (fun (_ : Unit) => [(x, .inr (7, [.ref xf, .ref xs, .ref xk, .ref xp, .ref xd, .ref xo, .ref xn, .ref xr, .ref xy, .ref xi, .int zl, .long zu, .long zv, .ref xt, .ref xq, .ref xb, .ref xw, .ref xl, .ref xm, .int zt, .int za, .int zm, .int zc, .int ze, .ref xe, .int zh, .int 1, .int 198])), (xe, .inl (cI, 250, .inl (imgK kp seF kF spF deF pF ki bi pa la zm zc ze))), (xs, .inl (cI, 2, .inl seF)), (xk, .inl (cI, 2, .inl (nR kF))), (xp, .inl (cI, 2, .inl (nR spF))), (xd, .inl (cI, 2, .inl (nR deF))), (xo, .inl (cI, 2, .inl (bR pF))), (xq, .inl (cI, 60, .inl ki)), (xb, .inl (cI, 60, .inl bi)), (xw, .inl (cI, 60, .inl pa)), (xl, .inl (cI, 5, .inl la))]) := by
  refine q_entV (own := RX7) rfl rfl (Nat.le_of_ble_eq_true rfl) ?_
  intro p e s m args below meth c A ls QQ hQ hE hx hb hr hk hin hA hl hst
  have hl : lv_has ls 1 [(0, .ref x)] := hl
  refine lv_aload_n hx hb dX7_passesAll_0 rfl (lv_at hl 0 rfl) ?_
  refine lv_iconst (v := 0) hx hb dX7_passesAll_1 (by decide) ?_
  refine pf_X7_211 hE hst 0 rfl (rfl) (rfl) (Nat.le_of_ble_eq_true rfl) [(x, .inr (7, [.ref xf, .ref xs, .ref xk, .ref xp, .ref xd, .ref xo, .ref xn, .ref xr, .ref xy, .ref xi, .int zl, .long zu, .long zv, .ref xt, .ref xq, .ref xb, .ref xw, .ref xl, .ref xm, .int zt, .int za, .int zm, .int zc, .int ze, .ref xe, .int zh, .int 1, .int 0])), (xe, .inl (cI, 250, .inl kp)), (xs, .inl (cI, 2, .inl seF)), (xk, .inl (cI, 2, .inl (nR kF))), (xp, .inl (cI, 2, .inl (nR spF))), (xd, .inl (cI, 2, .inl (nR deF))), (xo, .inl (cI, 2, .inl (bR pF))), (xq, .inl (cI, 60, .inl ki)), (xb, .inl (cI, 60, .inl bi)), (xw, .inl (cI, 60, .inl pa)), (xl, .inl (cI, 5, .inl la))] rfl dX7_passesAll_2 (fun H locs hst => ?_)
  refine lv_aload_n hx hb dX7_passesAll_5 rfl (lv_at hl 0 rfl) ?_
  refine lv_aload_n hx hb dX7_passesAll_6 rfl (lv_at hl 0 rfl) ?_
  refine gf_X7_13 hE hst 0 rfl rfl dX7_passesAll_7 ?_
  refine q_goV (q_rV hE lk_X7_214 (c_X7_passesK l D cI cJ cZ x xf xs xk xp xd xo xn xr xy xi xt xq xb xw xl xm xe zl zt za zm zc ze zh zu zv kp xs 2 0 seF (by decide) H.size) hst [0, 1, 2] rfl rfl rfl rfl rfl hl.1 ⟨(Nat.le_of_ble_eq_true rfl), (Nat.le_of_ble_eq_true rfl)⟩ (rest := []) rfl (Nat.le_of_ble_eq_true rfl) dX7_passesAll_10 ⟨(Nat.le_of_ble_eq_true rfl), (Nat.le_of_ble_eq_true rfl)⟩) hE hst [0, 1, 2] rfl (fun _ => rfl) (fun (_ : Unit) => [(x, .inr (7, [.ref xf, .ref xs, .ref xk, .ref xp, .ref xd, .ref xo, .ref xn, .ref xr, .ref xy, .ref xi, .int zl, .long zu, .long zv, .ref xt, .ref xq, .ref xb, .ref xw, .ref xl, .ref xm, .int zt, .int za, .int zm, .int zc, .int ze, .ref xe, .int zh, .int 1, .int (nI (0 + 2))])), (xe, .inl (cI, 250, .inl (segK kp seF 0 2))), (xs, .inl (cI, 2, .inl seF)), (xk, .inl (cI, 2, .inl (nR kF))), (xp, .inl (cI, 2, .inl (nR spF))), (xd, .inl (cI, 2, .inl (nR deF))), (xo, .inl (cI, 2, .inl (bR pF))), (xq, .inl (cI, 60, .inl ki)), (xb, .inl (cI, 60, .inl bi)), (xw, .inl (cI, 60, .inl pa)), (xl, .inl (cI, 5, .inl la))]) (fun _ => rfl) (fun _ H locs hF hst => ?_)
  refine lv_aload_n hx hb dX7_passesAll_13 rfl (lv_at hl 0 rfl) ?_
  refine lv_aload_n hx hb dX7_passesAll_14 rfl (lv_at hl 0 rfl) ?_
  refine gf_X7_16 hE hst 0 rfl rfl dX7_passesAll_15 ?_
  refine q_goV (q_rV hE lk_X7_214 (c_X7_passesK l D cI cJ cZ x xf xs xk xp xd xo xn xr xy xi xt xq xb xw xl xm xe zl zt za zm zc ze zh zu zv (segK kp seF 0 2) xk 2 2 (nR kF) (by decide) H.size) hst [0, 1, 3] rfl rfl rfl rfl rfl hl.1 ⟨(Nat.le_of_ble_eq_true rfl), (Nat.le_of_ble_eq_true rfl)⟩ (rest := []) rfl (Nat.le_of_ble_eq_true rfl) dX7_passesAll_18 ⟨(Nat.le_of_ble_eq_true rfl), (Nat.le_of_ble_eq_true rfl)⟩) hE hst [0, 1, 3] rfl (fun _ => rfl) (fun (_ : Unit) => [(x, .inr (7, [.ref xf, .ref xs, .ref xk, .ref xp, .ref xd, .ref xo, .ref xn, .ref xr, .ref xy, .ref xi, .int zl, .long zu, .long zv, .ref xt, .ref xq, .ref xb, .ref xw, .ref xl, .ref xm, .int zt, .int za, .int zm, .int zc, .int ze, .ref xe, .int zh, .int 1, .int (nI (2 + 2))])), (xe, .inl (cI, 250, .inl (segK (segK kp seF 0 2) (nR kF) 2 2))), (xs, .inl (cI, 2, .inl seF)), (xk, .inl (cI, 2, .inl (nR kF))), (xp, .inl (cI, 2, .inl (nR spF))), (xd, .inl (cI, 2, .inl (nR deF))), (xo, .inl (cI, 2, .inl (bR pF))), (xq, .inl (cI, 60, .inl ki)), (xb, .inl (cI, 60, .inl bi)), (xw, .inl (cI, 60, .inl pa)), (xl, .inl (cI, 5, .inl la))]) (fun _ => rfl) (fun _ H locs hF hst => ?_)
  refine lv_aload_n hx hb dX7_passesAll_21 rfl (lv_at hl 0 rfl) ?_
  refine lv_aload_n hx hb dX7_passesAll_22 rfl (lv_at hl 0 rfl) ?_
  refine gf_X7_19 hE hst 0 rfl rfl dX7_passesAll_23 ?_
  refine q_goV (q_rV hE lk_X7_214 (c_X7_passesK l D cI cJ cZ x xf xs xk xp xd xo xn xr xy xi xt xq xb xw xl xm xe zl zt za zm zc ze zh zu zv (segK (segK kp seF 0 2) (nR kF) 2 2) xp 2 4 (nR spF) (by decide) H.size) hst [0, 1, 4] rfl rfl rfl rfl rfl hl.1 ⟨(Nat.le_of_ble_eq_true rfl), (Nat.le_of_ble_eq_true rfl)⟩ (rest := []) rfl (Nat.le_of_ble_eq_true rfl) dX7_passesAll_26 ⟨(Nat.le_of_ble_eq_true rfl), (Nat.le_of_ble_eq_true rfl)⟩) hE hst [0, 1, 4] rfl (fun _ => rfl) (fun (_ : Unit) => [(x, .inr (7, [.ref xf, .ref xs, .ref xk, .ref xp, .ref xd, .ref xo, .ref xn, .ref xr, .ref xy, .ref xi, .int zl, .long zu, .long zv, .ref xt, .ref xq, .ref xb, .ref xw, .ref xl, .ref xm, .int zt, .int za, .int zm, .int zc, .int ze, .ref xe, .int zh, .int 1, .int (nI (4 + 2))])), (xe, .inl (cI, 250, .inl (segK (segK (segK kp seF 0 2) (nR kF) 2 2) (nR spF) 4 2))), (xs, .inl (cI, 2, .inl seF)), (xk, .inl (cI, 2, .inl (nR kF))), (xp, .inl (cI, 2, .inl (nR spF))), (xd, .inl (cI, 2, .inl (nR deF))), (xo, .inl (cI, 2, .inl (bR pF))), (xq, .inl (cI, 60, .inl ki)), (xb, .inl (cI, 60, .inl bi)), (xw, .inl (cI, 60, .inl pa)), (xl, .inl (cI, 5, .inl la))]) (fun _ => rfl) (fun _ H locs hF hst => ?_)
  refine lv_aload_n hx hb dX7_passesAll_29 rfl (lv_at hl 0 rfl) ?_
  refine lv_aload_n hx hb dX7_passesAll_30 rfl (lv_at hl 0 rfl) ?_
  refine gf_X7_22 hE hst 0 rfl rfl dX7_passesAll_31 ?_
  refine q_goV (q_rV hE lk_X7_214 (c_X7_passesK l D cI cJ cZ x xf xs xk xp xd xo xn xr xy xi xt xq xb xw xl xm xe zl zt za zm zc ze zh zu zv (segK (segK (segK kp seF 0 2) (nR kF) 2 2) (nR spF) 4 2) xd 2 6 (nR deF) (by decide) H.size) hst [0, 1, 5] rfl rfl rfl rfl rfl hl.1 ⟨(Nat.le_of_ble_eq_true rfl), (Nat.le_of_ble_eq_true rfl)⟩ (rest := []) rfl (Nat.le_of_ble_eq_true rfl) dX7_passesAll_34 ⟨(Nat.le_of_ble_eq_true rfl), (Nat.le_of_ble_eq_true rfl)⟩) hE hst [0, 1, 5] rfl (fun _ => rfl) (fun (_ : Unit) => [(x, .inr (7, [.ref xf, .ref xs, .ref xk, .ref xp, .ref xd, .ref xo, .ref xn, .ref xr, .ref xy, .ref xi, .int zl, .long zu, .long zv, .ref xt, .ref xq, .ref xb, .ref xw, .ref xl, .ref xm, .int zt, .int za, .int zm, .int zc, .int ze, .ref xe, .int zh, .int 1, .int (nI (6 + 2))])), (xe, .inl (cI, 250, .inl (segK (segK (segK (segK kp seF 0 2) (nR kF) 2 2) (nR spF) 4 2) (nR deF) 6 2))), (xs, .inl (cI, 2, .inl seF)), (xk, .inl (cI, 2, .inl (nR kF))), (xp, .inl (cI, 2, .inl (nR spF))), (xd, .inl (cI, 2, .inl (nR deF))), (xo, .inl (cI, 2, .inl (bR pF))), (xq, .inl (cI, 60, .inl ki)), (xb, .inl (cI, 60, .inl bi)), (xw, .inl (cI, 60, .inl pa)), (xl, .inl (cI, 5, .inl la))]) (fun _ => rfl) (fun _ H locs hF hst => ?_)
  refine lv_aload_n hx hb dX7_passesAll_37 rfl (lv_at hl 0 rfl) ?_
  refine lv_aload_n hx hb dX7_passesAll_38 rfl (lv_at hl 0 rfl) ?_
  refine gf_X7_25 hE hst 0 rfl rfl dX7_passesAll_39 ?_
  refine q_goV (q_rV hE lk_X7_214 (c_X7_passesK l D cI cJ cZ x xf xs xk xp xd xo xn xr xy xi xt xq xb xw xl xm xe zl zt za zm zc ze zh zu zv (segK (segK (segK (segK kp seF 0 2) (nR kF) 2 2) (nR spF) 4 2) (nR deF) 6 2) xo 2 8 (bR pF) (by decide) H.size) hst [0, 1, 6] rfl rfl rfl rfl rfl hl.1 ⟨(Nat.le_of_ble_eq_true rfl), (Nat.le_of_ble_eq_true rfl)⟩ (rest := []) rfl (Nat.le_of_ble_eq_true rfl) dX7_passesAll_42 ⟨(Nat.le_of_ble_eq_true rfl), (Nat.le_of_ble_eq_true rfl)⟩) hE hst [0, 1, 6] rfl (fun _ => rfl) (fun (_ : Unit) => [(x, .inr (7, [.ref xf, .ref xs, .ref xk, .ref xp, .ref xd, .ref xo, .ref xn, .ref xr, .ref xy, .ref xi, .int zl, .long zu, .long zv, .ref xt, .ref xq, .ref xb, .ref xw, .ref xl, .ref xm, .int zt, .int za, .int zm, .int zc, .int ze, .ref xe, .int zh, .int 1, .int (nI (8 + 2))])), (xe, .inl (cI, 250, .inl (segK (segK (segK (segK (segK kp seF 0 2) (nR kF) 2 2) (nR spF) 4 2) (nR deF) 6 2) (bR pF) 8 2))), (xs, .inl (cI, 2, .inl seF)), (xk, .inl (cI, 2, .inl (nR kF))), (xp, .inl (cI, 2, .inl (nR spF))), (xd, .inl (cI, 2, .inl (nR deF))), (xo, .inl (cI, 2, .inl (bR pF))), (xq, .inl (cI, 60, .inl ki)), (xb, .inl (cI, 60, .inl bi)), (xw, .inl (cI, 60, .inl pa)), (xl, .inl (cI, 5, .inl la))]) (fun _ => rfl) (fun _ H locs hF hst => ?_)
  refine lv_aload_n hx hb dX7_passesAll_45 rfl (lv_at hl 0 rfl) ?_
  refine lv_aload_n hx hb dX7_passesAll_46 rfl (lv_at hl 0 rfl) ?_
  refine gf_X7_44 hE hst 0 rfl rfl dX7_passesAll_47 ?_
  refine q_goV (q_rV hE lk_X7_214 (c_X7_passesK l D cI cJ cZ x xf xs xk xp xd xo xn xr xy xi xt xq xb xw xl xm xe zl zt za zm zc ze zh zu zv (segK (segK (segK (segK (segK kp seF 0 2) (nR kF) 2 2) (nR spF) 4 2) (nR deF) 6 2) (bR pF) 8 2) xq 60 10 ki (by decide) H.size) hst [0, 1, 7] rfl rfl rfl rfl rfl hl.1 ⟨(Nat.le_of_ble_eq_true rfl), (Nat.le_of_ble_eq_true rfl)⟩ (rest := []) rfl (Nat.le_of_ble_eq_true rfl) dX7_passesAll_50 ⟨(Nat.le_of_ble_eq_true rfl), (Nat.le_of_ble_eq_true rfl)⟩) hE hst [0, 1, 7] rfl (fun _ => rfl) (fun (_ : Unit) => [(x, .inr (7, [.ref xf, .ref xs, .ref xk, .ref xp, .ref xd, .ref xo, .ref xn, .ref xr, .ref xy, .ref xi, .int zl, .long zu, .long zv, .ref xt, .ref xq, .ref xb, .ref xw, .ref xl, .ref xm, .int zt, .int za, .int zm, .int zc, .int ze, .ref xe, .int zh, .int 1, .int (nI (10 + 60))])), (xe, .inl (cI, 250, .inl (segK (segK (segK (segK (segK (segK kp seF 0 2) (nR kF) 2 2) (nR spF) 4 2) (nR deF) 6 2) (bR pF) 8 2) ki 10 60))), (xs, .inl (cI, 2, .inl seF)), (xk, .inl (cI, 2, .inl (nR kF))), (xp, .inl (cI, 2, .inl (nR spF))), (xd, .inl (cI, 2, .inl (nR deF))), (xo, .inl (cI, 2, .inl (bR pF))), (xq, .inl (cI, 60, .inl ki)), (xb, .inl (cI, 60, .inl bi)), (xw, .inl (cI, 60, .inl pa)), (xl, .inl (cI, 5, .inl la))]) (fun _ => rfl) (fun _ H locs hF hst => ?_)
  refine lv_aload_n hx hb dX7_passesAll_53 rfl (lv_at hl 0 rfl) ?_
  refine lv_aload_n hx hb dX7_passesAll_54 rfl (lv_at hl 0 rfl) ?_
  refine gf_X7_47 hE hst 0 rfl rfl dX7_passesAll_55 ?_
  refine q_goV (q_rV hE lk_X7_214 (c_X7_passesK l D cI cJ cZ x xf xs xk xp xd xo xn xr xy xi xt xq xb xw xl xm xe zl zt za zm zc ze zh zu zv (segK (segK (segK (segK (segK (segK kp seF 0 2) (nR kF) 2 2) (nR spF) 4 2) (nR deF) 6 2) (bR pF) 8 2) ki 10 60) xb 60 70 bi (by decide) H.size) hst [0, 1, 8] rfl rfl rfl rfl rfl hl.1 ⟨(Nat.le_of_ble_eq_true rfl), (Nat.le_of_ble_eq_true rfl)⟩ (rest := []) rfl (Nat.le_of_ble_eq_true rfl) dX7_passesAll_58 ⟨(Nat.le_of_ble_eq_true rfl), (Nat.le_of_ble_eq_true rfl)⟩) hE hst [0, 1, 8] rfl (fun _ => rfl) (fun (_ : Unit) => [(x, .inr (7, [.ref xf, .ref xs, .ref xk, .ref xp, .ref xd, .ref xo, .ref xn, .ref xr, .ref xy, .ref xi, .int zl, .long zu, .long zv, .ref xt, .ref xq, .ref xb, .ref xw, .ref xl, .ref xm, .int zt, .int za, .int zm, .int zc, .int ze, .ref xe, .int zh, .int 1, .int (nI (70 + 60))])), (xe, .inl (cI, 250, .inl (segK (segK (segK (segK (segK (segK (segK kp seF 0 2) (nR kF) 2 2) (nR spF) 4 2) (nR deF) 6 2) (bR pF) 8 2) ki 10 60) bi 70 60))), (xs, .inl (cI, 2, .inl seF)), (xk, .inl (cI, 2, .inl (nR kF))), (xp, .inl (cI, 2, .inl (nR spF))), (xd, .inl (cI, 2, .inl (nR deF))), (xo, .inl (cI, 2, .inl (bR pF))), (xq, .inl (cI, 60, .inl ki)), (xb, .inl (cI, 60, .inl bi)), (xw, .inl (cI, 60, .inl pa)), (xl, .inl (cI, 5, .inl la))]) (fun _ => rfl) (fun _ H locs hF hst => ?_)
  refine lv_aload_n hx hb dX7_passesAll_61 rfl (lv_at hl 0 rfl) ?_
  refine lv_aload_n hx hb dX7_passesAll_62 rfl (lv_at hl 0 rfl) ?_
  refine gf_X7_50 hE hst 0 rfl rfl dX7_passesAll_63 ?_
  refine q_goV (q_rV hE lk_X7_214 (c_X7_passesK l D cI cJ cZ x xf xs xk xp xd xo xn xr xy xi xt xq xb xw xl xm xe zl zt za zm zc ze zh zu zv (segK (segK (segK (segK (segK (segK (segK kp seF 0 2) (nR kF) 2 2) (nR spF) 4 2) (nR deF) 6 2) (bR pF) 8 2) ki 10 60) bi 70 60) xw 60 130 pa (by decide) H.size) hst [0, 1, 9] rfl rfl rfl rfl rfl hl.1 ⟨(Nat.le_of_ble_eq_true rfl), (Nat.le_of_ble_eq_true rfl)⟩ (rest := []) rfl (Nat.le_of_ble_eq_true rfl) dX7_passesAll_66 ⟨(Nat.le_of_ble_eq_true rfl), (Nat.le_of_ble_eq_true rfl)⟩) hE hst [0, 1, 9] rfl (fun _ => rfl) (fun (_ : Unit) => [(x, .inr (7, [.ref xf, .ref xs, .ref xk, .ref xp, .ref xd, .ref xo, .ref xn, .ref xr, .ref xy, .ref xi, .int zl, .long zu, .long zv, .ref xt, .ref xq, .ref xb, .ref xw, .ref xl, .ref xm, .int zt, .int za, .int zm, .int zc, .int ze, .ref xe, .int zh, .int 1, .int (nI (130 + 60))])), (xe, .inl (cI, 250, .inl (segK (segK (segK (segK (segK (segK (segK (segK kp seF 0 2) (nR kF) 2 2) (nR spF) 4 2) (nR deF) 6 2) (bR pF) 8 2) ki 10 60) bi 70 60) pa 130 60))), (xs, .inl (cI, 2, .inl seF)), (xk, .inl (cI, 2, .inl (nR kF))), (xp, .inl (cI, 2, .inl (nR spF))), (xd, .inl (cI, 2, .inl (nR deF))), (xo, .inl (cI, 2, .inl (bR pF))), (xq, .inl (cI, 60, .inl ki)), (xb, .inl (cI, 60, .inl bi)), (xw, .inl (cI, 60, .inl pa)), (xl, .inl (cI, 5, .inl la))]) (fun _ => rfl) (fun _ H locs hF hst => ?_)
  refine lv_aload_n hx hb dX7_passesAll_69 rfl (lv_at hl 0 rfl) ?_
  refine lv_aload_n hx hb dX7_passesAll_70 rfl (lv_at hl 0 rfl) ?_
  refine gf_X7_53 hE hst 0 rfl rfl dX7_passesAll_71 ?_
  refine q_goV (q_rV hE lk_X7_214 (c_X7_passesK l D cI cJ cZ x xf xs xk xp xd xo xn xr xy xi xt xq xb xw xl xm xe zl zt za zm zc ze zh zu zv (segK (segK (segK (segK (segK (segK (segK (segK kp seF 0 2) (nR kF) 2 2) (nR spF) 4 2) (nR deF) 6 2) (bR pF) 8 2) ki 10 60) bi 70 60) pa 130 60) xl 5 190 la (by decide) H.size) hst [0, 1, 10] rfl rfl rfl rfl rfl hl.1 ⟨(Nat.le_of_ble_eq_true rfl), (Nat.le_of_ble_eq_true rfl)⟩ (rest := []) rfl (Nat.le_of_ble_eq_true rfl) dX7_passesAll_74 ⟨(Nat.le_of_ble_eq_true rfl), (Nat.le_of_ble_eq_true rfl)⟩) hE hst [0, 1, 10] rfl (fun _ => rfl) (fun (_ : Unit) => [(x, .inr (7, [.ref xf, .ref xs, .ref xk, .ref xp, .ref xd, .ref xo, .ref xn, .ref xr, .ref xy, .ref xi, .int zl, .long zu, .long zv, .ref xt, .ref xq, .ref xb, .ref xw, .ref xl, .ref xm, .int zt, .int za, .int zm, .int zc, .int ze, .ref xe, .int zh, .int 1, .int (nI (190 + 5))])), (xe, .inl (cI, 250, .inl (segK (segK (segK (segK (segK (segK (segK (segK (segK kp seF 0 2) (nR kF) 2 2) (nR spF) 4 2) (nR deF) 6 2) (bR pF) 8 2) ki 10 60) bi 70 60) pa 130 60) la 190 5))), (xs, .inl (cI, 2, .inl seF)), (xk, .inl (cI, 2, .inl (nR kF))), (xp, .inl (cI, 2, .inl (nR spF))), (xd, .inl (cI, 2, .inl (nR deF))), (xo, .inl (cI, 2, .inl (bR pF))), (xq, .inl (cI, 60, .inl ki)), (xb, .inl (cI, 60, .inl bi)), (xw, .inl (cI, 60, .inl pa)), (xl, .inl (cI, 5, .inl la))]) (fun _ => rfl) (fun _ H locs hF hst => ?_)
  refine lv_aload_n hx hb dX7_passesAll_77 rfl (lv_at hl 0 rfl) ?_
  refine lv_aload_n hx hb dX7_passesAll_78 rfl (lv_at hl 0 rfl) ?_
  refine lv_aload_n hx hb dX7_passesAll_79 rfl (lv_at hl 0 rfl) ?_
  refine gf_X7_163 hE hst 0 rfl rfl dX7_passesAll_80 ?_
  refine q_goI (q_rV hE lk_X7_218 (c_X7_passOneK l D cI cJ cZ x xf xs xk xp xd xo xn xr xy xi xt xq xb xw xl xm xe zl zt za zm zc ze zh zu zv (segK (segK (segK (segK (segK (segK (segK (segK (segK kp seF 0 2) (nR kF) 2 2) (nR spF) 4 2) (nR deF) 6 2) (bR pF) 8 2) ki 10 60) bi 70 60) pa 130 60) la 190 5) 195 zm (by decide) H.size) hst [0, 1] rfl rfl rfl rfl rfl hl.1 ⟨(Nat.le_of_ble_eq_true rfl), (Nat.le_of_ble_eq_true rfl)⟩ (rest := [.ref x]) rfl (Nat.le_of_ble_eq_true rfl) dX7_passesAll_83 ⟨(Nat.le_of_ble_eq_true rfl), (Nat.le_of_ble_eq_true rfl)⟩) hE hst [0, 1] rfl (fun _ => rfl) (fun (_ : Unit) => [(x, .inr (7, [.ref xf, .ref xs, .ref xk, .ref xp, .ref xd, .ref xo, .ref xn, .ref xr, .ref xy, .ref xi, .int zl, .long zu, .long zv, .ref xt, .ref xq, .ref xb, .ref xw, .ref xl, .ref xm, .int zt, .int za, .int zm, .int zc, .int ze, .ref xe, .int zh, .int 1, .int (nI (195 + 1))])), (xe, .inl (cI, 250, .inl (upd (segK (segK (segK (segK (segK (segK (segK (segK (segK kp seF 0 2) (nR kF) 2 2) (nR spF) 4 2) (nR deF) 6 2) (bR pF) 8 2) ki 10 60) bi 70 60) pa 130 60) la 190 5) 195 zm))), (xs, .inl (cI, 2, .inl seF)), (xk, .inl (cI, 2, .inl (nR kF))), (xp, .inl (cI, 2, .inl (nR spF))), (xd, .inl (cI, 2, .inl (nR deF))), (xo, .inl (cI, 2, .inl (bR pF))), (xq, .inl (cI, 60, .inl ki)), (xb, .inl (cI, 60, .inl bi)), (xw, .inl (cI, 60, .inl pa)), (xl, .inl (cI, 5, .inl la))]) (fun _ => rfl) (fun _ H locs hF hst => ?_)
  refine pf_X7_163 hE hst 0 rfl (rfl) (rfl) (Nat.le_of_ble_eq_true rfl) [(x, .inr (7, [.ref xf, .ref xs, .ref xk, .ref xp, .ref xd, .ref xo, .ref xn, .ref xr, .ref xy, .ref xi, .int zl, .long zu, .long zv, .ref xt, .ref xq, .ref xb, .ref xw, .ref xl, .ref xm, .int zt, .int za, .int zm, .int zc, .int ze, .ref xe, .int zh, .int 1, .int (nI (195 + 1))])), (xe, .inl (cI, 250, .inl (upd (segK (segK (segK (segK (segK (segK (segK (segK (segK kp seF 0 2) (nR kF) 2 2) (nR spF) 4 2) (nR deF) 6 2) (bR pF) 8 2) ki 10 60) bi 70 60) pa 130 60) la 190 5) 195 zm))), (xs, .inl (cI, 2, .inl seF)), (xk, .inl (cI, 2, .inl (nR kF))), (xp, .inl (cI, 2, .inl (nR spF))), (xd, .inl (cI, 2, .inl (nR deF))), (xo, .inl (cI, 2, .inl (bR pF))), (xq, .inl (cI, 60, .inl ki)), (xb, .inl (cI, 60, .inl bi)), (xw, .inl (cI, 60, .inl pa)), (xl, .inl (cI, 5, .inl la))] rfl dX7_passesAll_86 (fun H locs hst => ?_)
  refine lv_aload_n hx hb dX7_passesAll_89 rfl (lv_at hl 0 rfl) ?_
  refine lv_aload_n hx hb dX7_passesAll_90 rfl (lv_at hl 0 rfl) ?_
  refine lv_aload_n hx hb dX7_passesAll_91 rfl (lv_at hl 0 rfl) ?_
  refine gf_X7_59 hE hst 0 rfl rfl dX7_passesAll_92 ?_
  refine q_goI (q_rV hE lk_X7_218 (c_X7_passOneK l D cI cJ cZ x xf xs xk xp xd xo xn xr xy xi xt xq xb xw xl xm xe zl zt za zm zc ze zh zu zv (upd (segK (segK (segK (segK (segK (segK (segK (segK (segK kp seF 0 2) (nR kF) 2 2) (nR spF) 4 2) (nR deF) 6 2) (bR pF) 8 2) ki 10 60) bi 70 60) pa 130 60) la 190 5) 195 zm) 196 zc (by decide) H.size) hst [0, 1] rfl rfl rfl rfl rfl hl.1 ⟨(Nat.le_of_ble_eq_true rfl), (Nat.le_of_ble_eq_true rfl)⟩ (rest := [.ref x]) rfl (Nat.le_of_ble_eq_true rfl) dX7_passesAll_95 ⟨(Nat.le_of_ble_eq_true rfl), (Nat.le_of_ble_eq_true rfl)⟩) hE hst [0, 1] rfl (fun _ => rfl) (fun (_ : Unit) => [(x, .inr (7, [.ref xf, .ref xs, .ref xk, .ref xp, .ref xd, .ref xo, .ref xn, .ref xr, .ref xy, .ref xi, .int zl, .long zu, .long zv, .ref xt, .ref xq, .ref xb, .ref xw, .ref xl, .ref xm, .int zt, .int za, .int zm, .int zc, .int ze, .ref xe, .int zh, .int 1, .int (nI (196 + 1))])), (xe, .inl (cI, 250, .inl (upd (upd (segK (segK (segK (segK (segK (segK (segK (segK (segK kp seF 0 2) (nR kF) 2 2) (nR spF) 4 2) (nR deF) 6 2) (bR pF) 8 2) ki 10 60) bi 70 60) pa 130 60) la 190 5) 195 zm) 196 zc))), (xs, .inl (cI, 2, .inl seF)), (xk, .inl (cI, 2, .inl (nR kF))), (xp, .inl (cI, 2, .inl (nR spF))), (xd, .inl (cI, 2, .inl (nR deF))), (xo, .inl (cI, 2, .inl (bR pF))), (xq, .inl (cI, 60, .inl ki)), (xb, .inl (cI, 60, .inl bi)), (xw, .inl (cI, 60, .inl pa)), (xl, .inl (cI, 5, .inl la))]) (fun _ => rfl) (fun _ H locs hF hst => ?_)
  refine pf_X7_59 hE hst 0 rfl (rfl) (rfl) (Nat.le_of_ble_eq_true rfl) [(x, .inr (7, [.ref xf, .ref xs, .ref xk, .ref xp, .ref xd, .ref xo, .ref xn, .ref xr, .ref xy, .ref xi, .int zl, .long zu, .long zv, .ref xt, .ref xq, .ref xb, .ref xw, .ref xl, .ref xm, .int zt, .int za, .int zm, .int zc, .int ze, .ref xe, .int zh, .int 1, .int (nI (196 + 1))])), (xe, .inl (cI, 250, .inl (upd (upd (segK (segK (segK (segK (segK (segK (segK (segK (segK kp seF 0 2) (nR kF) 2 2) (nR spF) 4 2) (nR deF) 6 2) (bR pF) 8 2) ki 10 60) bi 70 60) pa 130 60) la 190 5) 195 zm) 196 zc))), (xs, .inl (cI, 2, .inl seF)), (xk, .inl (cI, 2, .inl (nR kF))), (xp, .inl (cI, 2, .inl (nR spF))), (xd, .inl (cI, 2, .inl (nR deF))), (xo, .inl (cI, 2, .inl (bR pF))), (xq, .inl (cI, 60, .inl ki)), (xb, .inl (cI, 60, .inl bi)), (xw, .inl (cI, 60, .inl pa)), (xl, .inl (cI, 5, .inl la))] rfl dX7_passesAll_98 (fun H locs hst => ?_)
  refine lv_aload_n hx hb dX7_passesAll_101 rfl (lv_at hl 0 rfl) ?_
  refine lv_aload_n hx hb dX7_passesAll_102 rfl (lv_at hl 0 rfl) ?_
  refine lv_aload_n hx hb dX7_passesAll_103 rfl (lv_at hl 0 rfl) ?_
  refine gf_X7_63 hE hst 0 rfl rfl dX7_passesAll_104 ?_
  refine q_goI (q_rV hE lk_X7_218 (c_X7_passOneK l D cI cJ cZ x xf xs xk xp xd xo xn xr xy xi xt xq xb xw xl xm xe zl zt za zm zc ze zh zu zv (upd (upd (segK (segK (segK (segK (segK (segK (segK (segK (segK kp seF 0 2) (nR kF) 2 2) (nR spF) 4 2) (nR deF) 6 2) (bR pF) 8 2) ki 10 60) bi 70 60) pa 130 60) la 190 5) 195 zm) 196 zc) 197 ze (by decide) H.size) hst [0, 1] rfl rfl rfl rfl rfl hl.1 ⟨(Nat.le_of_ble_eq_true rfl), (Nat.le_of_ble_eq_true rfl)⟩ (rest := [.ref x]) rfl (Nat.le_of_ble_eq_true rfl) dX7_passesAll_107 ⟨(Nat.le_of_ble_eq_true rfl), (Nat.le_of_ble_eq_true rfl)⟩) hE hst [0, 1] rfl (fun _ => rfl) (fun (_ : Unit) => [(x, .inr (7, [.ref xf, .ref xs, .ref xk, .ref xp, .ref xd, .ref xo, .ref xn, .ref xr, .ref xy, .ref xi, .int zl, .long zu, .long zv, .ref xt, .ref xq, .ref xb, .ref xw, .ref xl, .ref xm, .int zt, .int za, .int zm, .int zc, .int ze, .ref xe, .int zh, .int 1, .int (nI (197 + 1))])), (xe, .inl (cI, 250, .inl (upd (upd (upd (segK (segK (segK (segK (segK (segK (segK (segK (segK kp seF 0 2) (nR kF) 2 2) (nR spF) 4 2) (nR deF) 6 2) (bR pF) 8 2) ki 10 60) bi 70 60) pa 130 60) la 190 5) 195 zm) 196 zc) 197 ze))), (xs, .inl (cI, 2, .inl seF)), (xk, .inl (cI, 2, .inl (nR kF))), (xp, .inl (cI, 2, .inl (nR spF))), (xd, .inl (cI, 2, .inl (nR deF))), (xo, .inl (cI, 2, .inl (bR pF))), (xq, .inl (cI, 60, .inl ki)), (xb, .inl (cI, 60, .inl bi)), (xw, .inl (cI, 60, .inl pa)), (xl, .inl (cI, 5, .inl la))]) (fun _ => rfl) (fun _ H locs hF hst => ?_)
  refine pf_X7_63 hE hst 0 rfl (rfl) (rfl) (Nat.le_of_ble_eq_true rfl) [(x, .inr (7, [.ref xf, .ref xs, .ref xk, .ref xp, .ref xd, .ref xo, .ref xn, .ref xr, .ref xy, .ref xi, .int zl, .long zu, .long zv, .ref xt, .ref xq, .ref xb, .ref xw, .ref xl, .ref xm, .int zt, .int za, .int zm, .int zc, .int ze, .ref xe, .int zh, .int 1, .int (nI (197 + 1))])), (xe, .inl (cI, 250, .inl (upd (upd (upd (segK (segK (segK (segK (segK (segK (segK (segK (segK kp seF 0 2) (nR kF) 2 2) (nR spF) 4 2) (nR deF) 6 2) (bR pF) 8 2) ki 10 60) bi 70 60) pa 130 60) la 190 5) 195 zm) 196 zc) 197 ze))), (xs, .inl (cI, 2, .inl seF)), (xk, .inl (cI, 2, .inl (nR kF))), (xp, .inl (cI, 2, .inl (nR spF))), (xd, .inl (cI, 2, .inl (nR deF))), (xo, .inl (cI, 2, .inl (bR pF))), (xq, .inl (cI, 60, .inl ki)), (xb, .inl (cI, 60, .inl bi)), (xw, .inl (cI, 60, .inl pa)), (xl, .inl (cI, 5, .inl la))] rfl dX7_passesAll_110 (fun H locs hst => ?_)
  exact q_retV hQ hE hr hk hst () (trivial) (rfl) dX7_passesAll_113
set_option maxHeartbeats 4000000 in
set_option maxRecDepth 100000 in
theorem c_X7_passesAllB (l : Launch) (D : va_G) (cI cJ cZ : ClassId) (x : Nat) (xf : Nat) (xs : Nat) (xk : Nat) (xp : Nat) (xd : Nat) (xo : Nat) (xn : Nat) (xr : Nat) (xy : Nat) (xi : Nat) (xt : Nat) (xq : Nat) (xb : Nat) (xw : Nat) (xl : Nat) (xm : Nat) (xe : Nat) (zl : Int32) (zt : Int32) (za : Int32) (zm : Int32) (zc : Int32) (ze : Int32) (zh : Int32) (zq : Int32) (zu : Int64) (zv : Int64) (kp : Nat → Int32) (seF : Nat → Int32) (kF : Nat → Nat) (spF : Nat → Nat) (deF : Nat → Nat) (pF : Nat → Bool) (ki : Nat → Int32) (bi : Nat → Int32) (pa : Nat → Int32) (la : Nat → Int32) (seG : Nat → Int32) (kG : Nat → Nat) (spG : Nat → Nat) (deG : Nat → Nat) (pG : Nat → Bool) (kj : Nat → Int32) (bj : Nat → Int32) (pb : Nat → Int32) (lb : Nat → Int32) (zmG : Int32) (zcG : Int32) (zeG : Int32) (him : imgOk kp seG kG spG deG pG kj bj pb lb zmG zcG zeG) : CtV l D cI cJ cZ yX7_passesAll cX7_passesAll 1 none 1 0 0 [.ref x] [(x, .inr (7, [.ref xf, .ref xs, .ref xk, .ref xp, .ref xd, .ref xo, .ref xn, .ref xr, .ref xy, .ref xi, .int zl, .long zu, .long zv, .ref xt, .ref xq, .ref xb, .ref xw, .ref xl, .ref xm, .int zt, .int za, .int zm, .int zc, .int ze, .ref xe, .int zh, .int 0, .int zq])), (xe, .inl (cI, 250, .inl kp)), (xs, .inl (cI, 2, .inl seF)), (xk, .inl (cI, 2, .inl (nR kF))), (xp, .inl (cI, 2, .inl (nR spF))), (xd, .inl (cI, 2, .inl (nR deF))), (xo, .inl (cI, 2, .inl (bR pF))), (xq, .inl (cI, 60, .inl ki)), (xb, .inl (cI, 60, .inl bi)), (xw, .inl (cI, 60, .inl pa)), (xl, .inl (cI, 5, .inl la))] (fun (_ : Unit) => True) (fun (_ : Unit) => [(x, .inr (7, [.ref xf, .ref xs, .ref xk, .ref xp, .ref xd, .ref xo, .ref xn, .ref xr, .ref xy, .ref xi, .int zl, .long zu, .long zv, .ref xt, .ref xq, .ref xb, .ref xw, .ref xl, .ref xm, .int zt, .int za, .int zmG, .int zcG, .int zeG, .ref xe, .int zh, .int 0, .int 198])), (xe, .inl (cI, 250, .inl kp)), (xs, .inl (cI, 2, .inl seG)), (xk, .inl (cI, 2, .inl (nR kG))), (xp, .inl (cI, 2, .inl (nR spG))), (xd, .inl (cI, 2, .inl (nR deG))), (xo, .inl (cI, 2, .inl (bR pG))), (xq, .inl (cI, 60, .inl kj)), (xb, .inl (cI, 60, .inl bj)), (xw, .inl (cI, 60, .inl pb)), (xl, .inl (cI, 5, .inl lb))]) := by
  refine q_entV (own := RX7) rfl rfl (Nat.le_of_ble_eq_true rfl) ?_
  intro p e s m args below meth c A ls QQ hQ hE hx hb hr hk hin hA hl hst
  have hl : lv_has ls 1 [(0, .ref x)] := hl
  obtain ⟨h1, h2, h3, h4, h5, h6⟩ := him
  refine lv_aload_n hx hb dX7_passesAll_0 rfl (lv_at hl 0 rfl) ?_
  refine lv_iconst (v := 0) hx hb dX7_passesAll_1 (by decide) ?_
  refine pf_X7_211 hE hst 0 rfl (rfl) (rfl) (Nat.le_of_ble_eq_true rfl) [(x, .inr (7, [.ref xf, .ref xs, .ref xk, .ref xp, .ref xd, .ref xo, .ref xn, .ref xr, .ref xy, .ref xi, .int zl, .long zu, .long zv, .ref xt, .ref xq, .ref xb, .ref xw, .ref xl, .ref xm, .int zt, .int za, .int zm, .int zc, .int ze, .ref xe, .int zh, .int 0, .int 0])), (xe, .inl (cI, 250, .inl kp)), (xs, .inl (cI, 2, .inl seF)), (xk, .inl (cI, 2, .inl (nR kF))), (xp, .inl (cI, 2, .inl (nR spF))), (xd, .inl (cI, 2, .inl (nR deF))), (xo, .inl (cI, 2, .inl (bR pF))), (xq, .inl (cI, 60, .inl ki)), (xb, .inl (cI, 60, .inl bi)), (xw, .inl (cI, 60, .inl pa)), (xl, .inl (cI, 5, .inl la))] rfl dX7_passesAll_2 (fun H locs hst => ?_)
  refine lv_aload_n hx hb dX7_passesAll_5 rfl (lv_at hl 0 rfl) ?_
  refine lv_aload_n hx hb dX7_passesAll_6 rfl (lv_at hl 0 rfl) ?_
  refine gf_X7_13 hE hst 0 rfl rfl dX7_passesAll_7 ?_
  refine q_goV (q_rV hE lk_X7_214 (c_X7_passesB l D cI cJ cZ x xf xs xk xp xd xo xn xr xy xi xt xq xb xw xl xm xe zl zt za zm zc ze zh zu zv kp xs 2 0 seF (by decide) H.size) hst [0, 1, 2] rfl rfl rfl rfl rfl hl.1 ⟨(Nat.le_of_ble_eq_true rfl), (Nat.le_of_ble_eq_true rfl)⟩ (rest := []) rfl (Nat.le_of_ble_eq_true rfl) dX7_passesAll_10 ⟨(Nat.le_of_ble_eq_true rfl), (Nat.le_of_ble_eq_true rfl)⟩) hE hst [0, 1, 2] rfl (fun _ => rfl) (fun (_ : Unit) => [(x, .inr (7, [.ref xf, .ref xs, .ref xk, .ref xp, .ref xd, .ref xo, .ref xn, .ref xr, .ref xy, .ref xi, .int zl, .long zu, .long zv, .ref xt, .ref xq, .ref xb, .ref xw, .ref xl, .ref xm, .int zt, .int za, .int zm, .int zc, .int ze, .ref xe, .int zh, .int 0, .int (nI (0 + 2))])), (xe, .inl (cI, 250, .inl kp)), (xs, .inl (cI, 2, .inl (fun x => kp (0 + x)))), (xk, .inl (cI, 2, .inl (nR kF))), (xp, .inl (cI, 2, .inl (nR spF))), (xd, .inl (cI, 2, .inl (nR deF))), (xo, .inl (cI, 2, .inl (bR pF))), (xq, .inl (cI, 60, .inl ki)), (xb, .inl (cI, 60, .inl bi)), (xw, .inl (cI, 60, .inl pa)), (xl, .inl (cI, 5, .inl la))]) (fun _ => rfl) (fun _ H locs hF hst => ?_)
  refine lv_aload_n hx hb dX7_passesAll_13 rfl (lv_at hl 0 rfl) ?_
  refine lv_aload_n hx hb dX7_passesAll_14 rfl (lv_at hl 0 rfl) ?_
  refine gf_X7_16 hE hst 0 rfl rfl dX7_passesAll_15 ?_
  refine q_goV (q_rV hE lk_X7_214 (c_X7_passesB l D cI cJ cZ x xf xs xk xp xd xo xn xr xy xi xt xq xb xw xl xm xe zl zt za zm zc ze zh zu zv kp xk 2 2 (nR kF) (by decide) H.size) hst [0, 1, 3] rfl rfl rfl rfl rfl hl.1 ⟨(Nat.le_of_ble_eq_true rfl), (Nat.le_of_ble_eq_true rfl)⟩ (rest := []) rfl (Nat.le_of_ble_eq_true rfl) dX7_passesAll_18 ⟨(Nat.le_of_ble_eq_true rfl), (Nat.le_of_ble_eq_true rfl)⟩) hE hst [0, 1, 3] rfl (fun _ => rfl) (fun (_ : Unit) => [(x, .inr (7, [.ref xf, .ref xs, .ref xk, .ref xp, .ref xd, .ref xo, .ref xn, .ref xr, .ref xy, .ref xi, .int zl, .long zu, .long zv, .ref xt, .ref xq, .ref xb, .ref xw, .ref xl, .ref xm, .int zt, .int za, .int zm, .int zc, .int ze, .ref xe, .int zh, .int 0, .int (nI (2 + 2))])), (xe, .inl (cI, 250, .inl kp)), (xs, .inl (cI, 2, .inl (fun x => kp (0 + x)))), (xk, .inl (cI, 2, .inl (fun x => kp (2 + x)))), (xp, .inl (cI, 2, .inl (nR spF))), (xd, .inl (cI, 2, .inl (nR deF))), (xo, .inl (cI, 2, .inl (bR pF))), (xq, .inl (cI, 60, .inl ki)), (xb, .inl (cI, 60, .inl bi)), (xw, .inl (cI, 60, .inl pa)), (xl, .inl (cI, 5, .inl la))]) (fun _ => rfl) (fun _ H locs hF hst => ?_)
  refine lv_aload_n hx hb dX7_passesAll_21 rfl (lv_at hl 0 rfl) ?_
  refine lv_aload_n hx hb dX7_passesAll_22 rfl (lv_at hl 0 rfl) ?_
  refine gf_X7_19 hE hst 0 rfl rfl dX7_passesAll_23 ?_
  refine q_goV (q_rV hE lk_X7_214 (c_X7_passesB l D cI cJ cZ x xf xs xk xp xd xo xn xr xy xi xt xq xb xw xl xm xe zl zt za zm zc ze zh zu zv kp xp 2 4 (nR spF) (by decide) H.size) hst [0, 1, 4] rfl rfl rfl rfl rfl hl.1 ⟨(Nat.le_of_ble_eq_true rfl), (Nat.le_of_ble_eq_true rfl)⟩ (rest := []) rfl (Nat.le_of_ble_eq_true rfl) dX7_passesAll_26 ⟨(Nat.le_of_ble_eq_true rfl), (Nat.le_of_ble_eq_true rfl)⟩) hE hst [0, 1, 4] rfl (fun _ => rfl) (fun (_ : Unit) => [(x, .inr (7, [.ref xf, .ref xs, .ref xk, .ref xp, .ref xd, .ref xo, .ref xn, .ref xr, .ref xy, .ref xi, .int zl, .long zu, .long zv, .ref xt, .ref xq, .ref xb, .ref xw, .ref xl, .ref xm, .int zt, .int za, .int zm, .int zc, .int ze, .ref xe, .int zh, .int 0, .int (nI (4 + 2))])), (xe, .inl (cI, 250, .inl kp)), (xs, .inl (cI, 2, .inl (fun x => kp (0 + x)))), (xk, .inl (cI, 2, .inl (fun x => kp (2 + x)))), (xp, .inl (cI, 2, .inl (fun x => kp (4 + x)))), (xd, .inl (cI, 2, .inl (nR deF))), (xo, .inl (cI, 2, .inl (bR pF))), (xq, .inl (cI, 60, .inl ki)), (xb, .inl (cI, 60, .inl bi)), (xw, .inl (cI, 60, .inl pa)), (xl, .inl (cI, 5, .inl la))]) (fun _ => rfl) (fun _ H locs hF hst => ?_)
  refine lv_aload_n hx hb dX7_passesAll_29 rfl (lv_at hl 0 rfl) ?_
  refine lv_aload_n hx hb dX7_passesAll_30 rfl (lv_at hl 0 rfl) ?_
  refine gf_X7_22 hE hst 0 rfl rfl dX7_passesAll_31 ?_
  refine q_goV (q_rV hE lk_X7_214 (c_X7_passesB l D cI cJ cZ x xf xs xk xp xd xo xn xr xy xi xt xq xb xw xl xm xe zl zt za zm zc ze zh zu zv kp xd 2 6 (nR deF) (by decide) H.size) hst [0, 1, 5] rfl rfl rfl rfl rfl hl.1 ⟨(Nat.le_of_ble_eq_true rfl), (Nat.le_of_ble_eq_true rfl)⟩ (rest := []) rfl (Nat.le_of_ble_eq_true rfl) dX7_passesAll_34 ⟨(Nat.le_of_ble_eq_true rfl), (Nat.le_of_ble_eq_true rfl)⟩) hE hst [0, 1, 5] rfl (fun _ => rfl) (fun (_ : Unit) => [(x, .inr (7, [.ref xf, .ref xs, .ref xk, .ref xp, .ref xd, .ref xo, .ref xn, .ref xr, .ref xy, .ref xi, .int zl, .long zu, .long zv, .ref xt, .ref xq, .ref xb, .ref xw, .ref xl, .ref xm, .int zt, .int za, .int zm, .int zc, .int ze, .ref xe, .int zh, .int 0, .int (nI (6 + 2))])), (xe, .inl (cI, 250, .inl kp)), (xs, .inl (cI, 2, .inl (fun x => kp (0 + x)))), (xk, .inl (cI, 2, .inl (fun x => kp (2 + x)))), (xp, .inl (cI, 2, .inl (fun x => kp (4 + x)))), (xd, .inl (cI, 2, .inl (fun x => kp (6 + x)))), (xo, .inl (cI, 2, .inl (bR pF))), (xq, .inl (cI, 60, .inl ki)), (xb, .inl (cI, 60, .inl bi)), (xw, .inl (cI, 60, .inl pa)), (xl, .inl (cI, 5, .inl la))]) (fun _ => rfl) (fun _ H locs hF hst => ?_)
  refine lv_aload_n hx hb dX7_passesAll_37 rfl (lv_at hl 0 rfl) ?_
  refine lv_aload_n hx hb dX7_passesAll_38 rfl (lv_at hl 0 rfl) ?_
  refine gf_X7_25 hE hst 0 rfl rfl dX7_passesAll_39 ?_
  refine q_goV (q_rV hE lk_X7_214 (c_X7_passesB l D cI cJ cZ x xf xs xk xp xd xo xn xr xy xi xt xq xb xw xl xm xe zl zt za zm zc ze zh zu zv kp xo 2 8 (bR pF) (by decide) H.size) hst [0, 1, 6] rfl rfl rfl rfl rfl hl.1 ⟨(Nat.le_of_ble_eq_true rfl), (Nat.le_of_ble_eq_true rfl)⟩ (rest := []) rfl (Nat.le_of_ble_eq_true rfl) dX7_passesAll_42 ⟨(Nat.le_of_ble_eq_true rfl), (Nat.le_of_ble_eq_true rfl)⟩) hE hst [0, 1, 6] rfl (fun _ => rfl) (fun (_ : Unit) => [(x, .inr (7, [.ref xf, .ref xs, .ref xk, .ref xp, .ref xd, .ref xo, .ref xn, .ref xr, .ref xy, .ref xi, .int zl, .long zu, .long zv, .ref xt, .ref xq, .ref xb, .ref xw, .ref xl, .ref xm, .int zt, .int za, .int zm, .int zc, .int ze, .ref xe, .int zh, .int 0, .int (nI (8 + 2))])), (xe, .inl (cI, 250, .inl kp)), (xs, .inl (cI, 2, .inl (fun x => kp (0 + x)))), (xk, .inl (cI, 2, .inl (fun x => kp (2 + x)))), (xp, .inl (cI, 2, .inl (fun x => kp (4 + x)))), (xd, .inl (cI, 2, .inl (fun x => kp (6 + x)))), (xo, .inl (cI, 2, .inl (fun x => kp (8 + x)))), (xq, .inl (cI, 60, .inl ki)), (xb, .inl (cI, 60, .inl bi)), (xw, .inl (cI, 60, .inl pa)), (xl, .inl (cI, 5, .inl la))]) (fun _ => rfl) (fun _ H locs hF hst => ?_)
  refine lv_aload_n hx hb dX7_passesAll_45 rfl (lv_at hl 0 rfl) ?_
  refine lv_aload_n hx hb dX7_passesAll_46 rfl (lv_at hl 0 rfl) ?_
  refine gf_X7_44 hE hst 0 rfl rfl dX7_passesAll_47 ?_
  refine q_goV (q_rV hE lk_X7_214 (c_X7_passesB l D cI cJ cZ x xf xs xk xp xd xo xn xr xy xi xt xq xb xw xl xm xe zl zt za zm zc ze zh zu zv kp xq 60 10 ki (by decide) H.size) hst [0, 1, 7] rfl rfl rfl rfl rfl hl.1 ⟨(Nat.le_of_ble_eq_true rfl), (Nat.le_of_ble_eq_true rfl)⟩ (rest := []) rfl (Nat.le_of_ble_eq_true rfl) dX7_passesAll_50 ⟨(Nat.le_of_ble_eq_true rfl), (Nat.le_of_ble_eq_true rfl)⟩) hE hst [0, 1, 7] rfl (fun _ => rfl) (fun (_ : Unit) => [(x, .inr (7, [.ref xf, .ref xs, .ref xk, .ref xp, .ref xd, .ref xo, .ref xn, .ref xr, .ref xy, .ref xi, .int zl, .long zu, .long zv, .ref xt, .ref xq, .ref xb, .ref xw, .ref xl, .ref xm, .int zt, .int za, .int zm, .int zc, .int ze, .ref xe, .int zh, .int 0, .int (nI (10 + 60))])), (xe, .inl (cI, 250, .inl kp)), (xs, .inl (cI, 2, .inl (fun x => kp (0 + x)))), (xk, .inl (cI, 2, .inl (fun x => kp (2 + x)))), (xp, .inl (cI, 2, .inl (fun x => kp (4 + x)))), (xd, .inl (cI, 2, .inl (fun x => kp (6 + x)))), (xo, .inl (cI, 2, .inl (fun x => kp (8 + x)))), (xq, .inl (cI, 60, .inl (fun x => kp (10 + x)))), (xb, .inl (cI, 60, .inl bi)), (xw, .inl (cI, 60, .inl pa)), (xl, .inl (cI, 5, .inl la))]) (fun _ => rfl) (fun _ H locs hF hst => ?_)
  refine lv_aload_n hx hb dX7_passesAll_53 rfl (lv_at hl 0 rfl) ?_
  refine lv_aload_n hx hb dX7_passesAll_54 rfl (lv_at hl 0 rfl) ?_
  refine gf_X7_47 hE hst 0 rfl rfl dX7_passesAll_55 ?_
  refine q_goV (q_rV hE lk_X7_214 (c_X7_passesB l D cI cJ cZ x xf xs xk xp xd xo xn xr xy xi xt xq xb xw xl xm xe zl zt za zm zc ze zh zu zv kp xb 60 70 bi (by decide) H.size) hst [0, 1, 8] rfl rfl rfl rfl rfl hl.1 ⟨(Nat.le_of_ble_eq_true rfl), (Nat.le_of_ble_eq_true rfl)⟩ (rest := []) rfl (Nat.le_of_ble_eq_true rfl) dX7_passesAll_58 ⟨(Nat.le_of_ble_eq_true rfl), (Nat.le_of_ble_eq_true rfl)⟩) hE hst [0, 1, 8] rfl (fun _ => rfl) (fun (_ : Unit) => [(x, .inr (7, [.ref xf, .ref xs, .ref xk, .ref xp, .ref xd, .ref xo, .ref xn, .ref xr, .ref xy, .ref xi, .int zl, .long zu, .long zv, .ref xt, .ref xq, .ref xb, .ref xw, .ref xl, .ref xm, .int zt, .int za, .int zm, .int zc, .int ze, .ref xe, .int zh, .int 0, .int (nI (70 + 60))])), (xe, .inl (cI, 250, .inl kp)), (xs, .inl (cI, 2, .inl (fun x => kp (0 + x)))), (xk, .inl (cI, 2, .inl (fun x => kp (2 + x)))), (xp, .inl (cI, 2, .inl (fun x => kp (4 + x)))), (xd, .inl (cI, 2, .inl (fun x => kp (6 + x)))), (xo, .inl (cI, 2, .inl (fun x => kp (8 + x)))), (xq, .inl (cI, 60, .inl (fun x => kp (10 + x)))), (xb, .inl (cI, 60, .inl (fun x => kp (70 + x)))), (xw, .inl (cI, 60, .inl pa)), (xl, .inl (cI, 5, .inl la))]) (fun _ => rfl) (fun _ H locs hF hst => ?_)
  refine lv_aload_n hx hb dX7_passesAll_61 rfl (lv_at hl 0 rfl) ?_
  refine lv_aload_n hx hb dX7_passesAll_62 rfl (lv_at hl 0 rfl) ?_
  refine gf_X7_50 hE hst 0 rfl rfl dX7_passesAll_63 ?_
  refine q_goV (q_rV hE lk_X7_214 (c_X7_passesB l D cI cJ cZ x xf xs xk xp xd xo xn xr xy xi xt xq xb xw xl xm xe zl zt za zm zc ze zh zu zv kp xw 60 130 pa (by decide) H.size) hst [0, 1, 9] rfl rfl rfl rfl rfl hl.1 ⟨(Nat.le_of_ble_eq_true rfl), (Nat.le_of_ble_eq_true rfl)⟩ (rest := []) rfl (Nat.le_of_ble_eq_true rfl) dX7_passesAll_66 ⟨(Nat.le_of_ble_eq_true rfl), (Nat.le_of_ble_eq_true rfl)⟩) hE hst [0, 1, 9] rfl (fun _ => rfl) (fun (_ : Unit) => [(x, .inr (7, [.ref xf, .ref xs, .ref xk, .ref xp, .ref xd, .ref xo, .ref xn, .ref xr, .ref xy, .ref xi, .int zl, .long zu, .long zv, .ref xt, .ref xq, .ref xb, .ref xw, .ref xl, .ref xm, .int zt, .int za, .int zm, .int zc, .int ze, .ref xe, .int zh, .int 0, .int (nI (130 + 60))])), (xe, .inl (cI, 250, .inl kp)), (xs, .inl (cI, 2, .inl (fun x => kp (0 + x)))), (xk, .inl (cI, 2, .inl (fun x => kp (2 + x)))), (xp, .inl (cI, 2, .inl (fun x => kp (4 + x)))), (xd, .inl (cI, 2, .inl (fun x => kp (6 + x)))), (xo, .inl (cI, 2, .inl (fun x => kp (8 + x)))), (xq, .inl (cI, 60, .inl (fun x => kp (10 + x)))), (xb, .inl (cI, 60, .inl (fun x => kp (70 + x)))), (xw, .inl (cI, 60, .inl (fun x => kp (130 + x)))), (xl, .inl (cI, 5, .inl la))]) (fun _ => rfl) (fun _ H locs hF hst => ?_)
  refine lv_aload_n hx hb dX7_passesAll_69 rfl (lv_at hl 0 rfl) ?_
  refine lv_aload_n hx hb dX7_passesAll_70 rfl (lv_at hl 0 rfl) ?_
  refine gf_X7_53 hE hst 0 rfl rfl dX7_passesAll_71 ?_
  refine q_goV (q_rV hE lk_X7_214 (c_X7_passesB l D cI cJ cZ x xf xs xk xp xd xo xn xr xy xi xt xq xb xw xl xm xe zl zt za zm zc ze zh zu zv kp xl 5 190 la (by decide) H.size) hst [0, 1, 10] rfl rfl rfl rfl rfl hl.1 ⟨(Nat.le_of_ble_eq_true rfl), (Nat.le_of_ble_eq_true rfl)⟩ (rest := []) rfl (Nat.le_of_ble_eq_true rfl) dX7_passesAll_74 ⟨(Nat.le_of_ble_eq_true rfl), (Nat.le_of_ble_eq_true rfl)⟩) hE hst [0, 1, 10] rfl (fun _ => rfl) (fun (_ : Unit) => [(x, .inr (7, [.ref xf, .ref xs, .ref xk, .ref xp, .ref xd, .ref xo, .ref xn, .ref xr, .ref xy, .ref xi, .int zl, .long zu, .long zv, .ref xt, .ref xq, .ref xb, .ref xw, .ref xl, .ref xm, .int zt, .int za, .int zm, .int zc, .int ze, .ref xe, .int zh, .int 0, .int (nI (190 + 5))])), (xe, .inl (cI, 250, .inl kp)), (xs, .inl (cI, 2, .inl (fun x => kp (0 + x)))), (xk, .inl (cI, 2, .inl (fun x => kp (2 + x)))), (xp, .inl (cI, 2, .inl (fun x => kp (4 + x)))), (xd, .inl (cI, 2, .inl (fun x => kp (6 + x)))), (xo, .inl (cI, 2, .inl (fun x => kp (8 + x)))), (xq, .inl (cI, 60, .inl (fun x => kp (10 + x)))), (xb, .inl (cI, 60, .inl (fun x => kp (70 + x)))), (xw, .inl (cI, 60, .inl (fun x => kp (130 + x)))), (xl, .inl (cI, 5, .inl (fun x => kp (190 + x))))]) (fun _ => rfl) (fun _ H locs hF hst => ?_)
  refine lv_aload_n hx hb dX7_passesAll_77 rfl (lv_at hl 0 rfl) ?_
  refine lv_aload_n hx hb dX7_passesAll_78 rfl (lv_at hl 0 rfl) ?_
  refine lv_aload_n hx hb dX7_passesAll_79 rfl (lv_at hl 0 rfl) ?_
  refine gf_X7_163 hE hst 0 rfl rfl dX7_passesAll_80 ?_
  refine q_goI (q_rV hE lk_X7_218 (c_X7_passOneB l D cI cJ cZ x xf xs xk xp xd xo xn xr xy xi xt xq xb xw xl xm xe zl zt za zm zc ze zh zu zv kp 195 zm (by decide) H.size) hst [0, 1] rfl rfl rfl rfl rfl hl.1 ⟨(Nat.le_of_ble_eq_true rfl), (Nat.le_of_ble_eq_true rfl)⟩ (rest := [.ref x]) rfl (Nat.le_of_ble_eq_true rfl) dX7_passesAll_83 ⟨(Nat.le_of_ble_eq_true rfl), (Nat.le_of_ble_eq_true rfl)⟩) hE hst [0, 1] rfl (fun _ => rfl) (fun (_ : Unit) => [(x, .inr (7, [.ref xf, .ref xs, .ref xk, .ref xp, .ref xd, .ref xo, .ref xn, .ref xr, .ref xy, .ref xi, .int zl, .long zu, .long zv, .ref xt, .ref xq, .ref xb, .ref xw, .ref xl, .ref xm, .int zt, .int za, .int zm, .int zc, .int ze, .ref xe, .int zh, .int 0, .int (nI (195 + 1))])), (xe, .inl (cI, 250, .inl kp)), (xs, .inl (cI, 2, .inl (fun x => kp (0 + x)))), (xk, .inl (cI, 2, .inl (fun x => kp (2 + x)))), (xp, .inl (cI, 2, .inl (fun x => kp (4 + x)))), (xd, .inl (cI, 2, .inl (fun x => kp (6 + x)))), (xo, .inl (cI, 2, .inl (fun x => kp (8 + x)))), (xq, .inl (cI, 60, .inl (fun x => kp (10 + x)))), (xb, .inl (cI, 60, .inl (fun x => kp (70 + x)))), (xw, .inl (cI, 60, .inl (fun x => kp (130 + x)))), (xl, .inl (cI, 5, .inl (fun x => kp (190 + x))))]) (fun _ => rfl) (fun _ H locs hF hst => ?_)
  refine q_top (x' := zmG) (h4) ?_
  refine pf_X7_163 hE hst 0 rfl (rfl) (rfl) (Nat.le_of_ble_eq_true rfl) [(x, .inr (7, [.ref xf, .ref xs, .ref xk, .ref xp, .ref xd, .ref xo, .ref xn, .ref xr, .ref xy, .ref xi, .int zl, .long zu, .long zv, .ref xt, .ref xq, .ref xb, .ref xw, .ref xl, .ref xm, .int zt, .int za, .int zmG, .int zc, .int ze, .ref xe, .int zh, .int 0, .int (nI (195 + 1))])), (xe, .inl (cI, 250, .inl kp)), (xs, .inl (cI, 2, .inl (fun x => kp (0 + x)))), (xk, .inl (cI, 2, .inl (fun x => kp (2 + x)))), (xp, .inl (cI, 2, .inl (fun x => kp (4 + x)))), (xd, .inl (cI, 2, .inl (fun x => kp (6 + x)))), (xo, .inl (cI, 2, .inl (fun x => kp (8 + x)))), (xq, .inl (cI, 60, .inl (fun x => kp (10 + x)))), (xb, .inl (cI, 60, .inl (fun x => kp (70 + x)))), (xw, .inl (cI, 60, .inl (fun x => kp (130 + x)))), (xl, .inl (cI, 5, .inl (fun x => kp (190 + x))))] rfl dX7_passesAll_86 (fun H locs hst => ?_)
  refine lv_aload_n hx hb dX7_passesAll_89 rfl (lv_at hl 0 rfl) ?_
  refine lv_aload_n hx hb dX7_passesAll_90 rfl (lv_at hl 0 rfl) ?_
  refine lv_aload_n hx hb dX7_passesAll_91 rfl (lv_at hl 0 rfl) ?_
  refine gf_X7_59 hE hst 0 rfl rfl dX7_passesAll_92 ?_
  refine q_goI (q_rV hE lk_X7_218 (c_X7_passOneB l D cI cJ cZ x xf xs xk xp xd xo xn xr xy xi xt xq xb xw xl xm xe zl zt za zmG zc ze zh zu zv kp 196 zc (by decide) H.size) hst [0, 1] rfl rfl rfl rfl rfl hl.1 ⟨(Nat.le_of_ble_eq_true rfl), (Nat.le_of_ble_eq_true rfl)⟩ (rest := [.ref x]) rfl (Nat.le_of_ble_eq_true rfl) dX7_passesAll_95 ⟨(Nat.le_of_ble_eq_true rfl), (Nat.le_of_ble_eq_true rfl)⟩) hE hst [0, 1] rfl (fun _ => rfl) (fun (_ : Unit) => [(x, .inr (7, [.ref xf, .ref xs, .ref xk, .ref xp, .ref xd, .ref xo, .ref xn, .ref xr, .ref xy, .ref xi, .int zl, .long zu, .long zv, .ref xt, .ref xq, .ref xb, .ref xw, .ref xl, .ref xm, .int zt, .int za, .int zmG, .int zc, .int ze, .ref xe, .int zh, .int 0, .int (nI (196 + 1))])), (xe, .inl (cI, 250, .inl kp)), (xs, .inl (cI, 2, .inl (fun x => kp (0 + x)))), (xk, .inl (cI, 2, .inl (fun x => kp (2 + x)))), (xp, .inl (cI, 2, .inl (fun x => kp (4 + x)))), (xd, .inl (cI, 2, .inl (fun x => kp (6 + x)))), (xo, .inl (cI, 2, .inl (fun x => kp (8 + x)))), (xq, .inl (cI, 60, .inl (fun x => kp (10 + x)))), (xb, .inl (cI, 60, .inl (fun x => kp (70 + x)))), (xw, .inl (cI, 60, .inl (fun x => kp (130 + x)))), (xl, .inl (cI, 5, .inl (fun x => kp (190 + x))))]) (fun _ => rfl) (fun _ H locs hF hst => ?_)
  refine q_top (x' := zcG) (h5) ?_
  refine pf_X7_59 hE hst 0 rfl (rfl) (rfl) (Nat.le_of_ble_eq_true rfl) [(x, .inr (7, [.ref xf, .ref xs, .ref xk, .ref xp, .ref xd, .ref xo, .ref xn, .ref xr, .ref xy, .ref xi, .int zl, .long zu, .long zv, .ref xt, .ref xq, .ref xb, .ref xw, .ref xl, .ref xm, .int zt, .int za, .int zmG, .int zcG, .int ze, .ref xe, .int zh, .int 0, .int (nI (196 + 1))])), (xe, .inl (cI, 250, .inl kp)), (xs, .inl (cI, 2, .inl (fun x => kp (0 + x)))), (xk, .inl (cI, 2, .inl (fun x => kp (2 + x)))), (xp, .inl (cI, 2, .inl (fun x => kp (4 + x)))), (xd, .inl (cI, 2, .inl (fun x => kp (6 + x)))), (xo, .inl (cI, 2, .inl (fun x => kp (8 + x)))), (xq, .inl (cI, 60, .inl (fun x => kp (10 + x)))), (xb, .inl (cI, 60, .inl (fun x => kp (70 + x)))), (xw, .inl (cI, 60, .inl (fun x => kp (130 + x)))), (xl, .inl (cI, 5, .inl (fun x => kp (190 + x))))] rfl dX7_passesAll_98 (fun H locs hst => ?_)
  refine lv_aload_n hx hb dX7_passesAll_101 rfl (lv_at hl 0 rfl) ?_
  refine lv_aload_n hx hb dX7_passesAll_102 rfl (lv_at hl 0 rfl) ?_
  refine lv_aload_n hx hb dX7_passesAll_103 rfl (lv_at hl 0 rfl) ?_
  refine gf_X7_63 hE hst 0 rfl rfl dX7_passesAll_104 ?_
  refine q_goI (q_rV hE lk_X7_218 (c_X7_passOneB l D cI cJ cZ x xf xs xk xp xd xo xn xr xy xi xt xq xb xw xl xm xe zl zt za zmG zcG ze zh zu zv kp 197 ze (by decide) H.size) hst [0, 1] rfl rfl rfl rfl rfl hl.1 ⟨(Nat.le_of_ble_eq_true rfl), (Nat.le_of_ble_eq_true rfl)⟩ (rest := [.ref x]) rfl (Nat.le_of_ble_eq_true rfl) dX7_passesAll_107 ⟨(Nat.le_of_ble_eq_true rfl), (Nat.le_of_ble_eq_true rfl)⟩) hE hst [0, 1] rfl (fun _ => rfl) (fun (_ : Unit) => [(x, .inr (7, [.ref xf, .ref xs, .ref xk, .ref xp, .ref xd, .ref xo, .ref xn, .ref xr, .ref xy, .ref xi, .int zl, .long zu, .long zv, .ref xt, .ref xq, .ref xb, .ref xw, .ref xl, .ref xm, .int zt, .int za, .int zmG, .int zcG, .int ze, .ref xe, .int zh, .int 0, .int (nI (197 + 1))])), (xe, .inl (cI, 250, .inl kp)), (xs, .inl (cI, 2, .inl (fun x => kp (0 + x)))), (xk, .inl (cI, 2, .inl (fun x => kp (2 + x)))), (xp, .inl (cI, 2, .inl (fun x => kp (4 + x)))), (xd, .inl (cI, 2, .inl (fun x => kp (6 + x)))), (xo, .inl (cI, 2, .inl (fun x => kp (8 + x)))), (xq, .inl (cI, 60, .inl (fun x => kp (10 + x)))), (xb, .inl (cI, 60, .inl (fun x => kp (70 + x)))), (xw, .inl (cI, 60, .inl (fun x => kp (130 + x)))), (xl, .inl (cI, 5, .inl (fun x => kp (190 + x))))]) (fun _ => rfl) (fun _ H locs hF hst => ?_)
  refine q_top (x' := zeG) (h6) ?_
  refine pf_X7_63 hE hst 0 rfl (rfl) (rfl) (Nat.le_of_ble_eq_true rfl) [(x, .inr (7, [.ref xf, .ref xs, .ref xk, .ref xp, .ref xd, .ref xo, .ref xn, .ref xr, .ref xy, .ref xi, .int zl, .long zu, .long zv, .ref xt, .ref xq, .ref xb, .ref xw, .ref xl, .ref xm, .int zt, .int za, .int zmG, .int zcG, .int zeG, .ref xe, .int zh, .int 0, .int (nI (197 + 1))])), (xe, .inl (cI, 250, .inl kp)), (xs, .inl (cI, 2, .inl (fun x => kp (0 + x)))), (xk, .inl (cI, 2, .inl (fun x => kp (2 + x)))), (xp, .inl (cI, 2, .inl (fun x => kp (4 + x)))), (xd, .inl (cI, 2, .inl (fun x => kp (6 + x)))), (xo, .inl (cI, 2, .inl (fun x => kp (8 + x)))), (xq, .inl (cI, 60, .inl (fun x => kp (10 + x)))), (xb, .inl (cI, 60, .inl (fun x => kp (70 + x)))), (xw, .inl (cI, 60, .inl (fun x => kp (130 + x)))), (xl, .inl (cI, 5, .inl (fun x => kp (190 + x))))] rfl dX7_passesAll_110 (fun H locs hst => ?_)
  have hst := q_arr hst 2 rfl (g := seG) (fun j hj => (h1 j hj).1) _ rfl
  have hst := q_arr hst 3 rfl (g := nR kG) (fun j hj => (h1 j hj).2.1) _ rfl
  have hst := q_arr hst 4 rfl (g := nR spG) (fun j hj => (h1 j hj).2.2.1) _ rfl
  have hst := q_arr hst 5 rfl (g := nR deG) (fun j hj => (h1 j hj).2.2.2.1) _ rfl
  have hst := q_arr hst 6 rfl (g := bR pG) (fun j hj => (h1 j hj).2.2.2.2) _ rfl
  have hst := q_arr hst 7 rfl (g := kj) (fun j hj => (h2 j hj).1) _ rfl
  have hst := q_arr hst 8 rfl (g := bj) (fun j hj => (h2 j hj).2.1) _ rfl
  have hst := q_arr hst 9 rfl (g := pb) (fun j hj => (h2 j hj).2.2) _ rfl
  have hst := q_arr hst 10 rfl (g := lb) (fun j hj => h3 j hj) _ rfl
  have hst : SS D A s [(x, .inr (7, [.ref xf, .ref xs, .ref xk, .ref xp, .ref xd, .ref xo, .ref xn, .ref xr, .ref xy, .ref xi, .int zl, .long zu, .long zv, .ref xt, .ref xq, .ref xb, .ref xw, .ref xl, .ref xm, .int zt, .int za, .int zmG, .int zcG, .int zeG, .ref xe, .int zh, .int 0, .int (nI (197 + 1))])), (xe, .inl (cI, 250, .inl kp)), (xs, .inl (cI, 2, .inl seG)), (xk, .inl (cI, 2, .inl (nR kG))), (xp, .inl (cI, 2, .inl (nR spG))), (xd, .inl (cI, 2, .inl (nR deG))), (xo, .inl (cI, 2, .inl (bR pG))), (xq, .inl (cI, 60, .inl kj)), (xb, .inl (cI, 60, .inl bj)), (xw, .inl (cI, 60, .inl pb)), (xl, .inl (cI, 5, .inl lb))] H locs := hst
  exact q_retV hQ hE hr hk hst () (trivial) (rfl) dX7_passesAll_113
set_option maxHeartbeats 4000000 in
set_option maxRecDepth 100000 in
theorem c_X7_image (l : Launch) (D : va_G) (cI cJ cZ : ClassId) (x : Nat) (xf : Nat) (xs : Nat) (xk : Nat) (xp : Nat) (xd : Nat) (xo : Nat) (xn : Nat) (xr : Nat) (xy : Nat) (xi : Nat) (xt : Nat) (xq : Nat) (xb : Nat) (xw : Nat) (xl : Nat) (xm : Nat) (xe : Nat) (zl : Int32) (zt : Int32) (za : Int32) (zm : Int32) (zc : Int32) (ze : Int32) (zh : Int32) (zi : Int32) (zq : Int32) (zu : Int64) (zv : Int64) (kp : Nat → Int32) (seF : Nat → Int32) (kF : Nat → Nat) (spF : Nat → Nat) (deF : Nat → Nat) (pF : Nat → Bool) (ki : Nat → Int32) (bi : Nat → Int32) (pa : Nat → Int32) (la : Nat → Int32) : CtI l D cI cJ cZ yX7_image cX7_image 1 (some .int) 2 [.ref x] [(x, .inr (7, [.ref xf, .ref xs, .ref xk, .ref xp, .ref xd, .ref xo, .ref xn, .ref xr, .ref xy, .ref xi, .int zl, .long zu, .long zv, .ref xt, .ref xq, .ref xb, .ref xw, .ref xl, .ref xm, .int zt, .int za, .int zm, .int zc, .int ze, .ref xe, .int zh, .int zi, .int zq])), (xe, .inl (cI, 250, .inl kp)), (xs, .inl (cI, 2, .inl seF)), (xk, .inl (cI, 2, .inl (nR kF))), (xp, .inl (cI, 2, .inl (nR spF))), (xd, .inl (cI, 2, .inl (nR deF))), (xo, .inl (cI, 2, .inl (bR pF))), (xq, .inl (cI, 60, .inl ki)), (xb, .inl (cI, 60, .inl bi)), (xw, .inl (cI, 60, .inl pa)), (xl, .inl (cI, 5, .inl la))] (fun (_ : Unit) => zm) (fun (_ : Unit) => True) (fun (_ : Unit) => [(x, .inr (7, [.ref xf, .ref xs, .ref xk, .ref xp, .ref xd, .ref xo, .ref xn, .ref xr, .ref xy, .ref xi, .int zl, .long zu, .long zv, .ref xt, .ref xq, .ref xb, .ref xw, .ref xl, .ref xm, .int zt, .int za, .int zm, .int zc, .int ze, .ref xe, .int 1, .int 1, .int 198])), (xe, .inl (cI, 250, .inl (imgK kp seF kF spF deF pF ki bi pa la zm zc ze))), (xs, .inl (cI, 2, .inl seF)), (xk, .inl (cI, 2, .inl (nR kF))), (xp, .inl (cI, 2, .inl (nR spF))), (xd, .inl (cI, 2, .inl (nR deF))), (xo, .inl (cI, 2, .inl (bR pF))), (xq, .inl (cI, 60, .inl ki)), (xb, .inl (cI, 60, .inl bi)), (xw, .inl (cI, 60, .inl pa)), (xl, .inl (cI, 5, .inl la))]) := by
  refine q_entI (own := RX7) rfl rfl (Nat.le_of_ble_eq_true rfl) ?_
  intro p e s m args below meth c A ls QQ hQ hE hx hb hr hk hin hA hl hst
  have hl : lv_has ls 1 [(0, .ref x)] := hl
  refine lv_aload_n hx hb dX7_image_0 rfl (lv_at hl 0 rfl) ?_
  refine lv_iconst (v := 1) hx hb dX7_image_1 (by decide) ?_
  refine pf_X7_207 hE hst 0 rfl (rfl) (rfl) (Nat.le_of_ble_eq_true rfl) [(x, .inr (7, [.ref xf, .ref xs, .ref xk, .ref xp, .ref xd, .ref xo, .ref xn, .ref xr, .ref xy, .ref xi, .int zl, .long zu, .long zv, .ref xt, .ref xq, .ref xb, .ref xw, .ref xl, .ref xm, .int zt, .int za, .int zm, .int zc, .int ze, .ref xe, .int zh, .int 1, .int zq])), (xe, .inl (cI, 250, .inl kp)), (xs, .inl (cI, 2, .inl seF)), (xk, .inl (cI, 2, .inl (nR kF))), (xp, .inl (cI, 2, .inl (nR spF))), (xd, .inl (cI, 2, .inl (nR deF))), (xo, .inl (cI, 2, .inl (bR pF))), (xq, .inl (cI, 60, .inl ki)), (xb, .inl (cI, 60, .inl bi)), (xw, .inl (cI, 60, .inl pa)), (xl, .inl (cI, 5, .inl la))] rfl dX7_image_2 (fun H locs hst => ?_)
  refine lv_aload_n hx hb dX7_image_5 rfl (lv_at hl 0 rfl) ?_
  refine lv_iconst (v := 1) hx hb dX7_image_6 (by decide) ?_
  refine pf_X7_221 hE hst 0 rfl (rfl) (rfl) (Nat.le_of_ble_eq_true rfl) [(x, .inr (7, [.ref xf, .ref xs, .ref xk, .ref xp, .ref xd, .ref xo, .ref xn, .ref xr, .ref xy, .ref xi, .int zl, .long zu, .long zv, .ref xt, .ref xq, .ref xb, .ref xw, .ref xl, .ref xm, .int zt, .int za, .int zm, .int zc, .int ze, .ref xe, .int 1, .int 1, .int zq])), (xe, .inl (cI, 250, .inl kp)), (xs, .inl (cI, 2, .inl seF)), (xk, .inl (cI, 2, .inl (nR kF))), (xp, .inl (cI, 2, .inl (nR spF))), (xd, .inl (cI, 2, .inl (nR deF))), (xo, .inl (cI, 2, .inl (bR pF))), (xq, .inl (cI, 60, .inl ki)), (xb, .inl (cI, 60, .inl bi)), (xw, .inl (cI, 60, .inl pa)), (xl, .inl (cI, 5, .inl la))] rfl dX7_image_7 (fun H locs hst => ?_)
  refine lv_aload_n hx hb dX7_image_10 rfl (lv_at hl 0 rfl) ?_
  refine q_goV (q_rV hE lk_X7_224 (c_X7_passesAllK l D cI cJ cZ x xf xs xk xp xd xo xn xr xy xi xt xq xb xw xl xm xe zl zt za zm zc ze 1 zq zu zv kp seF kF spF deF pF ki bi pa la H.size) hst [0, 1, 2, 3, 4, 5, 6, 7, 8, 9, 10] rfl rfl rfl rfl rfl hl.1 ⟨(Nat.le_of_ble_eq_true rfl), (Nat.le_of_ble_eq_true rfl)⟩ (rest := []) rfl (Nat.le_of_ble_eq_true rfl) dX7_image_11 ⟨(Nat.le_of_ble_eq_true rfl), (Nat.le_of_ble_eq_true rfl)⟩) hE hst [0, 1, 2, 3, 4, 5, 6, 7, 8, 9, 10] rfl (fun _ => rfl) (fun (_ : Unit) => [(x, .inr (7, [.ref xf, .ref xs, .ref xk, .ref xp, .ref xd, .ref xo, .ref xn, .ref xr, .ref xy, .ref xi, .int zl, .long zu, .long zv, .ref xt, .ref xq, .ref xb, .ref xw, .ref xl, .ref xm, .int zt, .int za, .int zm, .int zc, .int ze, .ref xe, .int 1, .int 1, .int 198])), (xe, .inl (cI, 250, .inl (imgK kp seF kF spF deF pF ki bi pa la zm zc ze))), (xs, .inl (cI, 2, .inl seF)), (xk, .inl (cI, 2, .inl (nR kF))), (xp, .inl (cI, 2, .inl (nR spF))), (xd, .inl (cI, 2, .inl (nR deF))), (xo, .inl (cI, 2, .inl (bR pF))), (xq, .inl (cI, 60, .inl ki)), (xb, .inl (cI, 60, .inl bi)), (xw, .inl (cI, 60, .inl pa)), (xl, .inl (cI, 5, .inl la))]) (fun _ => rfl) (fun _ H locs hF hst => ?_)
  refine lv_aload_n hx hb dX7_image_14 rfl (lv_at hl 0 rfl) ?_
  refine gf_X7_163 hE hst 0 rfl rfl dX7_image_15 ?_
  exact q_retI hQ hE hr hk hst () (rfl) (trivial) (rfl) dX7_image_18
set_option maxHeartbeats 4000000 in
set_option maxRecDepth 100000 in
theorem c_X7_on_t (l : Launch) (D : va_G) (cI cJ cZ : ClassId) (x : Nat) (xf : Nat) (xs : Nat) (xk : Nat) (xp : Nat) (xd : Nat) (xo : Nat) (xn : Nat) (xr : Nat) (xy : Nat) (xi : Nat) (xt : Nat) (xq : Nat) (xb : Nat) (xw : Nat) (xl : Nat) (xm : Nat) (xe : Nat) (zl : Int32) (zt : Int32) (za : Int32) (zm : Int32) (zc : Int32) (ze : Int32) (zi : Int32) (zq : Int32) (zu : Int64) (zv : Int64) (kp : Nat → Int32) (seF : Nat → Int32) (kF : Nat → Nat) (spF : Nat → Nat) (deF : Nat → Nat) (pF : Nat → Bool) (ki : Nat → Int32) (bi : Nat → Int32) (pa : Nat → Int32) (la : Nat → Int32) (seG : Nat → Int32) (kG : Nat → Nat) (spG : Nat → Nat) (deG : Nat → Nat) (pG : Nat → Bool) (kj : Nat → Int32) (bj : Nat → Int32) (pb : Nat → Int32) (lb : Nat → Int32) (zmG : Int32) (zcG : Int32) (zeG : Int32) (dz : Nat → Int32) (him : imgOk kp seG kG spG deG pG kj bj pb lb zmG zcG zeG) : CtI l D cI cJ cZ yX7_on cX7_on 1 (some .int) 2 [.ref x] [(x, .inr (7, [.ref xf, .ref xs, .ref xk, .ref xp, .ref xd, .ref xo, .ref xn, .ref xr, .ref xy, .ref xi, .int zl, .long zu, .long zv, .ref xt, .ref xq, .ref xb, .ref xw, .ref xl, .ref xm, .int zt, .int za, .int zm, .int zc, .int ze, .ref xe, .int 1, .int zi, .int zq])), (xe, .inl (cI, 250, .inl kp)), (xs, .inl (cI, 2, .inl seF)), (xk, .inl (cI, 2, .inl (nR kF))), (xp, .inl (cI, 2, .inl (nR spF))), (xd, .inl (cI, 2, .inl (nR deF))), (xo, .inl (cI, 2, .inl (bR pF))), (xq, .inl (cI, 60, .inl ki)), (xb, .inl (cI, 60, .inl bi)), (xw, .inl (cI, 60, .inl pa)), (xl, .inl (cI, 5, .inl la)), (xi, .inl (cZ, 2, .inl dz))] (fun (_ : Unit) => zmG) (fun (_ : Unit) => True) (fun (_ : Unit) => [(x, .inr (7, [.ref xf, .ref xs, .ref xk, .ref xp, .ref xd, .ref xo, .ref xn, .ref xr, .ref xy, .ref xi, .int zl, .long zu, .long zv, .ref xt, .ref xq, .ref xb, .ref xw, .ref xl, .ref xm, .int zt, .int za, .int zmG, .int zcG, .int zeG, .ref xe, .int 1, .int 0, .int 198])), (xe, .inl (cI, 250, .inl kp)), (xs, .inl (cI, 2, .inl seG)), (xk, .inl (cI, 2, .inl (nR kG))), (xp, .inl (cI, 2, .inl (nR spG))), (xd, .inl (cI, 2, .inl (nR deG))), (xo, .inl (cI, 2, .inl (bR pG))), (xq, .inl (cI, 60, .inl kj)), (xb, .inl (cI, 60, .inl bj)), (xw, .inl (cI, 60, .inl pb)), (xl, .inl (cI, 5, .inl lb)), (xi, .inl (cZ, 2, .inl (upd (upd dz 0 0) 1 0)))]) := by
  refine q_entI (own := RX7) rfl rfl (Nat.le_of_ble_eq_true rfl) ?_
  intro p e s m args below meth c A ls QQ hQ hE hx hb hr hk hin hA hl hst
  have hl : lv_has ls 1 [(0, .ref x)] := hl
  refine lv_aload_n hx hb dX7_on_0 rfl (lv_at hl 0 rfl) ?_
  refine gf_X7_221 hE hst 0 rfl rfl dX7_on_1 ?_
  refine lv_if_ne (tgt := 14) hx hb dX7_on_4 (by decide) (fun c_4 => ?_) (fun c_4 => ?_)
  · skip
    refine lv_aload_n hx hb dX7_on_14 rfl (lv_at hl 0 rfl) ?_
    refine lv_iconst (v := 0) hx hb dX7_on_15 (by decide) ?_
    refine pf_X7_207 hE hst 0 rfl (rfl) (rfl) (Nat.le_of_ble_eq_true rfl) [(x, .inr (7, [.ref xf, .ref xs, .ref xk, .ref xp, .ref xd, .ref xo, .ref xn, .ref xr, .ref xy, .ref xi, .int zl, .long zu, .long zv, .ref xt, .ref xq, .ref xb, .ref xw, .ref xl, .ref xm, .int zt, .int za, .int zm, .int zc, .int ze, .ref xe, .int 1, .int 0, .int zq])), (xe, .inl (cI, 250, .inl kp)), (xs, .inl (cI, 2, .inl seF)), (xk, .inl (cI, 2, .inl (nR kF))), (xp, .inl (cI, 2, .inl (nR spF))), (xd, .inl (cI, 2, .inl (nR deF))), (xo, .inl (cI, 2, .inl (bR pF))), (xq, .inl (cI, 60, .inl ki)), (xb, .inl (cI, 60, .inl bi)), (xw, .inl (cI, 60, .inl pa)), (xl, .inl (cI, 5, .inl la)), (xi, .inl (cZ, 2, .inl dz))] rfl dX7_on_16 (fun H locs hst => ?_)
    refine lv_aload_n hx hb dX7_on_19 rfl (lv_at hl 0 rfl) ?_
    refine q_goV (q_rV hE lk_X7_224 (c_X7_passesAllB l D cI cJ cZ x xf xs xk xp xd xo xn xr xy xi xt xq xb xw xl xm xe zl zt za zm zc ze 1 zq zu zv kp seF kF spF deF pF ki bi pa la seG kG spG deG pG kj bj pb lb zmG zcG zeG (him) H.size) hst [0, 1, 2, 3, 4, 5, 6, 7, 8, 9, 10] rfl rfl rfl rfl rfl hl.1 ⟨(Nat.le_of_ble_eq_true rfl), (Nat.le_of_ble_eq_true rfl)⟩ (rest := []) rfl (Nat.le_of_ble_eq_true rfl) dX7_on_20 ⟨(Nat.le_of_ble_eq_true rfl), (Nat.le_of_ble_eq_true rfl)⟩) hE hst [0, 1, 2, 3, 4, 5, 6, 7, 8, 9, 10] rfl (fun _ => rfl) (fun (_ : Unit) => [(x, .inr (7, [.ref xf, .ref xs, .ref xk, .ref xp, .ref xd, .ref xo, .ref xn, .ref xr, .ref xy, .ref xi, .int zl, .long zu, .long zv, .ref xt, .ref xq, .ref xb, .ref xw, .ref xl, .ref xm, .int zt, .int za, .int zmG, .int zcG, .int zeG, .ref xe, .int 1, .int 0, .int 198])), (xe, .inl (cI, 250, .inl kp)), (xs, .inl (cI, 2, .inl seG)), (xk, .inl (cI, 2, .inl (nR kG))), (xp, .inl (cI, 2, .inl (nR spG))), (xd, .inl (cI, 2, .inl (nR deG))), (xo, .inl (cI, 2, .inl (bR pG))), (xq, .inl (cI, 60, .inl kj)), (xb, .inl (cI, 60, .inl bj)), (xw, .inl (cI, 60, .inl pb)), (xl, .inl (cI, 5, .inl lb)), (xi, .inl (cZ, 2, .inl dz))]) (fun _ => rfl) (fun _ H locs hF hst => ?_)
    refine lv_aload_n hx hb dX7_on_23 rfl (lv_at hl 0 rfl) ?_
    refine gf_X7_37 hE hst 0 rfl rfl dX7_on_24 ?_
    refine lv_iconst (v := 0) hx hb dX7_on_27 (by decide) ?_
    refine lv_iconst (v := 0) hx hb dX7_on_28 (by decide) ?_
    refine q_zastN hE hst 11 rfl 0 (rfl) (by decide) (by decide) (rfl) [(x, .inr (7, [.ref xf, .ref xs, .ref xk, .ref xp, .ref xd, .ref xo, .ref xn, .ref xr, .ref xy, .ref xi, .int zl, .long zu, .long zv, .ref xt, .ref xq, .ref xb, .ref xw, .ref xl, .ref xm, .int zt, .int za, .int zmG, .int zcG, .int zeG, .ref xe, .int 1, .int 0, .int 198])), (xe, .inl (cI, 250, .inl kp)), (xs, .inl (cI, 2, .inl seG)), (xk, .inl (cI, 2, .inl (nR kG))), (xp, .inl (cI, 2, .inl (nR spG))), (xd, .inl (cI, 2, .inl (nR deG))), (xo, .inl (cI, 2, .inl (bR pG))), (xq, .inl (cI, 60, .inl kj)), (xb, .inl (cI, 60, .inl bj)), (xw, .inl (cI, 60, .inl pb)), (xl, .inl (cI, 5, .inl lb)), (xi, .inl (cZ, 2, .inl (upd dz 0 0)))] rfl dX7_on_29 (fun H locs hst => ?_)
    refine lv_aload_n hx hb dX7_on_30 rfl (lv_at hl 0 rfl) ?_
    refine gf_X7_37 hE hst 0 rfl rfl dX7_on_31 ?_
    refine lv_iconst (v := 1) hx hb dX7_on_34 (by decide) ?_
    refine lv_iconst (v := 0) hx hb dX7_on_35 (by decide) ?_
    refine q_zastN hE hst 11 rfl 1 (rfl) (by decide) (by decide) (rfl) [(x, .inr (7, [.ref xf, .ref xs, .ref xk, .ref xp, .ref xd, .ref xo, .ref xn, .ref xr, .ref xy, .ref xi, .int zl, .long zu, .long zv, .ref xt, .ref xq, .ref xb, .ref xw, .ref xl, .ref xm, .int zt, .int za, .int zmG, .int zcG, .int zeG, .ref xe, .int 1, .int 0, .int 198])), (xe, .inl (cI, 250, .inl kp)), (xs, .inl (cI, 2, .inl seG)), (xk, .inl (cI, 2, .inl (nR kG))), (xp, .inl (cI, 2, .inl (nR spG))), (xd, .inl (cI, 2, .inl (nR deG))), (xo, .inl (cI, 2, .inl (bR pG))), (xq, .inl (cI, 60, .inl kj)), (xb, .inl (cI, 60, .inl bj)), (xw, .inl (cI, 60, .inl pb)), (xl, .inl (cI, 5, .inl lb)), (xi, .inl (cZ, 2, .inl (upd (upd dz 0 0) 1 0)))] rfl dX7_on_36 (fun H locs hst => ?_)
    refine lv_aload_n hx hb dX7_on_37 rfl (lv_at hl 0 rfl) ?_
    refine gf_X7_163 hE hst 0 rfl rfl dX7_on_38 ?_
    exact q_retI hQ hE hr hk hst () (rfl) (trivial) (rfl) dX7_on_41
  · skip
    exact absurd c_4 (by decide)
set_option maxHeartbeats 4000000 in
set_option maxRecDepth 100000 in
theorem c_X7_on_f (l : Launch) (D : va_G) (cI cJ cZ : ClassId) (x : Nat) (xf : Nat) (xs : Nat) (xk : Nat) (xp : Nat) (xd : Nat) (xo : Nat) (xn : Nat) (xr : Nat) (xy : Nat) (xi : Nat) (xt : Nat) (xq : Nat) (xb : Nat) (xw : Nat) (xl : Nat) (xm : Nat) (xe : Nat) (zl : Int32) (zt : Int32) (za : Int32) (zm : Int32) (zc : Int32) (ze : Int32) (zi : Int32) (zq : Int32) (zu : Int64) (zv : Int64) (ru : Nat → Int32) : CtI l D cI cJ cZ yX7_on cX7_on 1 (some .int) 2 [.ref x] [(x, .inr (7, [.ref xf, .ref xs, .ref xk, .ref xp, .ref xd, .ref xo, .ref xn, .ref xr, .ref xy, .ref xi, .int zl, .long zu, .long zv, .ref xt, .ref xq, .ref xb, .ref xw, .ref xl, .ref xm, .int zt, .int za, .int zm, .int zc, .int ze, .ref xe, .int 0, .int zi, .int zq])), (xf, .inl (cI, 7, .inl ru))] (fun (_ : Unit) => -3) (fun (_ : Unit) => True) (fun (_ : Unit) => [(x, .inr (7, [.ref xf, .ref xs, .ref xk, .ref xp, .ref xd, .ref xo, .ref xn, .ref xr, .ref xy, .ref xi, .int zl, .long zu, .long zv, .ref xt, .ref xq, .ref xb, .ref xw, .ref xl, .ref xm, .int zt, .int za, .int zm, .int zc, .int ze, .ref xe, .int 0, .int zi, .int zq])), (xf, .inl (cI, 7, .inl (bmp ru (-3))))]) := by
  refine q_entI (own := RX7) rfl rfl (Nat.le_of_ble_eq_true rfl) ?_
  intro p e s m args below meth c A ls QQ hQ hE hx hb hr hk hin hA hl hst
  have hl : lv_has ls 1 [(0, .ref x)] := hl
  refine lv_aload_n hx hb dX7_on_0 rfl (lv_at hl 0 rfl) ?_
  refine gf_X7_221 hE hst 0 rfl rfl dX7_on_1 ?_
  refine lv_if_ne (tgt := 14) hx hb dX7_on_4 (by decide) (fun c_4 => ?_) (fun c_4 => ?_)
  · skip
    exact absurd rfl c_4
  · skip
    refine lv_aload_n hx hb dX7_on_7 rfl (lv_at hl 0 rfl) ?_
    refine lv_bipush (v := (-3)) hx hb dX7_on_8 (by decide) ?_
    refine q_goI (q_rV hE lk_X7_81 (c_X7_no l D cI cJ cZ x xf xs xk xp xd xo xn xr xy xi xt xq xb xw xl xm xe zl zt za zm zc ze 0 zi zq zu zv ru (-3) (by rw [vp_in_iff]; decide) s.heap.size) hst [0, 1] rfl rfl rfl rfl rfl hl.1 ⟨(Nat.le_of_ble_eq_true rfl), (Nat.le_of_ble_eq_true rfl)⟩ (rest := []) rfl (Nat.le_of_ble_eq_true rfl) dX7_on_10 ⟨(Nat.le_of_ble_eq_true rfl), (Nat.le_of_ble_eq_true rfl)⟩) hE hst [0, 1] rfl (fun _ => rfl) (fun (_ : Unit) => [(x, .inr (7, [.ref xf, .ref xs, .ref xk, .ref xp, .ref xd, .ref xo, .ref xn, .ref xr, .ref xy, .ref xi, .int zl, .long zu, .long zv, .ref xt, .ref xq, .ref xb, .ref xw, .ref xl, .ref xm, .int zt, .int za, .int zm, .int zc, .int ze, .ref xe, .int 0, .int zi, .int zq])), (xf, .inl (cI, 7, .inl (bmp ru (-3))))]) (fun _ => rfl) (fun _ H locs hF hst => ?_)
    exact q_retI hQ hE hr hk hst () (rfl) (trivial) (rfl) dX7_on_13
