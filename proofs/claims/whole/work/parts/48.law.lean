/-! what stays of the state -/
theorem rd_ok {tl : Int32} {tb : Nat → Int32} (h : rdF tl tb < 0) : 0 ≤ rdK tl tb ∧ rdB tl tb < 366 := by
  unfold rdF at h
  by_cases g1 : 0 ≤ rdK tl tb
  · rw [if_pos g1] at h
    by_cases g2 : nI (rdE tl tb) = 1
    · rw [if_pos g2] at h; exact absurd h (by decide)
    · rw [if_neg g2] at h
      by_cases g3 : rdB tl tb < 366
      · exact ⟨g1, g3⟩
      · rw [if_neg g3] at h; exact absurd h (by decide)
  · rw [if_neg g1] at h; exact absurd h (by decide)
theorem kl_in (x : Int32) (h : 0 ≤ kindLet x) : vp_in (kindLet x) 6 := by
  rw [vp_in_iff]
  unfold kindLet at h ⊢
  by_cases h1 : x = 115
  · simp only [if_pos h1]; decide
  · by_cases h2 : x = 97
    · simp only [if_neg h1, if_pos h2]; decide
    · by_cases h3 : x = 110
      · simp only [if_neg h1, if_neg h2, if_pos h3]; decide
      · by_cases h4 : x = 102
        · simp only [if_neg h1, if_neg h2, if_neg h3, if_pos h4]; decide
        · by_cases h5 : x = 99
          · simp only [if_neg h1, if_neg h2, if_neg h3, if_neg h4, if_pos h5]; decide
          · by_cases h6 : x = 108
            · simp only [if_neg h1, if_neg h2, if_neg h3, if_neg h4, if_neg h5, if_pos h6]; decide
            · simp only [if_neg h1, if_neg h2, if_neg h3, if_neg h4, if_neg h5, if_neg h6] at h
              exact absurd h (by decide)
theorem up_in {f : Nat → Int32} {k n N : Nat} {x : Int32} (h : ∀ j, j < n → vp_in (f j) N) (hx : vp_in x N) : ∀ j, j < n + 1 → vp_in (upd f n x j) N := by
  intro j hj
  unfold upd
  by_cases e : j = n
  · rw [if_pos e]; exact hx
  · rw [if_neg e]; exact h j (by omega)
theorem ht_feed {t0 : Nat} {p0 : Int32} (ht : t0 ≤ 14) : (if ftf false false (!decide (1 ≤ p0)) (decide (8 < p0) || !decide (p0 ≤ 14 - nI t0)) = 0 then t0 + p0.toNatClampNeg else t0) ≤ 14 := by
  by_cases g : ftf false false (!decide (1 ≤ p0)) (decide (8 < p0) || !decide (p0 ≤ 14 - nI t0)) = 0
  · rw [if_pos g]
    obtain ⟨-, -, f3, f4⟩ := ftf_1 g
    obtain ⟨n, h1, h2, rfl⟩ := feed_of ht f3 f4
    rw [nI_clamp (by omega)]
    exact h2
  · rw [if_neg g]; exact ht
theorem ht_man {n t0 : Nat} (ht : t0 ≤ 14) : (if 60 ≤ n then t0 else 0) ≤ 14 := by
  by_cases g : 60 ≤ n
  · rw [if_pos g]; exact ht
  · rw [if_neg g]; decide
theorem st_man {n t0 : Nat} {ki bi pa la tb : Nat → Int32} {kF spF deF : Nat → Nat} {least : Int32} (h : stOk n ki bi pa la kF spF deF least) : stOk (if 60 ≤ n then n else if rdF (nI t0) tb < 0 then n + 1 else n) (if 60 ≤ n then ki else if rdF (nI t0) tb < 0 then upd ki n (rdK (nI t0) tb) else ki) (if 60 ≤ n then bi else if rdF (nI t0) tb < 0 then upd bi n (rdB (nI t0) tb) else bi) (if 60 ≤ n then pa else if rdF (nI t0) tb < 0 then upd pa n (rdP (nI t0) tb) else pa) la kF spF deF least := by
  by_cases g0 : 60 ≤ n
  · simp only [if_pos g0]; exact h
  · by_cases g1 : rdF (nI t0) tb < 0
    · simp only [if_neg g0, if_pos g1]
      obtain ⟨h1, h2, h3, h4, h5⟩ := h
      obtain ⟨e1, e2⟩ := rd_ok g1
      obtain ⟨r1, b1, eb⟩ := rdB_v (nI t0) tb
      obtain ⟨r2, b2, ep⟩ := rdP_v (nI t0) tb
      refine ⟨by omega, up_in (k := 0) h2 ?_, up_in (k := 0) h3 (kl_in _ e1), up_in (k := 0) h4 (by rw [ep]; exact vp_in_nI b2 (by decide)), h5⟩
      rw [eb] at e2 ⊢
      exact vp_in_nI ((nI_ltI (a := r1) (b := 366) (by omega) (by decide)).mp e2) (by decide)
    · simp only [if_neg g0, if_neg g1]; exact h
theorem st_jar {n : Nat} {ki bi pa la : Nat → Int32} {kF spF deF : Nat → Nat} {least : Int32} {p0 p2 p3 p4 : Int32} (h : stOk n ki bi pa la kF spF deF least) : stOk n ki bi pa la (if ftf (!isJarB p0) false (decide (p2 < 0) || (decide (p3 < 0) || !decide (1 ≤ p4))) (decide (2000 < p2) || (decide (365 < p3) || !decide (p4 ≤ 366))) = 0 then updN kF (jx p0) p2.toNatClampNeg else kF) (if ftf (!isJarB p0) false (decide (p2 < 0) || (decide (p3 < 0) || !decide (1 ≤ p4))) (decide (2000 < p2) || (decide (365 < p3) || !decide (p4 ≤ 366))) = 0 then updN spF (jx p0) p3.toNatClampNeg else spF) (if ftf (!isJarB p0) false (decide (p2 < 0) || (decide (p3 < 0) || !decide (1 ≤ p4))) (decide (2000 < p2) || (decide (365 < p3) || !decide (p4 ≤ 366))) = 0 then updN deF (jx p0) p4.toNatClampNeg else deF) least := by
  by_cases g : ftf (!isJarB p0) false (decide (p2 < 0) || (decide (p3 < 0) || !decide (1 ≤ p4))) (decide (2000 < p2) || (decide (365 < p3) || !decide (p4 ≤ 366))) = 0
  · simp only [if_pos g]
    obtain ⟨-, -, f3, f4⟩ := ftf_1 g
    obtain ⟨kS, sp, de, g1, g2, g3, g4, rfl, rfl, rfl⟩ := jar_of f3 f4
    rw [nI_clamp (by omega), nI_clamp (by omega), nI_clamp (by omega)]
    exact ⟨h.1, h.2.1, h.2.2.1, h.2.2.2.1, h.2.2.2.2.1, h.2.2.2.2.2.1, jo_jar h.2.2.2.2.2.2 g1 g2 g3 g4⟩
  · simp only [if_neg g]; exact h
theorem gl_max : ∀ i, i < 5 → fGL i ≤ 999 := by decide
theorem st_law {n : Nat} {ki bi pa la : Nat → Int32} {kF spF deF : Nat → Nat} {least : Int32} {p0 p1 : Int32} (h : stOk n ki bi pa la kF spF deF least) : stOk n ki bi pa (if ftf (!(!decide (p0 < 0) && !decide (nI 5 ≤ p0))) false (!decide (0 ≤ p1)) (!decide (p1 ≤ atI 5 fGL p0)) = 0 then putI 5 la p0 p1 else la) kF spF deF least := by
  by_cases g : ftf (!(!decide (p0 < 0) && !decide (nI 5 ≤ p0))) false (!decide (0 ≤ p1)) (!decide (p1 ≤ atI 5 fGL p0)) = 0
  · simp only [if_pos g]
    obtain ⟨f1, -, f3, f4⟩ := ftf_1 g
    have f1 := not_f f1
    rw [lw_in] at f1
    obtain ⟨i0, hi0, rfl⟩ := in_of (b := 4) (by decide) f1
    have f3 := of_decide_eq_true (not_f f3)
    have f4 := of_decide_eq_true (not_f f4)
    rw [atI_n (f := fGL) (show i0 < 5 by omega) (by decide)] at f4
    obtain ⟨q, -, hq, rfl⟩ := in_nI (a := 0) (b := 999) (by decide) (by decide) f3 (Int32.le_trans f4 (gl_max i0 (by omega)))
    rw [putI_n (show i0 < 5 by omega) (by decide)]
    refine ⟨h.1, h.2.1, h.2.2.1, h.2.2.2.1, fun j hj => ?_, h.2.2.2.2.2⟩
    unfold upd
    by_cases e : j = i0
    · rw [if_pos e]; exact vp_in_nI (by omega) (by decide)
    · rw [if_neg e]; exact h.2.2.2.2.1 j hj
  · simp only [if_neg g]; exact h
theorem st_least {n : Nat} {ki bi pa la : Nat → Int32} {kF spF deF : Nat → Nat} {least : Int32} {p0 : Int32} (h : stOk n ki bi pa la kF spF deF least) : stOk n ki bi pa la kF spF deF (if ftf false false (!decide (1 ≤ p0)) (!decide (p0 ≤ 60)) = 0 then p0 else least) := by
  by_cases g : ftf false false (!decide (1 ≤ p0)) (!decide (p0 ≤ 60)) = 0
  · simp only [if_pos g]
    obtain ⟨-, -, f3, -⟩ := ftf_1 g
    exact ⟨h.1, h.2.1, h.2.2.1, h.2.2.2.1, h.2.2.2.2.1, of_decide_eq_true (not_f f3), h.2.2.2.2.2.2⟩
  · simp only [if_neg g]; exact h
/-! both worlds -/
theorem WX_adr (ad : Nat → Nat) (cI cJ : ClassId) (J : JT) (seF : Nat → Int32) (kF : Nat → Nat) (spF : Nat → Nat) (deF : Nat → Nat) (pF : Nat → Bool) (n : Nat) (ki : Nat → Int32) (bi : Nat → Int32) (pa : Nat → Int32) (la : Nat → Int32) (cut : Int32) (least : Int32) (seG : Nat → Int32) (kG : Nat → Nat) (spG : Nat → Nat) (deG : Nat → Nat) (pG : Nat → Bool) (nG : Nat) (kj : Nat → Int32) (bj : Nat → Int32) (pb : Nat → Int32) (lb : Nat → Int32) (cuG : Int32) (leG : Int32) (t0 : Nat) (tb ru : Nat → Int32) (hi : Bool) : (WX ad cI cJ J seF kF spF deF pF n ki bi pa la cut least seG kG spG deG pG nG kj bj pb lb cuG leG t0 tb ru hi).map (fun q => q.1) = [ad 0, ad 1, ad 2, ad 3, ad 4, ad 5, ad 6, ad 7, ad 8, ad 9, ad 10, ad 11, ad 12, ad 13, ad 14, ad 15, ad 16, ad 17, ad 18, ad 19, ad 20, ad 21, ad 22, ad 23, ad 24, ad 25, ad 26, ad 27, ad 28, ad 29, ad 30, ad 31, ad 32, ad 33, ad 34, ad 35, ad 36, ad 37, ad 38, ad 39, ad 40] := rfl
theorem WM_adr (bd : Nat → Nat) (cI cZ : ClassId) (K : KT) (seF : Nat → Int32) (kF : Nat → Nat) (spF : Nat → Nat) (deF : Nat → Nat) (pF : Nat → Bool) (n : Nat) (ki : Nat → Int32) (bi : Nat → Int32) (pa : Nat → Int32) (la : Nat → Int32) (cut : Int32) (least : Int32) (seG : Nat → Int32) (kG : Nat → Nat) (spG : Nat → Nat) (deG : Nat → Nat) (pG : Nat → Bool) (nG : Nat) (kj : Nat → Int32) (bj : Nat → Int32) (pb : Nat → Int32) (lb : Nat → Int32) (cuG : Int32) (leG : Int32) (t0 : Nat) (tb ru : Nat → Int32) (hi : Bool) : (WM bd cI cZ K seF kF spF deF pF n ki bi pa la cut least seG kG spG deG pG nG kj bj pb lb cuG leG t0 tb ru hi).map (fun q => q.1) = [bd 0, bd 1, bd 2, bd 3, bd 4, bd 5, bd 6, bd 7, bd 8, bd 9, bd 10, bd 11, bd 12, bd 13, bd 14, bd 15, bd 16, bd 17] := rfl
theorem WX_hd (ad : Nat → Nat) (cI cJ : ClassId) (J : JT) (seF : Nat → Int32) (kF : Nat → Nat) (spF : Nat → Nat) (deF : Nat → Nat) (pF : Nat → Bool) (n : Nat) (ki : Nat → Int32) (bi : Nat → Int32) (pa : Nat → Int32) (la : Nat → Int32) (cut : Int32) (least : Int32) (seG : Nat → Int32) (kG : Nat → Nat) (spG : Nat → Nat) (deG : Nat → Nat) (pG : Nat → Bool) (nG : Nat) (kj : Nat → Int32) (bj : Nat → Int32) (pb : Nat → Int32) (lb : Nat → Int32) (cuG : Int32) (leG : Int32) (t0 : Nat) (tb ru : Nat → Int32) (hi : Bool) : ∃ (fs : List Value) (w : va_W), WX ad cI cJ J seF kF spF deF pF n ki bi pa la cut least seG kG spG deG pG nG kj bj pb lb cuG leG t0 tb ru hi = (ad 0, .inr (6, fs)) :: w := ⟨_, _, rfl⟩
theorem WM_hd (bd : Nat → Nat) (cI cZ : ClassId) (K : KT) (seF : Nat → Int32) (kF : Nat → Nat) (spF : Nat → Nat) (deF : Nat → Nat) (pF : Nat → Bool) (n : Nat) (ki : Nat → Int32) (bi : Nat → Int32) (pa : Nat → Int32) (la : Nat → Int32) (cut : Int32) (least : Int32) (seG : Nat → Int32) (kG : Nat → Nat) (spG : Nat → Nat) (deG : Nat → Nat) (pG : Nat → Bool) (nG : Nat) (kj : Nat → Int32) (bj : Nat → Int32) (pb : Nat → Int32) (lb : Nat → Int32) (cuG : Int32) (leG : Int32) (t0 : Nat) (tb ru : Nat → Int32) (hi : Bool) : ∃ (fs : List Value) (w : va_W), WM bd cI cZ K seF kF spF deF pF n ki bi pa la cut least seG kG spG deG pG nG kj bj pb lb cuG leG t0 tb ru hi = (bd 0, .inr (7, fs)) :: w := ⟨_, _, rfl⟩
def SW (D : va_G) (cI cJ cZ : ClassId) (A : Nat → Prop) (s : State) (ad bd : Nat → Nat) (H : Heap) (locs : List Loc) : Prop := ∃ (J : JT) (K : KT) (seF : Nat → Int32) (kF : Nat → Nat) (spF : Nat → Nat) (deF : Nat → Nat) (pF : Nat → Bool) (n : Nat) (ki : Nat → Int32) (bi : Nat → Int32) (pa : Nat → Int32) (la : Nat → Int32) (cut : Int32) (least : Int32) (seG : Nat → Int32) (kG : Nat → Nat) (spG : Nat → Nat) (deG : Nat → Nat) (pG : Nat → Bool) (nG : Nat) (kj : Nat → Int32) (bj : Nat → Int32) (pb : Nat → Int32) (lb : Nat → Int32) (cuG : Int32) (leG : Int32) (t0 : Nat) (tb ru : Nat → Int32) (hi : Bool), stOk n ki bi pa la kF spF deF least ∧ stOk nG kj bj pb lb kG spG deG leG ∧ t0 ≤ 14 ∧ mOk K seF kF spF deF pF seG kG spG deG pG nG kj bj pb lb cuG leG hi ∧ SS D A s (WX ad cI cJ J seF kF spF deF pF n ki bi pa la cut least seG kG spG deG pG nG kj bj pb lb cuG leG t0 tb ru hi ++ WM bd cI cZ K seF kF spF deF pF n ki bi pa la cut least seG kG spG deG pG nG kj bj pb lb cuG leG t0 tb ru hi) H locs
theorem nd_X : va_nd (List.range' 0 41) = true := by decide
theorem nd_M : va_nd (List.range' 41 18) = true := by decide
section QL
variable {p : Program} {l : Launch} {e : Env} {R : Room} {s : State} {m : MethodId} {args : Array Value} {below : List Frame} {meth : Method} {c : Code} {H : Heap} {locs : List Loc} {cells slots : Nat} {Q : State → Prop}
variable {cc bytes : ByteArray} {pc : Nat} {ls : Array Slot} {rest : List Value} {D : va_G} {A : Nat → Prop} {cI cJ cZ : ClassId} {nL : Nat} {own : String} {y : MethodName} {maxL n k idx : Nat} {ret : Option FieldType} {b : Addr} {As : List Value} {wc' : va_W} {ci : Nat} {fs : List Value} {S : Type} {F : S → Prop} {w1 : S → va_W} {xw mw : va_W} {la : List Nat}
theorem q_xI {res : S → Int32} (hE : EV p m c cc nL s args own D cI cJ cZ A) (lk : LkV own idx y bytes maxL ret n) (hM : CtI l D cI cJ cZ y bytes maxL ret k (.ref b :: As) xw res F w1) (hst : SS D A s (xw ++ mw) H locs) (ha : xw.map (fun q => q.1) = la) (hlen : la.length = 41) (hw : ∃ (fs : List Value) (w : va_W), xw = (b, .inr (6, fs)) :: w) (hci : (vwCl[6]?).map (fun q => q.1) = some y.cls) (hn : As.length = n) (hsz : ls.size = nL)
    (hadr : ∀ u, (w1 u).map (fun q => q.1) = la) (hroom : k + 1 ≤ R.frames ∧ 8 + (maxL + 11) + 40 * k ≤ R.locals) {st : List Value} (hstk : st = As.reverse ++ .ref b :: rest) (hrest : (rest.map fun v => v.category).sum ≤ 8) (hdg : decode cc pc = .ok (.invokevirtual idx, 3)) (hf : cells + 0 ≤ R.cells ∧ slots + 0 ≤ R.slots)
    (kk : ∀ (u : S) (H1 : Heap) (locs1 : List Loc), F u → SS D A s (w1 u ++ mw) H1 locs1 → W p l e R s m args below meth c H1 locs1 cells slots Q (F0 m (pc + 3) ls (.int (res u) :: rest))) : W p l e R s m args below meth c H locs cells slots Q (F0 m pc ls st) := by
  have hx : xw.length = 41 := by rw [← hlen, ← ha, List.length_map]
  obtain ⟨fs, w, hw⟩ := hw
  exact q_wI (pre := []) (post := mw) hE lk hM hst (by rw [hx]; exact nd_X) hw hci hn hsz (fun u => (hadr u).trans ha.symm) hroom hstk hrest hdg hf kk
theorem q_xL {res : S → Int64} (hE : EV p m c cc nL s args own D cI cJ cZ A) (lk : LkV own idx y bytes maxL ret n) (hM : CtL l D cI cJ cZ y bytes maxL ret k (.ref b :: As) xw res F w1) (hst : SS D A s (xw ++ mw) H locs) (ha : xw.map (fun q => q.1) = la) (hlen : la.length = 41) (hw : ∃ (fs : List Value) (w : va_W), xw = (b, .inr (6, fs)) :: w) (hci : (vwCl[6]?).map (fun q => q.1) = some y.cls) (hn : As.length = n) (hsz : ls.size = nL)
    (hadr : ∀ u, (w1 u).map (fun q => q.1) = la) (hroom : k + 1 ≤ R.frames ∧ 8 + (maxL + 11) + 40 * k ≤ R.locals) {st : List Value} (hstk : st = As.reverse ++ .ref b :: rest) (hrest : (rest.map fun v => v.category).sum ≤ 8) (hdg : decode cc pc = .ok (.invokevirtual idx, 3)) (hf : cells + 0 ≤ R.cells ∧ slots + 0 ≤ R.slots)
    (kk : ∀ (u : S) (H1 : Heap) (locs1 : List Loc), F u → SS D A s (w1 u ++ mw) H1 locs1 → W p l e R s m args below meth c H1 locs1 cells slots Q (F0 m (pc + 3) ls (.long (res u) :: rest))) : W p l e R s m args below meth c H locs cells slots Q (F0 m pc ls st) := by
  have hx : xw.length = 41 := by rw [← hlen, ← ha, List.length_map]
  obtain ⟨fs, w, hw⟩ := hw
  exact q_wL (pre := []) (post := mw) hE lk hM hst (by rw [hx]; exact nd_X) hw hci hn hsz (fun u => (hadr u).trans ha.symm) hroom hstk hrest hdg hf kk
theorem q_yI {res : S → Int32} (hE : EV p m c cc nL s args own D cI cJ cZ A) (lk : LkV own idx y bytes maxL ret n) (hM : CtI l D cI cJ cZ y bytes maxL ret k (.ref b :: As) mw res F w1) (hst : SS D A s (xw ++ mw) H locs) (hx : xw.length = 41) (ha : mw.map (fun q => q.1) = la) (hlen : la.length = 18) (hw : ∃ (fs : List Value) (w : va_W), mw = (b, .inr (7, fs)) :: w) (hci : (vwCl[7]?).map (fun q => q.1) = some y.cls) (hn : As.length = n) (hsz : ls.size = nL)
    (hadr : ∀ u, (w1 u).map (fun q => q.1) = la) (hroom : k + 1 ≤ R.frames ∧ 8 + (maxL + 11) + 40 * k ≤ R.locals) {st : List Value} (hstk : st = As.reverse ++ .ref b :: rest) (hrest : (rest.map fun v => v.category).sum ≤ 8) (hdg : decode cc pc = .ok (.invokevirtual idx, 3)) (hf : cells + 0 ≤ R.cells ∧ slots + 0 ≤ R.slots)
    (kk : ∀ (u : S) (H1 : Heap) (locs1 : List Loc), F u → SS D A s (xw ++ w1 u) H1 locs1 → W p l e R s m args below meth c H1 locs1 cells slots Q (F0 m (pc + 3) ls (.int (res u) :: rest))) : W p l e R s m args below meth c H locs cells slots Q (F0 m pc ls st) := by
  have hm : mw.length = 18 := by rw [← hlen, ← ha, List.length_map]
  obtain ⟨fs, w, hw⟩ := hw
  refine q_wI (pre := xw) (post := []) hE lk hM (by rw [List.append_nil]; exact hst) (by rw [hx, hm]; exact nd_M) hw hci hn hsz (fun u => (hadr u).trans ha.symm) hroom hstk hrest hdg hf (fun u H1 locs1 hF h => kk u H1 locs1 hF ?_)
  rw [List.append_nil] at h
  exact h
theorem q_yL {res : S → Int64} (hE : EV p m c cc nL s args own D cI cJ cZ A) (lk : LkV own idx y bytes maxL ret n) (hM : CtL l D cI cJ cZ y bytes maxL ret k (.ref b :: As) mw res F w1) (hst : SS D A s (xw ++ mw) H locs) (hx : xw.length = 41) (ha : mw.map (fun q => q.1) = la) (hlen : la.length = 18) (hw : ∃ (fs : List Value) (w : va_W), mw = (b, .inr (7, fs)) :: w) (hci : (vwCl[7]?).map (fun q => q.1) = some y.cls) (hn : As.length = n) (hsz : ls.size = nL)
    (hadr : ∀ u, (w1 u).map (fun q => q.1) = la) (hroom : k + 1 ≤ R.frames ∧ 8 + (maxL + 11) + 40 * k ≤ R.locals) {st : List Value} (hstk : st = As.reverse ++ .ref b :: rest) (hrest : (rest.map fun v => v.category).sum ≤ 8) (hdg : decode cc pc = .ok (.invokevirtual idx, 3)) (hf : cells + 0 ≤ R.cells ∧ slots + 0 ≤ R.slots)
    (kk : ∀ (u : S) (H1 : Heap) (locs1 : List Loc), F u → SS D A s (xw ++ w1 u) H1 locs1 → W p l e R s m args below meth c H1 locs1 cells slots Q (F0 m (pc + 3) ls (.long (res u) :: rest))) : W p l e R s m args below meth c H locs cells slots Q (F0 m pc ls st) := by
  have hm : mw.length = 18 := by rw [← hlen, ← ha, List.length_map]
  obtain ⟨fs, w, hw⟩ := hw
  refine q_wL (pre := xw) (post := []) hE lk hM (by rw [List.append_nil]; exact hst) (by rw [hx, hm]; exact nd_M) hw hci hn hsz (fun u => (hadr u).trans ha.symm) hroom hstk hrest hdg hf (fun u H1 locs1 hF h => kk u H1 locs1 hF ?_)
  rw [List.append_nil] at h
  exact h
end QL
