/-! at, put, copyRow of the class; at on a static table -/
def atI (N : Nat) (f : Nat → Int32) (p : Int32) : Int32 := if p < 0 then 0 else if nI N ≤ p then 0 else f p.toNatClampNeg
def putI (N : Nat) (f : Nat → Int32) (p v : Int32) : Nat → Int32 := if p < 0 then f else if nI N ≤ p then f else upd f p.toNatClampNeg v
theorem vp_of {p : Int32} {N : Nat} (hN : N < 2147483648) (h1 : ¬ p < 0) (h2 : ¬ nI N ≤ p) : vp_in p N := by
  obtain ⟨j, hj, rfl⟩ := nI_of h1
  exact vp_in_nI (Nat.lt_of_not_le fun h => h2 (nI_le h hj)) hN
theorem atI_n {N : Nat} {f : Nat → Int32} {k : Nat} (hk : k < N) (hN : N < 2147483648) : atI N f (nI k) = f k := by
  rw [atI, if_neg (nI_pos (by omega)), if_neg (nI_ge hk hN), nI_clamp (by omega)]
theorem atI_out {N : Nat} {f : Nat → Int32} {p : Int32} (h : p < 0) : atI N f p = 0 := by rw [atI, if_pos h]
theorem atI_big {N : Nat} {f : Nat → Int32} {k : Nat} (hk : N ≤ k) (h : k < 2147483648) : atI N f (nI k) = 0 := by
  rw [atI, if_neg (nI_pos (by omega)), if_pos (nI_le hk h)]
theorem putI_n {N : Nat} {f : Nat → Int32} {k : Nat} {v : Int32} (hk : k < N) (hN : N < 2147483648) : putI N f (nI k) v = upd f k v := by
  rw [putI, if_neg (nI_pos (by omega)), if_neg (nI_ge hk hN), nI_clamp (by omega)]
set_option maxHeartbeats 4000000 in
set_option maxRecDepth 100000 in
theorem c_atT (l : Launch) (D : va_G) (cI cJ cZ : ClassId) (t N : Nat) (f : Nat → Int32) (p0 : Int32) (hN : N < 2147483648) (sz : Nat) : Met l yX6_at (wU yX6_at cX6_at 2 (some .int)) (rmN 0 0 0) (fun v U => va_Pc [.ref t, .int p0] (PcU D cI cJ cZ [] sz) v U ∧ va_T .int t N (fV f) (va_A [] sz) U U.heap) (va_Qi (fun r (_ : Unit) => r = atI N f p0 ∧ True) (Bd D (va_A [] sz) (fun _ => [])) (va_A [] sz)) 0 0 (va_A [] sz) := by
  refine Met.ofW (cc := cX6_at) (maxL := 2) (ret := some .int) rfl rfl ?_
  intro p e s m args below meth c s₁ B hml hv
  obtain ⟨⟨rfl, hsz, hP, hK, hD0, hG⟩, hT⟩ := hv
  subst hsz
  have hx := B.exec
  have hb := B.bytes
  have hr := B.returns
  have hk := B.notSynchronized
  have hl := lv_entry [.ref t, .int p0] (n := 2) (Nat.le_of_ble_eq_true rfl)
  rw [lg_entry_eq]
  generalize (lg_sl [Value.ref t, .int p0] ++ List.replicate (2 - (lg_sl [Value.ref t, .int p0]).length) Slot.unset).toArray = ls at hl ⊢
  have hl : lv_has ls 2 [(0, .ref t), (1, .int p0)] := hl
  have hts := atoms_spec (ws := wU yX6_at cX6_at 2 (some .int)) B.pre
  have hE : EV p m c cX6_at 2 s #[.ref t, .int p0] RX6 D cI cJ cZ (va_A [] s.heap.size) := ⟨⟨hx, hb, hml, findClass_of_methodNamed B.named, fun w hw => hts w (List.mem_cons_of_mem _ hw)⟩, hK, hG, fun q h => Or.inr h⟩
  have hst : SS D (va_A [] s.heap.size) s [] s.heap [] := ⟨hP, hD0.self, va_S.rf⟩
  show W p l e (rmN 0 0 0) s m #[.ref t, .int p0] below meth c s.heap [] 0 0 _ _
  refine lv_iload_n hx hb dX6_at_0 rfl (lv_at hl 1 rfl) ?_
  refine lv_if_lt (tgt := 16) hx hb dX6_at_1 (by decide) (fun c_1 => ?_) (fun c_1 => ?_)
  · refine lv_iconst (v := 0) hx hb dX6_at_16 (by decide) ?_
    exact q_retI rfl hE hr hk hst () (by rw [atI, if_pos c_1]) trivial rfl dX6_at_17
  · refine lv_iload_n hx hb dX6_at_4 rfl (lv_at hl 1 rfl) ?_
    refine lv_aload_n hx hb dX6_at_5 rfl (lv_at hl 0 rfl) ?_
    refine va_tlen hx hb hT hst.2.2 (v := nI N) rfl dX6_at_6 ?_
    refine lv_icmp_ge (tgt := 16) hx hb dX6_at_7 (by decide) (fun c_7 => ?_) (fun c_7 => ?_)
    · refine lv_iconst (v := 0) hx hb dX6_at_16 (by decide) ?_
      exact q_retI rfl hE hr hk hst () (by rw [atI, if_neg c_1, if_pos c_7]) trivial rfl dX6_at_17
    · refine lv_aload_n hx hb dX6_at_10 rfl (lv_at hl 0 rfl) ?_
      refine lv_iload_n hx hb dX6_at_11 rfl (lv_at hl 1 rfl) ?_
      refine va_ti hx hb hT hst.2.2 (vp_of hN c_1 c_7) (v := .int (f p0.toNatClampNeg)) rfl dX6_at_12 ?_
      refine lv_goto (tgt := 17) hx hb dX6_at_13 (by decide) ?_
      exact q_retI rfl hE hr hk hst () (by rw [atI, if_neg c_1, if_neg c_7]) trivial rfl dX6_at_17
section QT
variable {p : Program} {l : Launch} {e : Env} {R : Room} {s : State} {m : MethodId} {args : Array Value} {below : List Frame} {meth : Method} {c : Code} {H : Heap} {locs : List Loc} {cells slots : Nat} {Q : State → Prop}
variable {cc : ByteArray} {pc : Nat} {ls : Array Slot} {rest : List Value} {D : va_G} {A : Nat → Prop} {ws : va_W} {cI cJ cZ : ClassId} {nL : Nat} {own host : String} {idx t N : Nat} {f : Nat → Int32} {i : Int32}
theorem q_tabP (hE : EV p m c cc nL s args own D cI cJ cZ A) (hst : SS D A s ws H locs) (hT : va_T .int t N (fV f) A s s.heap) : PreS s H (fun v U => va_Pc [.ref t, .int i] (PcU D cI cJ cZ [] H.size) v U ∧ va_T .int t N (fV f) (va_A [] H.size) U U.heap) [.ref t, .int i] := by
  have h0 := q_hp hE hst (isC := []) (wc := []) rfl rfl [.ref t, .int i]
  have hF := va_free hst.2.1 hst.2.2 hE.2.2.2 [] (wc := []) rfl
  refine ⟨fun a U g mk q => ⟨h0.1 a U g mk q.1, va_T.moved (u := U) (U := U.calling g mk a) (Vm.Alike.refl U.vm) q.2⟩, fun U hU hW => ⟨h0.2 U hU hW, ?_⟩⟩
  rw [hU]
  exact ((hT.moved hW.alike).kept (fun a h1 h2 => hst.2.2.2.1 a h1 h2)).narrow hF
theorem q_tabG (hE : EV p m c cc nL s args own D cI cJ cZ A) (hst : SS D A s ws H locs) (hr : va_Run p l e R s m args below meth c H locs cells slots 0 0 (F0 m pc ls (.int i :: .ref t :: rest)) rest (va_Qi (fun r (_ : Unit) => r = atI N f i ∧ True) (Bd D (va_A [] H.size) (fun _ => [])) (va_A [] H.size) [Value.ref t, .int i].toArray) (va_A [] H.size)) (kk : ∀ (H1 : Heap) (locs1 : List Loc), SS D A s ws H1 locs1 → W p l e R s m args below meth c H1 locs1 cells slots Q (F0 m (pc + 3) ls (.int (atI N f i) :: rest))) : W p l e R s m args below meth c H locs cells slots Q (F0 m pc ls (.int i :: .ref t :: rest)) :=
  q_goI hr hE hst [] rfl (fun _ => rfl) (fun _ => ws) (fun _ => by rw [q_put]; exact List.append_nil ws) (fun _ H1 l1 _ h => kk H1 l1 h)
theorem q_tab (hE : EV p m c cc nL s args own D cI cJ cZ A) (lk : LkS own idx yX6_at cX6_at 2 (some .int) 2) (hst : SS D A s ws H locs) (hT : va_T .int t N (fV f) A s s.heap) (hN : N < 2147483648) (hsz : ls.size = nL) (hroom : 1 ≤ R.frames ∧ 21 ≤ R.locals) (hrest : (rest.map fun v => v.category).sum ≤ 8) (hf : cells ≤ R.cells ∧ slots ≤ R.slots) (hdg : decode cc pc = .ok (.invokestatic idx, 3))
    (kk : ∀ (H1 : Heap) (locs1 : List Loc), SS D A s ws H1 locs1 → W p l e R s m args below meth c H1 locs1 cells slots Q (F0 m (pc + 3) ls (.int (atI N f i) :: rest))) : W p l e R s m args below meth c H locs cells slots Q (F0 m pc ls (.int i :: .ref t :: rest)) := by
  obtain ⟨g1, g2, g4, g5, g6⟩ := lk
  have hts := hE.1.2.2.2.2
  exact q_tabG hE hst (va_runS hE.1 (c_atT l D cI cJ cZ t N f i hN H.size) ⟨callB_of 2 hts (goodU g5) rfl rfl rfl (hts _ g4) (hts _ g1) g6 hroom, hts _ g2⟩ (q_tabP hE hst hT) rfl rfl hsz rfl (lv_room hrest) hdg hf) kk
theorem q_tabN (hE : EV p m c cc nL s args own D cI cJ cZ A) (lk : LkNS own idx yX6_at host cX6_at 2 (some .int) 2) (hst : SS D A s ws H locs) (hT : va_T .int t N (fV f) A s s.heap) (hN : N < 2147483648) (hsz : ls.size = nL) (hroom : 1 ≤ R.frames ∧ 21 ≤ R.locals) (hrest : (rest.map fun v => v.category).sum ≤ 8) (hf : cells ≤ R.cells ∧ slots ≤ R.slots) (hdg : decode cc pc = .ok (.invokestatic idx, 3))
    (kk : ∀ (H1 : Heap) (locs1 : List Loc), SS D A s ws H1 locs1 → W p l e R s m args below meth c H1 locs1 cells slots Q (F0 m (pc + 3) ls (.int (atI N f i) :: rest))) : W p l e R s m args below meth c H locs cells slots Q (F0 m pc ls (.int i :: .ref t :: rest)) := by
  obtain ⟨g1, g2, g4, g5, g6⟩ := lk
  have hts := hE.1.2.2.2.2
  exact q_tabG hE hst (va_runSN hE.1 (c_atT l D cI cJ cZ t N f i hN H.size) ⟨va_cnB 2 hts (goodU g5) rfl rfl rfl (hE.2.2.1.1 _ g1) (hts _ g4) g6 hroom, hts _ g2, trivial⟩ (q_tabP hE hst hT) rfl rfl hsz rfl (lv_room hrest) hdg hf) kk
theorem q_tlen (hE : EV p m c cc nL s args own D cI cJ cZ A) (hst : SS D A s ws H locs) (hT : va_T .int t N (fV f) A s s.heap) (hdg : decode cc pc = .ok (.arraylength, 1)) (kk : W p l e R s m args below meth c H locs cells slots Q (F0 m (pc + 1) ls (.int (nI N) :: rest))) : W p l e R s m args below meth c H locs cells slots Q (F0 m pc ls (.ref t :: rest)) := va_tlen hE.1.1 hE.1.2.1 hT hst.2.2 (v := nI N) rfl hdg kk
end QT

set_option maxHeartbeats 4000000 in
set_option maxRecDepth 100000 in
theorem c_X6_at (l : Launch) (D : va_G) (cI cJ cZ : ClassId) (q : Nat) (N : Nat) (f : Nat → Int32) (p0 : Int32) (hN : N < 2147483648) : CtI l D cI cJ cZ yX6_at cX6_at 2 (some .int) 0 [.ref q, .int p0] [(q, .inl (cI, N, .inl f))] (fun (_ : Unit) => atI N f p0) (fun (_ : Unit) => True) (fun (_ : Unit) => [(q, .inl (cI, N, .inl f))]) := by
  refine q_entI (own := RX6) rfl rfl (Nat.le_of_ble_eq_true rfl) ?_
  intro p e s m args below meth c A ls QQ hQ hE hx hb hr hk hin hA hl hst
  have hl : lv_has ls 2 [(0, .ref q), (1, .int p0)] := hl
  refine lv_iload_n hx hb dX6_at_0 rfl (lv_at hl 1 rfl) ?_
  refine lv_if_lt (tgt := 16) hx hb dX6_at_1 (by decide) (fun c_1 => ?_) (fun c_1 => ?_)
  · skip
    refine lv_iconst (v := 0) hx hb dX6_at_16 (by decide) ?_
    exact q_retI hQ hE hr hk hst () (by rw [atI, if_pos c_1]) (trivial) (rfl) dX6_at_17
  · skip
    refine lv_iload_n hx hb dX6_at_4 rfl (lv_at hl 1 rfl) ?_
    refine lv_aload_n hx hb dX6_at_5 rfl (lv_at hl 0 rfl) ?_
    refine q_len hE hst 0 rfl dX6_at_6 ?_
    refine lv_icmp_ge (tgt := 16) hx hb dX6_at_7 (by decide) (fun c_7 => ?_) (fun c_7 => ?_)
    · skip
      refine lv_iconst (v := 0) hx hb dX6_at_16 (by decide) ?_
      exact q_retI hQ hE hr hk hst () (by rw [atI, if_neg c_1, if_pos c_7]) (trivial) (rfl) dX6_at_17
    · skip
      refine lv_aload_n hx hb dX6_at_10 rfl (lv_at hl 0 rfl) ?_
      refine lv_iload_n hx hb dX6_at_11 rfl (lv_at hl 1 rfl) ?_
      refine q_ald hE hst 0 rfl (vp_of hN c_1 c_7) dX6_at_12 ?_
      refine lv_goto (tgt := 17) hx hb dX6_at_13 (by decide) ?_
      exact q_retI hQ hE hr hk hst () (by rw [atI, if_neg c_1, if_neg c_7]) (trivial) (rfl) dX6_at_17
set_option maxHeartbeats 4000000 in
set_option maxRecDepth 100000 in
theorem c_X6_put (l : Launch) (D : va_G) (cI cJ cZ : ClassId) (q : Nat) (N : Nat) (f : Nat → Int32) (p0 : Int32) (p1 : Int32) (hN : N < 2147483648) : CtV l D cI cJ cZ yX6_put cX6_put 3 none 0 0 0 [.ref q, .int p0, .int p1] [(q, .inl (cI, N, .inl f))] (fun (_ : Unit) => True) (fun (_ : Unit) => [(q, .inl (cI, N, .inl (putI N f p0 p1)))]) := by
  refine q_entV (own := RX6) rfl rfl (Nat.le_of_ble_eq_true rfl) ?_
  intro p e s m args below meth c A ls QQ hQ hE hx hb hr hk hin hA hl hst
  have hl : lv_has ls 3 [(0, .ref q), (1, .int p0), (2, .int p1)] := hl
  refine lv_iload_n hx hb dX6_put_0 rfl (lv_at hl 1 rfl) ?_
  refine lv_if_lt (tgt := 14) hx hb dX6_put_1 (by decide) (fun c_1 => ?_) (fun c_1 => ?_)
  · skip
    exact q_retV hQ hE hr hk hst () (trivial) (by rw [putI, if_pos c_1]) dX6_put_14
  · skip
    refine lv_iload_n hx hb dX6_put_4 rfl (lv_at hl 1 rfl) ?_
    refine lv_aload_n hx hb dX6_put_5 rfl (lv_at hl 0 rfl) ?_
    refine q_len hE hst 0 rfl dX6_put_6 ?_
    refine lv_icmp_ge (tgt := 14) hx hb dX6_put_7 (by decide) (fun c_7 => ?_) (fun c_7 => ?_)
    · skip
      exact q_retV hQ hE hr hk hst () (trivial) (by rw [putI, if_neg c_1, if_pos c_7]) dX6_put_14
    · skip
      refine lv_aload_n hx hb dX6_put_10 rfl (lv_at hl 0 rfl) ?_
      refine lv_iload_n hx hb dX6_put_11 rfl (lv_at hl 1 rfl) ?_
      refine lv_iload_n hx hb dX6_put_12 rfl (lv_at hl 2 rfl) ?_
      refine q_ast hE hst 0 rfl (vp_of hN c_1 c_7) [(q, .inl (cI, N, .inl (upd f p0.toNatClampNeg p1)))] rfl dX6_put_13 (fun H locs hst => ?_)
      exact q_retV hQ hE hr hk hst () (trivial) (by rw [putI, if_neg c_1, if_neg c_7]) dX6_put_14
theorem cpy_all {f g : Nat → Int32} {N : Nat} (hN : N < 2147483648) : ∀ j, j < N → va_cpy f g (0 : Int32).toNatClampNeg (0 : Int32).toNatClampNeg (if nI N < nI N then nI N else nI N).toNatClampNeg j = f j := by
  intro j hj
  have e : (if nI N < nI N then nI N else nI N) = nI N := by by_cases h : nI N < nI N <;> simp [h]
  rw [e, nI_clamp hN]
  have e0 : (0 : Int32).toNatClampNeg = 0 := rfl
  rw [e0, pk_cpy_in (Nat.zero_le j) (by omega)]
  simp
theorem cpy_b {N : Nat} (hN : N < 2147483648) : ¬ (if nI N < nI N then nI N else nI N) < 0 ∧ (0 : Int32).toNatClampNeg + (if nI N < nI N then nI N else nI N).toNatClampNeg ≤ N := by
  have e : (if nI N < nI N then nI N else nI N) = nI N := by by_cases h : nI N < nI N <;> simp [h]
  rw [e, nI_clamp hN]
  exact ⟨nI_pos hN, by rw [show (0 : Int32).toNatClampNeg = 0 from rfl]; omega⟩
set_option maxHeartbeats 4000000 in
set_option maxRecDepth 100000 in
theorem c_X6_copyRow (l : Launch) (D : va_G) (cI cJ cZ : ClassId) (q : Nat) (r : Nat) (N : Nat) (f : Nat → Int32) (g : Nat → Int32) (hN : N < 2147483648) : CtV l D cI cJ cZ yX6_copyRow cX6_copyRow 2 none 1 0 0 [.ref q, .ref r] [(q, .inl (cI, N, .inl f)), (r, .inl (cI, N, .inl g))] (fun (_ : Unit) => True) (fun (_ : Unit) => [(q, .inl (cI, N, .inl f)), (r, .inl (cI, N, .inl f))]) := by
  refine q_entV (own := RX6) rfl rfl (Nat.le_of_ble_eq_true rfl) ?_
  intro p e s m args below meth c A ls QQ hQ hE hx hb hr hk hin hA hl hst
  have hl : lv_has ls 2 [(0, .ref q), (1, .ref r)] := hl
  refine lv_aload_n hx hb dX6_copyRow_0 rfl (lv_at hl 0 rfl) ?_
  refine lv_iconst (v := 0) hx hb dX6_copyRow_1 (by decide) ?_
  refine lv_aload_n hx hb dX6_copyRow_2 rfl (lv_at hl 1 rfl) ?_
  refine lv_iconst (v := 0) hx hb dX6_copyRow_3 (by decide) ?_
  refine lv_aload_n hx hb dX6_copyRow_4 rfl (lv_at hl 0 rfl) ?_
  refine q_len hE hst 0 rfl dX6_copyRow_5 ?_
  refine lv_aload_n hx hb dX6_copyRow_6 rfl (lv_at hl 1 rfl) ?_
  refine q_len hE hst 1 rfl dX6_copyRow_7 ?_
  refine q_min hE wk_3_179 hl.1 (Nat.le_of_ble_eq_true rfl) (Nat.le_of_ble_eq_true rfl) (Nat.le_of_ble_eq_true rfl) (Nat.le_of_ble_eq_true rfl) dX6_copyRow_8 ?_
  refine va_copyi hx hb (hE.1.2.2.1.trans hl.1.symm) hE.1.2.2.2.1 (hE.1.2.2.2.2 _ wk_3_180) (hE.1.2.2.2.2 _ wk_1_109) (hE.1.2.2.2.2 _ wk_1_108) (hE.1.2.2.2.2 _ wk_1_6) hE.2.1 hst.1 hst.2.1 hst.2.2 0 1 0 0 (ty := .int) rfl rfl rfl rfl rfl (by decide) (by decide) (cpy_b hN).1 (cpy_b hN).2 (cpy_b hN).2 (fun _ _ => rfl) (Nat.le_of_ble_eq_true rfl) (Nat.le_of_ble_eq_true rfl) dX6_copyRow_11 (fun H locs g1 g2 g3 => ?_)
  have hst : SS D A s [(q, .inl (cI, N, .inl f)), (r, .inl (cI, N, .inl (va_cpy f g (0 : Int32).toNatClampNeg (0 : Int32).toNatClampNeg (if (nI N) < (nI N) then (nI N) else (nI N)).toNatClampNeg)))] H locs := ⟨g1, g2, g3⟩
  have hst : SS D A s [(q, .inl (cI, N, .inl f)), (r, .inl (cI, N, .inl f))] H locs := q_arr hst 1 rfl (cpy_all hN) _ rfl
  exact q_retV hQ hE hr hk hst () (trivial) (rfl) dX6_copyRow_14
def isJarB (p : Int32) : Bool := decide (p = 0) || decide (p = 1)
def isMonthB (p : Int32) : Bool := !decide (p < 0) && !decide (12 ≤ p)
def ftf (a b c d : Bool) : Int32 := if a = true then -1 else if b = true then -2 else if c = true then -4 else if d = true then -6 else 0
def monLen (p : Int32) : Int32 := atI 13 fMS (p + 1) - atI 13 fMS p
set_option maxHeartbeats 4000000 in
set_option maxRecDepth 100000 in
theorem c_X6_isJar (l : Launch) (D : va_G) (cI cJ cZ : ClassId) (p0 : Int32) : CtI l D cI cJ cZ yX6_isJar cX6_isJar 1 (some .boolean) 0 [.int p0] [] (fun (_ : Unit) => b2i (isJarB p0)) (fun (_ : Unit) => True) (fun (_ : Unit) => []) := by
  refine q_entI (own := RX6) rfl rfl (Nat.le_of_ble_eq_true rfl) ?_
  intro p e s m args below meth c A ls QQ hQ hE hx hb hr hk hin hA hl hst
  have hl : lv_has ls 1 [(0, .int p0)] := hl
  refine lv_iload_n hx hb dX6_isJar_0 rfl (lv_at hl 0 rfl) ?_
  refine lv_if_eq (tgt := 9) hx hb dX6_isJar_1 (by decide) (fun c_1 => ?_) (fun c_1 => ?_)
  · skip
    refine lv_iconst (v := 1) hx hb dX6_isJar_9 (by decide) ?_
    refine lv_goto (tgt := 14) hx hb dX6_isJar_10 (by decide) ?_
    exact q_retZ hQ hE hr hk hst () (rfl) (by simp [isJarB, b2i, c_1]) (trivial) (rfl) dX6_isJar_14
  · skip
    refine lv_iload_n hx hb dX6_isJar_4 rfl (lv_at hl 0 rfl) ?_
    refine lv_iconst (v := 1) hx hb dX6_isJar_5 (by decide) ?_
    refine lv_icmp_ne (tgt := 13) hx hb dX6_isJar_6 (by decide) (fun c_6 => ?_) (fun c_6 => ?_)
    · skip
      refine lv_iconst (v := 0) hx hb dX6_isJar_13 (by decide) ?_
      exact q_retZ hQ hE hr hk hst () (rfl) (by simp [isJarB, b2i, c_1, c_6]) (trivial) (rfl) dX6_isJar_14
    · skip
      refine lv_iconst (v := 1) hx hb dX6_isJar_9 (by decide) ?_
      refine lv_goto (tgt := 14) hx hb dX6_isJar_10 (by decide) ?_
      exact q_retZ hQ hE hr hk hst () (rfl) (by simp [isJarB, b2i, c_1, c_6]) (trivial) (rfl) dX6_isJar_14
set_option maxHeartbeats 4000000 in
set_option maxRecDepth 100000 in
theorem c_X6_isPart (l : Launch) (D : va_G) (cI cJ cZ : ClassId) (p0 : Int32) : CtI l D cI cJ cZ yX6_isPart cX6_isPart 1 (some .boolean) 0 [.int p0] [] (fun (_ : Unit) => b2i (isJarB p0)) (fun (_ : Unit) => True) (fun (_ : Unit) => []) := by
  refine q_entI (own := RX6) rfl rfl (Nat.le_of_ble_eq_true rfl) ?_
  intro p e s m args below meth c A ls QQ hQ hE hx hb hr hk hin hA hl hst
  have hl : lv_has ls 1 [(0, .int p0)] := hl
  refine lv_iload_n hx hb dX6_isPart_0 rfl (lv_at hl 0 rfl) ?_
  refine lv_if_eq (tgt := 9) hx hb dX6_isPart_1 (by decide) (fun c_1 => ?_) (fun c_1 => ?_)
  · skip
    refine lv_iconst (v := 1) hx hb dX6_isPart_9 (by decide) ?_
    refine lv_goto (tgt := 14) hx hb dX6_isPart_10 (by decide) ?_
    exact q_retZ hQ hE hr hk hst () (rfl) (by simp [isJarB, b2i, c_1]) (trivial) (rfl) dX6_isPart_14
  · skip
    refine lv_iload_n hx hb dX6_isPart_4 rfl (lv_at hl 0 rfl) ?_
    refine lv_iconst (v := 1) hx hb dX6_isPart_5 (by decide) ?_
    refine lv_icmp_ne (tgt := 13) hx hb dX6_isPart_6 (by decide) (fun c_6 => ?_) (fun c_6 => ?_)
    · skip
      refine lv_iconst (v := 0) hx hb dX6_isPart_13 (by decide) ?_
      exact q_retZ hQ hE hr hk hst () (rfl) (by simp [isJarB, b2i, c_1, c_6]) (trivial) (rfl) dX6_isPart_14
    · skip
      refine lv_iconst (v := 1) hx hb dX6_isPart_9 (by decide) ?_
      refine lv_goto (tgt := 14) hx hb dX6_isPart_10 (by decide) ?_
      exact q_retZ hQ hE hr hk hst () (rfl) (by simp [isJarB, b2i, c_1, c_6]) (trivial) (rfl) dX6_isPart_14
set_option maxHeartbeats 4000000 in
set_option maxRecDepth 100000 in
theorem c_X6_isMonth (l : Launch) (D : va_G) (cI cJ cZ : ClassId) (p0 : Int32) : CtI l D cI cJ cZ yX6_isMonth cX6_isMonth 1 (some .boolean) 0 [.int p0] [] (fun (_ : Unit) => b2i (isMonthB p0)) (fun (_ : Unit) => True) (fun (_ : Unit) => []) := by
  refine q_entI (own := RX6) rfl rfl (Nat.le_of_ble_eq_true rfl) ?_
  intro p e s m args below meth c A ls QQ hQ hE hx hb hr hk hin hA hl hst
  have hl : lv_has ls 1 [(0, .int p0)] := hl
  refine lv_iload_n hx hb dX6_isMonth_0 rfl (lv_at hl 0 rfl) ?_
  refine lv_if_lt (tgt := 14) hx hb dX6_isMonth_1 (by decide) (fun c_1 => ?_) (fun c_1 => ?_)
  · skip
    refine lv_iconst (v := 0) hx hb dX6_isMonth_14 (by decide) ?_
    exact q_retZ hQ hE hr hk hst () (rfl) (by simp [isMonthB, b2i, c_1]) (trivial) (rfl) dX6_isMonth_15
  · skip
    refine lv_iload_n hx hb dX6_isMonth_4 rfl (lv_at hl 0 rfl) ?_
    refine lv_bipush (v := 12) hx hb dX6_isMonth_5 (by decide) ?_
    refine lv_icmp_ge (tgt := 14) hx hb dX6_isMonth_7 (by decide) (fun c_7 => ?_) (fun c_7 => ?_)
    · skip
      refine lv_iconst (v := 0) hx hb dX6_isMonth_14 (by decide) ?_
      exact q_retZ hQ hE hr hk hst () (rfl) (by simp [isMonthB, b2i, c_1, c_7]) (trivial) (rfl) dX6_isMonth_15
    · skip
      refine lv_iconst (v := 1) hx hb dX6_isMonth_10 (by decide) ?_
      refine lv_goto (tgt := 15) hx hb dX6_isMonth_11 (by decide) ?_
      exact q_retZ hQ hE hr hk hst () (rfl) (by simp [isMonthB, b2i, c_1, c_7]) (trivial) (rfl) dX6_isMonth_15
set_option maxHeartbeats 4000000 in
set_option maxRecDepth 100000 in
theorem c_X6_firstThatFits (l : Launch) (D : va_G) (cI cJ cZ : ClassId) (b1 : Bool) (b2 : Bool) (b3 : Bool) (b4 : Bool) : CtI l D cI cJ cZ yX6_firstThatFits cX6_firstThatFits 4 (some .int) 0 [.int (b2i b1), .int (b2i b2), .int (b2i b3), .int (b2i b4)] [] (fun (_ : Unit) => ftf b1 b2 b3 b4) (fun (_ : Unit) => True) (fun (_ : Unit) => []) := by
  refine q_entI (own := RX6) rfl rfl (Nat.le_of_ble_eq_true rfl) ?_
  intro p e s m args below meth c A ls QQ hQ hE hx hb hr hk hin hA hl hst
  have hl : lv_has ls 4 [(0, .int (b2i b1)), (1, .int (b2i b2)), (2, .int (b2i b3)), (3, .int (b2i b4))] := hl
  refine lv_iload_n hx hb dX6_firstThatFits_0 rfl (lv_at hl 0 rfl) ?_
  refine lv_if_eq (tgt := 6) hx hb dX6_firstThatFits_1 (by decide) (fun c_1 => ?_) (fun c_1 => ?_)
  · skip
    have c_1 := b2i_f c_1
    refine lv_iload_n hx hb dX6_firstThatFits_6 rfl (lv_at hl 1 rfl) ?_
    refine lv_if_eq (tgt := 13) hx hb dX6_firstThatFits_7 (by decide) (fun c_7 => ?_) (fun c_7 => ?_)
    · skip
      have c_7 := b2i_f c_7
      refine lv_iload_n hx hb dX6_firstThatFits_13 rfl (lv_at hl 2 rfl) ?_
      refine lv_if_eq (tgt := 20) hx hb dX6_firstThatFits_14 (by decide) (fun c_14 => ?_) (fun c_14 => ?_)
      · skip
        have c_14 := b2i_f c_14
        refine lv_iload_n hx hb dX6_firstThatFits_20 rfl (lv_at hl 3 rfl) ?_
        refine lv_if_eq (tgt := 29) hx hb dX6_firstThatFits_21 (by decide) (fun c_21 => ?_) (fun c_21 => ?_)
        · skip
          have c_21 := b2i_f c_21
          refine lv_iconst (v := 0) hx hb dX6_firstThatFits_29 (by decide) ?_
          exact q_retI hQ hE hr hk hst () (by simp [ftf, c_1, c_7, c_14, c_21]) (trivial) (rfl) dX6_firstThatFits_30
        · skip
          have c_21 := b2i_t c_21
          refine lv_bipush (v := (-6)) hx hb dX6_firstThatFits_24 (by decide) ?_
          refine lv_goto (tgt := 30) hx hb dX6_firstThatFits_26 (by decide) ?_
          exact q_retI hQ hE hr hk hst () (by simp [ftf, c_1, c_7, c_14, c_21]) (trivial) (rfl) dX6_firstThatFits_30
      · skip
        have c_14 := b2i_t c_14
        refine lv_bipush (v := (-4)) hx hb dX6_firstThatFits_17 (by decide) ?_
        exact q_retI hQ hE hr hk hst () (by simp [ftf, c_1, c_7, c_14]) (trivial) (rfl) dX6_firstThatFits_19
    · skip
      have c_7 := b2i_t c_7
      refine lv_bipush (v := (-2)) hx hb dX6_firstThatFits_10 (by decide) ?_
      exact q_retI hQ hE hr hk hst () (by simp [ftf, c_1, c_7]) (trivial) (rfl) dX6_firstThatFits_12
  · skip
    have c_1 := b2i_t c_1
    refine lv_iconst (v := (-1)) hx hb dX6_firstThatFits_4 (by decide) ?_
    exact q_retI hQ hE hr hk hst () (by simp [ftf, c_1]) (trivial) (rfl) dX6_firstThatFits_5
set_option maxHeartbeats 4000000 in
set_option maxRecDepth 100000 in
theorem c_X6_monthLength (l : Launch) (D : va_G) (cI cJ cZ : ClassId) (p0 : Int32) : CtI l D cI cJ cZ yX6_monthLength cX6_monthLength 1 (some .int) 1 [.int p0] [] (fun (_ : Unit) => monLen p0) (fun (_ : Unit) => True) (fun (_ : Unit) => []) := by
  refine q_entI (own := RX6) rfl rfl (Nat.le_of_ble_eq_true rfl) ?_
  intro p e s m args below meth c A ls QQ hQ hE hx hb hr hk hin hA hl hst
  have hl : lv_has ls 1 [(0, .int p0)] := hl
  refine q_gets hE hst hE.2.2.1.2.1 wk_2_139 dX6_monthLength_0 (fun tb_0 hT_0 => ?_)
  refine lv_iload_n hx hb dX6_monthLength_3 rfl (lv_at hl 0 rfl) ?_
  refine lv_iconst (v := 1) hx hb dX6_monthLength_4 (by decide) ?_
  refine lv_iadd hx hb dX6_monthLength_5 ?_
  refine q_tab hE lk_X6_164 hst hT_0 (by decide) hl.1 ⟨(Nat.le_of_ble_eq_true rfl), (Nat.le_of_ble_eq_true rfl)⟩ (Nat.le_of_ble_eq_true rfl) ⟨(Nat.le_of_ble_eq_true rfl), (Nat.le_of_ble_eq_true rfl)⟩ dX6_monthLength_6 (fun H locs hst => ?_)
  refine q_gets hE hst hE.2.2.1.2.1 wk_2_139 dX6_monthLength_9 (fun tb_9 hT_9 => ?_)
  refine lv_iload_n hx hb dX6_monthLength_12 rfl (lv_at hl 0 rfl) ?_
  refine q_tab hE lk_X6_164 hst hT_9 (by decide) hl.1 ⟨(Nat.le_of_ble_eq_true rfl), (Nat.le_of_ble_eq_true rfl)⟩ (Nat.le_of_ble_eq_true rfl) ⟨(Nat.le_of_ble_eq_true rfl), (Nat.le_of_ble_eq_true rfl)⟩ dX6_monthLength_13 (fun H locs hst => ?_)
  refine lv_isub hx hb dX6_monthLength_16 ?_
  exact q_retI hQ hE hr hk hst () (rfl) (trivial) (rfl) dX6_monthLength_17
def monOfL (day : Int32) : Nat → Nat → Int32
  | 0, k => nI k
  | n + 1, k => if 11 ≤ nI k then nI k else if day < atI 13 fMS (nI (k + 1)) then nI k else monOfL day n (k + 1)
def monOf (day : Int32) : Int32 := monOfL day 11 0
theorem monOf_end {day : Int32} {k n : Nat} (h : 11 ≤ nI k) : monOfL day n k = nI k := by
  cases n with
  | zero => rfl
  | succ n => rw [monOfL, if_pos h]
set_option maxHeartbeats 4000000 in
set_option maxRecDepth 100000 in
theorem c_X6_monthOf (l : Launch) (D : va_G) (cI cJ cZ : ClassId) (p0 : Int32) : CtI l D cI cJ cZ yX6_monthOf cX6_monthOf 2 (some .int) 1 [.int p0] [] (fun (_ : Unit) => monOf p0) (fun (_ : Unit) => True) (fun (_ : Unit) => []) := by
  refine q_entI (own := RX6) rfl rfl (Nat.le_of_ble_eq_true rfl) ?_
  intro p e s m args below meth c A ls QQ hQ hE hx hb hr hk hin hA hl hst
  have hl : lv_has ls 2 [(0, .int p0)] := hl
  have loop_2 : ∀ (fu : Nat) (k : Nat), (k ≤ 11) → (monOf p0 = monOfL p0 (11 - k) k) → (11 - k) < fu → ∀ (H : Heap) (locs : List Loc) (ls : Array Slot), SS D A s [] H locs → lv_has ls 2 [(0, .int p0), (1, .int (nI k))] → W p l e (rmN 1 0 0) s m args below meth c H locs 0 0 QQ (F0 m 2 ls []) := by
    intro fu
    induction fu with
    | zero =>
      intro k h1 h2 hn
      exact absurd hn (Nat.not_lt_zero _)
    | succ fu ih =>
      intro k h1 h2 hn H locs ls hst hl
      refine lv_iload_n hx hb dX6_monthOf_2 rfl (lv_at hl 1 rfl) ?_
      refine lv_bipush (v := 11) hx hb dX6_monthOf_3 (by decide) ?_
      refine lv_icmp_ge (tgt := 27) hx hb dX6_monthOf_5 (by decide) (fun c_5 => ?_) (fun c_5 => ?_)
      · skip
        refine lv_iload_n hx hb dX6_monthOf_27 rfl (lv_at hl 1 rfl) ?_
        exact q_retI hQ hE hr hk hst () (by rw [h2]; exact (monOf_end c_5).symm) (trivial) (rfl) dX6_monthOf_28
      · skip
        have hk11 : k < 11 := Nat.lt_of_not_le (fun z => c_5 (nI_le z (by omega)))
        refine lv_iload_n hx hb dX6_monthOf_8 rfl (lv_at hl 0 rfl) ?_
        refine q_gets hE hst hE.2.2.1.2.1 wk_2_139 dX6_monthOf_9 (fun tb_9 hT_9 => ?_)
        refine lv_iload_n hx hb dX6_monthOf_12 rfl (lv_at hl 1 rfl) ?_
        refine lv_iconst (v := 1) hx hb dX6_monthOf_13 (by decide) ?_
        refine lv_iadd hx hb dX6_monthOf_14 ?_
        refine q_top (x' := nI (k + 1)) (nI_1 k) ?_
        refine q_tab hE lk_X6_164 hst hT_9 (by decide) hl.1 ⟨(Nat.le_of_ble_eq_true rfl), (Nat.le_of_ble_eq_true rfl)⟩ (Nat.le_of_ble_eq_true rfl) ⟨(Nat.le_of_ble_eq_true rfl), (Nat.le_of_ble_eq_true rfl)⟩ dX6_monthOf_15 (fun H locs hst => ?_)
        refine lv_icmp_lt (tgt := 27) hx hb dX6_monthOf_18 (by decide) (fun c_18 => ?_) (fun c_18 => ?_)
        · skip
          refine lv_iload_n hx hb dX6_monthOf_27 rfl (lv_at hl 1 rfl) ?_
          exact q_retI hQ hE hr hk hst () (by rw [h2, show 11 - k = (11 - (k + 1)) + 1 by omega, monOfL, if_neg c_5, if_pos c_18]) (trivial) (rfl) dX6_monthOf_28
        · skip
          refine lv_iinc (v := nI (k + 1)) (lv' := [(1, .int (nI (k + 1))), (0, .int p0)]) hx hb dX6_monthOf_21 hl (k := 1) rfl (nI_next _) (by decide) rfl (fun ls hl => ?_)
          refine lv_goto (tgt := 2) hx hb dX6_monthOf_24 (by decide) ?_
          exact ih (k + 1) (by omega) (by rw [h2, show 11 - k = (11 - (k + 1)) + 1 by omega, monOfL, if_neg c_5, if_neg c_18]) (by omega) _ _ _ (hst) (lv_sub hl [1, 0] rfl)
  refine lv_iconst (v := 0) hx hb dX6_monthOf_0 (by decide) ?_
  refine lv_istore_n (lv' := [(1, .int 0), (0, .int p0)]) hx hb dX6_monthOf_1 rfl hl (by decide) rfl (fun ls hl => ?_)
  exact loop_2 (12) 0 (by decide) (rfl) (by decide) _ _ _ (hst) (lv_sub hl [1, 0] rfl)
