/-! making objects and arrays -/
def XC (U : State) : Prop := va_Nw (.castable "[I" "java/lang/Cloneable") U ∧ va_Nw (.sameMethod "[I" "java/lang/Object" "clone" "()Ljava/lang/Object;") U
theorem XC.warm {s U : State} (hW : s.WarmedH U.vm) (h : XC s) : XC U := ⟨va_Nw.warmC hW h.1, va_tabs rfl (rfl : (s.setVm U.vm).vm = U.vm) (Cond.sameMethod_setVm hW.alike (by decide) h.2)⟩
theorem XC.same {s U : State} (hvm : s.vm = U.vm) (h : XC s) : XC U := ⟨va_Nw.same rfl hvm h.1, va_Nw.same rfl hvm h.2⟩
def CtX {S : Type} (l : Launch) (D : va_G) (cI cJ cZ : ClassId) (y : MethodName) (cc : ByteArray) (maxL : Nat) (ret : Option FieldType) (k mc ms : Nat) (Av : List Value) (wc : va_W) (F : S → Prop) (w1 : S → va_W) : Prop :=
  ∀ sz : Nat, Met l y (wU y cc maxL ret) (rmN k mc ms) (va_Pc Av (fun U => PcU D cI cJ cZ wc sz U ∧ XC U)) (va_Qv F (Bd D (va_A wc sz) w1) (va_A wc sz)) mc ms (va_A wc sz)
section QN
variable {p : Program} {l : Launch} {e : Env} {R : Room} {s : State} {m : MethodId} {args : Array Value} {below : List Frame} {meth : Method} {c : Code} {H : Heap} {locs : List Loc} {cells slots : Nat} {Q : State → Prop}
variable {cc bytes : ByteArray} {pc : Nat} {ls : Array Slot} {rest : List Value} {D : va_G} {A : Nat → Prop} {a : Nat} {ws : va_W} {cI cJ cZ : ClassId} {nL : Nat} {own host : String} {y : MethodName} {maxL n mc ms k idx : Nat} {ret : Option FieldType} {Qc : Array Value → State → Outcome → State → Prop} {b : Addr} {As : List Value} {wc wc' : va_W} {ci : Nat} {fs : List Value} {S : Type}
theorem q_newI (hE : EV p m c cc nL s args own D cI cJ cZ A) (hst : SS D A s ws H locs) {N : Nat} {x : Int32} (hn : ¬ x < 0) (hN : x.toNatClampNeg = N) (hb : N * 4 ≤ 536870912) (hcells : cells + 1 ≤ R.cells) (hslots : slots + N ≤ R.slots) (hdg : decode cc pc = .ok (.newarray .int, 2)) (kk : ∀ (q : Nat) (H1 : Heap), SS D A s (ws ++ [(q, .inl (cI, N, .inl (fun _ => 0)))]) H1 locs → W p l e R s m args below meth c H1 locs (cells + 1) (slots + N) Q (F0 m (pc + 2) ls (.ref q :: rest))) : W p l e R s m args below meth c H locs cells slots Q (F0 m pc ls (.int x :: rest)) := by
  refine va_newa hE.1.1 hE.1.2.1 (atype := .int) (hE.1.2.2.2.2 _ wk_1_47) (ty := .int) rfl hE.2.1 hst.1 hst.2.1 hst.2.2 hE.2.2.2 (N' := N) (a0 := (N, .inl (fun _ => 0))) (fun cA => rfl) hn hN hb hcells hslots hdg (fun q cA H1 hK' hP' hD' hS' => ?_)
  have e : cA = cI := by
    have h1 : s.vm.findClass "[I" = some cI := (hE.2.1.2 0 (cI, .int) rfl).2
    have h2 : s.vm.findClass "[I" = some cA := (hK'.2 3 (cA, .int) rfl).2
    exact Option.some.inj (h2.symm.trans h1)
  rw [e] at hP' hD'
  exact kk q H1 ⟨hP', hD', hS'⟩
theorem q_newJ (hE : EV p m c cc nL s args own D cI cJ cZ A) (hst : SS D A s ws H locs) {N : Nat} {x : Int32} (hn : ¬ x < 0) (hN : x.toNatClampNeg = N) (hb : N * 8 ≤ 536870912) (hcells : cells + 1 ≤ R.cells) (hslots : slots + N ≤ R.slots) (hdg : decode cc pc = .ok (.newarray .long, 2)) (kk : ∀ (q : Nat) (H1 : Heap), SS D A s (ws ++ [(q, .inl (cJ, N, .inr (.inl (fun _ => 0))))]) H1 locs → W p l e R s m args below meth c H1 locs (cells + 1) (slots + N) Q (F0 m (pc + 2) ls (.ref q :: rest))) : W p l e R s m args below meth c H locs cells slots Q (F0 m pc ls (.int x :: rest)) := by
  refine va_newa hE.1.1 hE.1.2.1 (atype := .long) (hE.1.2.2.2.2 _ wk_1_141) (ty := .long) rfl hE.2.1 hst.1 hst.2.1 hst.2.2 hE.2.2.2 (N' := N) (a0 := (N, .inr (.inl (fun _ => 0)))) (fun cA => rfl) hn hN hb hcells hslots hdg (fun q cA H1 hK' hP' hD' hS' => ?_)
  have e : cA = cJ := by
    have h1 : s.vm.findClass "[J" = some cJ := (hE.2.1.2 1 (cJ, .long) rfl).2
    have h2 : s.vm.findClass "[J" = some cA := (hK'.2 3 (cA, .long) rfl).2
    exact Option.some.inj (h2.symm.trans h1)
  rw [e] at hP' hD'
  exact kk q H1 ⟨hP', hD', hS'⟩
theorem q_newZ (hE : EV p m c cc nL s args own D cI cJ cZ A) (hst : SS D A s ws H locs) {N : Nat} {x : Int32} (hn : ¬ x < 0) (hN : x.toNatClampNeg = N) (hb : N * 1 ≤ 536870912) (hcells : cells + 1 ≤ R.cells) (hslots : slots + N ≤ R.slots) (hdg : decode cc pc = .ok (.newarray .boolean, 2)) (kk : ∀ (q : Nat) (H1 : Heap), SS D A s (ws ++ [(q, .inl (cZ, N, .inl (fun _ => 0)))]) H1 locs → W p l e R s m args below meth c H1 locs (cells + 1) (slots + N) Q (F0 m (pc + 2) ls (.ref q :: rest))) : W p l e R s m args below meth c H locs cells slots Q (F0 m pc ls (.int x :: rest)) := by
  refine va_newa hE.1.1 hE.1.2.1 (atype := .boolean) (hE.1.2.2.2.2 _ wk_4_50) (ty := .boolean) rfl hE.2.1 hst.1 hst.2.1 hst.2.2 hE.2.2.2 (N' := N) (a0 := (N, .inl (fun _ => 0))) (fun cA => rfl) hn hN hb hcells hslots hdg (fun q cA H1 hK' hP' hD' hS' => ?_)
  have e : cA = cZ := by
    have h1 : s.vm.findClass "[Z" = some cZ := (hE.2.1.2 2 (cZ, .boolean) rfl).2
    have h2 : s.vm.findClass "[Z" = some cA := (hK'.2 3 (cA, .boolean) rfl).2
    exact Option.some.inj (h2.symm.trans h1)
  rw [e] at hP' hD'
  exact kk q H1 ⟨hP', hD', hS'⟩
theorem q_newO (hE : EV p m c cc nL s args own D cI cJ cZ A) (hst : SS D A s ws H locs) {C : String} {T : u_T} {N : Nat} (hin : ∀ w ∈ u_ws C T N, w ∈ gtbl) (ty : Nat → FieldType) (hty : ∀ k, k < N → parseFieldDescriptor (T k).2.2.1 = some (ty k)) (hcl : Cond.classLink own idx C ∈ gtbl) (hinst : Cond.instantiable C N ∈ gtbl) (hini : Cond.initialized C ∈ gtbl) (hc : vwCl[ci]? = some (C, T, N)) (hfs : ∀ j, j < N → defaultValue (ty j) = vp_V fs j) (hcells : cells + 1 ≤ R.cells) (hslots : slots + N ≤ R.slots) (hdg : decode cc pc = .ok (.new idx, 3)) (kk : ∀ (q : Nat) (H1 : Heap), SS D A s (ws ++ [(q, .inr (ci, fs))]) H1 locs → W p l e R s m args below meth c H1 locs (cells + 1) (slots + N) Q (F0 m (pc + 3) ls (.ref q :: rest))) : W p l e R s m args below meth c H locs cells slots Q (F0 m pc ls rest) :=
  va_new hE.1.1 hE.1.2.1 hE.1.2.2.2.2 hin ty hty hE.1.2.2.2.1 (hE.1.2.2.2.2 _ hcl) (hE.1.2.2.2.2 _ hinst) (hE.1.2.2.2.2 _ hini) hE.2.1 hst.1 hst.2.1 hst.2.2 hE.2.2.2 hc hfs hcells hslots hdg (fun q H1 g1 g2 g3 => kk q H1 ⟨g1, g2, g3⟩)
theorem q_castI (hE : EV p m c cc nL s args own D cI cJ cZ A) (hst : SS D A s ws H locs) (hlink : Cond.classLink own idx "[I" ∈ gtbl) (q0 : Nat) {N : Nat} {f : Nat → Int32} (ha : ws[q0]? = some (a, .inl (cI, N, .inl f))) (hdg : decode cc pc = .ok (.checkcast idx, 3)) (kk : W p l e R s m args below meth c H locs cells slots Q (F0 m (pc + 3) ls (.ref a :: rest))) : W p l e R s m args below meth c H locs cells slots Q (F0 m pc ls (.ref a :: rest)) :=
  va_castA hE.1.1 hE.1.2.1 hE.1.2.2.2.1 (hE.1.2.2.2.2 _ hlink) hst.1 q0 ha (hE.2.1.2 0 (cI, .int) rfl).2 hdg kk
theorem q_getsClone (hE : EV p m c cc nL s args own D cI cJ cZ A) (hX : XC s) (hst : SS D A s ws H locs) {i1 i2 : Nat} (hlink : Cond.fieldLinkNest own i1 "GlassJar" "FIRST_LAWS" "[I" host ∈ nestW) (hm : Cond.methodLink own i2 ⟨"[I", "clone", "()Ljava/lang/Object;"⟩ ∈ gtbl) (hsz : ls.size = nL) (hf : 1 ≤ R.frames) (hlo : (rest.map fun v => v.category).sum + 14 ≤ R.locals) (hcells : cells + 1 ≤ R.cells) (hslots : slots + 5 ≤ R.slots) (hd1 : decode cc pc = .ok (.getstatic i1, 3)) (hd2 : decode cc (pc + 3) = .ok (.invokevirtual i2, 3)) (kk : ∀ (q : Nat) (H1 : Heap), SS D A s (ws ++ [(q, .inl (cI, 5, .inl fFL))]) H1 locs → W p l e R s m args below meth c H1 locs (cells + 1) (slots + 5) Q (F0 m (pc + 3 + 3) ls (.ref q :: rest))) : W p l e R s m args below meth c H locs cells slots Q (F0 m pc ls rest) := by
  obtain ⟨t, cell, h1, h2, h3, h4, h5, h6, h7⟩ := hE.2.2.1.2.2.2
  obtain ⟨cell', g1, g2, g3, g4, g5, g6, g7⟩ := h2
  cases h3.symm.trans g1
  have hts := hE.1.2.2.2.2
  refine va_getsN hE.1.1 hE.1.2.1 h1 hst.2.2 hE.1.2.2.2.1 (va_Nw.use rfl (hE.2.2.1.1 _ hlink)) (fun _ h => h) hd1 ?_
  intro T hT X
  have htl : t < s.heap.size := (Array.getElem?_eq_some_iff.mp h3).1
  have hcellT : T.heap[t]? = some cell := by rw [hT, hst.2.2.2.1 t htl g7]; exact h3
  have hI : s.vm.findClass "[I" = some cI := (hE.2.1.2 0 (cI, .int) rfl).2
  have hcls : cell.cls = cI := Option.some.inj (h7.symm.trans hI)
  obtain ⟨c0, t0', f1, f2, f3⟩ := Cond.castable_spec (va_Nw.use (A := args) rfl hX.1)
  cases hI.symm.trans f1
  obtain ⟨-, kA, hkA, comp, hkind⟩ := State.isArrayOf_alike X.warmed.alike ((hE.2.1.2 0 (cI, .int) rfl).1 0 (fun _ => .null))
  obtain ⟨-, kS, hkS, compS, hkindS⟩ := (hE.2.1.2 0 (cI, .int) rfl).1 0 (fun _ => .null)
  have hslot : ∀ (i : Nat) (v : Value), cell.slots[i]? = some v → ∃ x : Int32, v = .int x := fun i v hv => by
    have hi : i < 5 := by rw [← h4]; exact (Array.getElem?_eq_some_iff.mp hv).1
    have := g6 i hi
    rw [hv] at this
    exact ⟨_, Option.some.inj this⟩
  obtain ⟨vm', X', st⟩ := X.cloneArray hE.1.1 hE.1.2.2.2.1 (hts _ hm) (va_Nw.use rfl hX.2) (hts _ wk_1_167) (hts _ wk_1_168) (hts _ wk_1_169) (a := t) (cell := cell) hcellT (fun k h => by rw [h] at h5; cases h5) h6 h7 f2 (by rw [hcls]; exact f3)
    (fun i v hv => by
      rw [hcls]
      have hk' : T.vm.classes[cI]? = some kA := hkA
      obtain ⟨x, rfl⟩ := hslot i v hv
      simp [State.fitsSlot, State.slotType?, hk', hkind, fits])
    (g := F0 m (pc + 3) ls (.ref t :: rest)) rfl (hsz.trans hE.1.2.2.1.symm) rfl (by rw [hE.1.2.1]; exact hd2) hf (by show 2 * 0 + _ + 14 ≤ _; omega) hcells (by rw [h4]; exact hslots) (hloader := by rw [hcls]; exact Vm.clonesLoader_of_array hkS hkindS)
  have hce : ({ cls := cell.cls, slots := cell.slots } : Cell) = vp_cell cI (5, .inl fFL) := by
    rw [vp_cell_i, hcls]
    unfold arrV
    congr 1
    apply Array.ext_getElem?
    intro i
    by_cases hi : i < 5
    · rw [g6 i hi]
      simp [Array.getElem?_ofFn, hi, fV]
    · rw [Array.getElem?_eq_none (by omega)]
      simp [Array.getElem?_ofFn, hi]
  rw [hce, h4] at X'
  generalize hH1 : H.push (vp_cell cI (5, .inl fFL)) = H1
  have z1 : H1.size = H.size + 1 := by rw [← hH1, Array.size_push]
  have e1 : H1[H.size]? = some (vp_cell cI (5, .inl fFL)) := by rw [← hH1, Array.getElem?_push_size]
  have o1 : ∀ q : Nat, q < H.size → H1[q]? = H[q]? := fun q hq => by rw [← hH1, Array.getElem?_push, if_neg (Nat.ne_of_lt hq)]
  have hk : ∀ (k : Nat) (y : Nat × va_E), ws[k]? = some y → H1[y.1]? = H[y.1]? := fun k y hy => o1 y.1 ((hst.1 k y hy).lt)
  obtain ⟨t', b1, b2⟩ := kk H.size H1 ⟨(hst.1.kept hk).app (fun k y hy => by
      have hz : k < 1 := (List.getElem?_eq_some_iff.mp hy).1
      rw [show k = 0 by omega] at hy
      cases hy
      exact e1), hst.2.1.push hst.1 rfl (hE.2.2.2 _ hst.2.2.1), ⟨Nat.le_trans hst.2.2.1 (by omega), fun y h1 h2 => (o1 y (Nat.lt_of_lt_of_le h1 hst.2.2.1)).trans (hst.2.2.2.1 y h1 h2), hst.2.2.2.2⟩⟩
    ((T.setVm vm').pushCell (vp_cell cI (5, .inl fFL))) (by rw [← hH1, ← hT]; rfl) X'
  refine ⟨t', st t' ?_, b2⟩
  rw [hce, hT]
  exact b1
theorem q_hpX (hX : XC s) (hE : EV p m c cc nL s args own D cI cJ cZ A) (hst : SS D A s ws H locs) {isC : List Nat} (hn2 : va_nd isC = true) (hC : isC.map (fun i => ws[i]?) = wc.map some) (av : List Value) : FrameBlind (va_Pc av (fun U => PcU D cI cJ cZ wc H.size U ∧ XC U)) ∧ ∀ U : State, U.heap = H → s.WarmedH U.vm → va_Pc av (fun U => PcU D cI cJ cZ wc H.size U ∧ XC U) av.toArray U := by
  obtain ⟨h1, h2⟩ := q_hp hE hst hn2 hC av
  exact ⟨fun a U g mk q => ⟨q.1, ((PcU.blind (av := av)) a U g mk ⟨q.1, q.2.1⟩).2, XC.same (s := U) (U := U.calling g mk a) rfl q.2.2⟩, fun U hU hW => ⟨rfl, (h2 U hU hW).2, hX.warm hW⟩⟩
theorem q_rIX (hX : XC s) (hE : EV p m c cc nL s args own D cI cJ cZ A) (lk : LkI own idx y bytes maxL n) (hM : Met l y (wU y bytes maxL none) (rmN k mc ms) (va_Pc (.ref b :: As) (fun U => PcU D cI cJ cZ wc H.size U ∧ XC U)) Qc mc ms (va_A wc H.size)) (hst : SS D A s ws H locs) (isC : List Nat) (hC : isC.map (fun i => ws[i]?) = wc.map some) (hn2 : va_nd isC = true) (hn : As.length = n) (hsz : ls.size = nL)
    (hroom : k + 1 ≤ R.frames ∧ 8 + (maxL + 11) + 40 * k ≤ R.locals) {st : List Value} (hstk : st = As.reverse ++ .ref b :: rest) (hrest : (rest.map fun v => v.category).sum ≤ 8) (hdg : decode cc pc = .ok (.invokespecial idx, 3)) (hf : cells + mc ≤ R.cells ∧ slots + ms ≤ R.slots) : va_Run p l e R s m args below meth c H locs cells slots mc ms (F0 m pc ls st) rest (Qc (Value.ref b :: As).toArray) (va_A wc H.size) := by
  obtain ⟨g1, g2, g3, g4, g5, g6⟩ := lk
  have hts := hE.1.2.2.2.2
  exact va_runI hE.1 hM ⟨callB_of n hts (goodU g5) rfl rfl rfl (hts _ g4) (hts _ g1) g6 hroom, g3, hts _ g2⟩ (q_hpX hX hE hst hn2 hC (.ref b :: As)) rfl hn hsz hstk (lv_room hrest) hdg hf
theorem q_rNIX (hX : XC s) (hE : EV p m c cc nL s args own D cI cJ cZ A) (lk : LkNI own idx y host bytes maxL n) (hM : Met l y (wU y bytes maxL none) (rmN k mc ms) (va_Pc (.ref b :: As) (fun U => PcU D cI cJ cZ wc H.size U ∧ XC U)) Qc mc ms (va_A wc H.size)) (hst : SS D A s ws H locs) (isC : List Nat) (hC : isC.map (fun i => ws[i]?) = wc.map some) (hn2 : va_nd isC = true) (hn : As.length = n) (hsz : ls.size = nL)
    (hroom : k + 1 ≤ R.frames ∧ 8 + (maxL + 11) + 40 * k ≤ R.locals) {st : List Value} (hstk : st = As.reverse ++ .ref b :: rest) (hrest : (rest.map fun v => v.category).sum ≤ 8) (hdg : decode cc pc = .ok (.invokespecial idx, 3)) (hf : cells + mc ≤ R.cells ∧ slots + ms ≤ R.slots) : va_Run p l e R s m args below meth c H locs cells slots mc ms (F0 m pc ls st) rest (Qc (Value.ref b :: As).toArray) (va_A wc H.size) := by
  obtain ⟨g1, g2, g3, g4, g5, g6⟩ := lk
  have hts := hE.1.2.2.2.2
  exact va_runIN hE.1 hM ⟨va_cnB n hts (goodU g5) rfl rfl rfl (hE.2.2.1.1 _ g1) (hts _ g4) g6 hroom, g3, hts _ g2⟩ (q_hpX hX hE hst hn2 hC (.ref b :: As)) rfl hn hsz hstk (lv_room hrest) hdg hf
theorem q_entX {F : S → Prop} {w1 : S → va_W} {Av : List Value} (hy : plainName y.cls = true) (hown : y.cls = own) (hlen : (lg_sl Av).length ≤ maxL)
    (body : ∀ (p : Program) (e : Env) (s : State) (m : MethodId) (args : Array Value) (below : List Frame) (meth : Method) (c : Code) (A : Nat → Prop) (ls : Array Slot) (QQ : State → Prop), XC s → QQ = MQ below (va_Qv F (Bd D A w1) A) args s mc ms A → EV p m c cc maxL s args own D cI cJ cZ A → p.tables.exec = Jvm.exec → c.code = cc → meth.sig.returnType = ret → meth.locks = false → meth.name = y.name → A = va_A wc s.heap.size → lv_has ls maxL (lv_args 0 Av) → SS D A s wc s.heap [] →
      W p l e (rmN k mc ms) s m args below meth c s.heap [] 0 0 QQ (F0 m 0 ls [])) : CtX l D cI cJ cZ y cc maxL ret k mc ms Av wc F w1 := by
  intro sz
  refine Met.ofW (cc := cc) (maxL := maxL) (ret := ret) hy rfl ?_
  intro p e s m args below meth c s₁ B hml hv
  obtain ⟨rfl, ⟨hsz, hP, hK, hD0, hG⟩, hX⟩ := hv
  subst hsz
  subst hown
  have hts := atoms_spec (ws := wU y cc maxL ret) B.pre
  have hl := lv_entry Av (n := maxL) hlen
  rw [lg_entry_eq]
  generalize (lg_sl Av ++ List.replicate (maxL - (lg_sl Av).length) Slot.unset).toArray = ls at hl ⊢
  exact body p e s m _ below meth c _ ls _ hX rfl ⟨⟨B.exec, B.bytes, hml, findClass_of_methodNamed B.named, fun w hw => hts w (List.mem_cons_of_mem _ hw)⟩, hK, hG, fun q h => Or.inr h⟩ B.exec B.bytes B.returns B.notSynchronized (name_of_methodNamed B.named B.method).1 rfl hl ⟨hP, hD0.self, va_S.rf⟩
end QN
theorem dfv0 : ∀ j, j < 10 → defaultValue (tyX0 j) = vp_V [.int 0, .int 0, .int 0, .int 0, .int 0, .null, .null, .null, .null, .int 0] j := by
  intro j hj
  rcases (show j = 0 ∨ j = 1 ∨ j = 2 ∨ j = 3 ∨ j = 4 ∨ j = 5 ∨ j = 6 ∨ j = 7 ∨ j = 8 ∨ j = 9 by omega) with rfl | rfl | rfl | rfl | rfl | rfl | rfl | rfl | rfl | rfl <;> rfl
theorem dfv1 : ∀ j, j < 8 → defaultValue (tyX1 j) = vp_V [.null, .null, .null, .null, .int 0, .int 0, .null, .null] j := by
  intro j hj
  rcases (show j = 0 ∨ j = 1 ∨ j = 2 ∨ j = 3 ∨ j = 4 ∨ j = 5 ∨ j = 6 ∨ j = 7 by omega) with rfl | rfl | rfl | rfl | rfl | rfl | rfl | rfl <;> rfl
theorem dfv2 : ∀ j, j < 4 → defaultValue (tyX2 j) = vp_V [.null, .null, .null, .int 0] j := by
  intro j hj
  rcases (show j = 0 ∨ j = 1 ∨ j = 2 ∨ j = 3 by omega) with rfl | rfl | rfl | rfl <;> rfl
theorem dfv3 : ∀ j, j < 2 → defaultValue (tyX3 j) = vp_V [.long 0, .long 0] j := by
  intro j hj
  rcases (show j = 0 ∨ j = 1 by omega) with rfl | rfl <;> rfl
theorem dfv4 : ∀ j, j < 4 → defaultValue (tyX4 j) = vp_V [.long 0, .long 0, .int 0, .int 0] j := by
  intro j hj
  rcases (show j = 0 ∨ j = 1 ∨ j = 2 ∨ j = 3 by omega) with rfl | rfl | rfl | rfl <;> rfl
theorem dfv5 : ∀ j, j < 5 → defaultValue (tyX5 j) = vp_V [.null, .int 0, .int 0, .int 0, .int 0] j := by
  intro j hj
  rcases (show j = 0 ∨ j = 1 ∨ j = 2 ∨ j = 3 ∨ j = 4 by omega) with rfl | rfl | rfl | rfl | rfl <;> rfl
theorem dfv6 : ∀ j, j < 6 → defaultValue (tyX6 j) = vp_V [.null, .null, .null, .int 0, .null, .null] j := by
  intro j hj
  rcases (show j = 0 ∨ j = 1 ∨ j = 2 ∨ j = 3 ∨ j = 4 ∨ j = 5 by omega) with rfl | rfl | rfl | rfl | rfl | rfl <;> rfl
theorem dfv7 : ∀ j, j < 28 → defaultValue (tyX7 j) = vp_V [.null, .null, .null, .null, .null, .null, .null, .null, .null, .null, .int 0, .long 0, .long 0, .null, .null, .null, .null, .null, .null, .int 0, .int 0, .int 0, .int 0, .int 0, .null, .int 0, .int 0, .int 0] j := by
  intro j hj
  rcases (show j = 0 ∨ j = 1 ∨ j = 2 ∨ j = 3 ∨ j = 4 ∨ j = 5 ∨ j = 6 ∨ j = 7 ∨ j = 8 ∨ j = 9 ∨ j = 10 ∨ j = 11 ∨ j = 12 ∨ j = 13 ∨ j = 14 ∨ j = 15 ∨ j = 16 ∨ j = 17 ∨ j = 18 ∨ j = 19 ∨ j = 20 ∨ j = 21 ∨ j = 22 ∨ j = 23 ∨ j = 24 ∨ j = 25 ∨ j = 26 ∨ j = 27 by omega) with rfl | rfl | rfl | rfl | rfl | rfl | rfl | rfl | rfl | rfl | rfl | rfl | rfl | rfl | rfl | rfl | rfl | rfl | rfl | rfl | rfl | rfl | rfl | rfl | rfl | rfl | rfl | rfl <;> rfl
