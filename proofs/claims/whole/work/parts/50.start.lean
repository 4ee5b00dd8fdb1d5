/-! THE CLAIM OUT OF ONE WALK OF THE LAW'S BODY. Your part is whole_start (and what it stands on); all else here is the same for every law, but numbers. -/
def R_law : String := "GlassJarLaw"
def lw_P (b : Addr) (xs : List Int32) (args : Array Value) (s : State) : Prop := args = #[.ref b] ∧ s.IntsAt b xs ∧ xs.length ≤ 3072 ∧ (Jvm.Cond.and given_1 narrow_1).before args s = true
def lw_Q (_ : Array Value) (s : State) (o : Outcome) (t : State) : Prop := o = .returned (some (.int 1)) ∧ Framed s o t [] 600000 7302250
def lw_Z (below : List Frame) (a : Array Value) (s : State) : State → Prop := fun t => ∃ o, t.status = .running ∧ Ended t below o ∧ lw_Q a s o t
/-- the law's own end, with 1 on the stack, nothing written that was there before, its room as the claim has it -/
theorem lw_ret {p : Program} {l : Launch} {e : Env} {s : State} {m : MethodId} {below : List Frame} {meth : Method} {c : Code} {b : Nat} (hx : p.tables.exec = Jvm.exec) (hb : c.code = code) (hr : meth.sig.returnType = ret) (hlocks : meth.locks = false) {pc : Nat} {H : Heap} {ls : Array Slot} (hdg : decode code pc = .ok (.ireturn, 1)) : W p l e room_1 s m #[Value.ref b] below meth c H [] 600000 7302250 (lw_Z below #[Value.ref b] s) (F0 m pc ls [.int 1]) := by
  intro T hT X
  obtain ⟨fs, hret, hrun, hended, hW, hframe⟩ := X.leave (v := some (.int 1)) (hlocks := hlocks) (fun h => by rw [hr] at h; cases h)
  have hmeth' : T.vm.method? m = some meth := X.method'
  refine ⟨T.setFrames fs, ?_, .returned (some (.int 1)), hrun, hended, rfl, ⟨_, rfl⟩, hW, hframe⟩
  jvm_step X.here [X.here.top, hx, hb, hdg, hmeth', hr, ret, narrow_b1]
  (try refine ⟨rfl, ?_⟩); (try refine ⟨rfl, ?_⟩)
  first | (intro acts; rw [hret _ acts rfl rfl rfl]) | rw [hret _ _ rfl rfl rfl]
  exact Steps.refl _
/-- what holds at the law's entry: the machine, the code, the tables' words (any of lw_tbl by 'hts w (by decide +kernel)'), the script of L ints xs at the cell b, what the Statement gives of the start (any of its parts by flat_of_before) -/
def lw_At (p : Program) (s : State) (m : MethodId) (meth : Method) (c : Code) (b L : Nat) (xs : Nat → Int32) : Prop :=
  p.tables.exec = Jvm.exec ∧ c.code = code ∧ meth.sig.returnType = ret ∧ c.maxLocals = 4 ∧ s.vm.findClass R_law = some m.cls ∧ (∀ w ∈ lw_tbl, w.before #[Value.ref b] s = true) ∧ va_X b L xs s s.heap ∧ b < s.heap.size ∧ meth.locks = false ∧ (Jvm.Cond.and given_1 narrow_1).before #[Value.ref b] s = true
/-! what the start gives -/
theorem len_small {args : Array Value} {s : State} {tm : Term} {t : Nat} {cell : Cell} {v : Value} (ht : tm.eval args s none [] s = some (.ref t)) (hat : s.arrayAt? t = some cell) (hlen : (Term.length tm).eval args s none [] s = some v) : cell.slots.size < 2 ^ 31 := by
  refine Nat.lt_of_not_le fun z => ?_
  have z2 : ¬ cell.slots.size < 2147483648 := Nat.not_lt.mpr z
  simp [Term.eval, ht, hat, z2] at hlen
theorem start_GT {args : Array Value} {s : State} {A : Nat → Prop} {nm : String} {N : Nat} {f : Nat → Int32} (hN : N < 2 ^ 31) (hl : (Cond.laysStatic "GlassJar" nm "[I").before args s = true) (hini : (Cond.initialized "GlassJar").before args s = true) (harr : (Cond.arrayOf (.static "GlassJar" nm "[I") .int).before args s = true) (hlen : (Cond.eq (.length (.static "GlassJar" nm "[I")) (.int (Int32.ofNat N))).before args s = true) (hel : ∀ j : Nat, j < N → (Cond.eq (.elem (.static "GlassJar" nm "[I") (.int (Int32.ofNat j))) (.int (f j))).before args s = true) (hex : (Cond.exactly (.static "GlassJar" nm "[I") "[I").before args s = true) (hA : ∀ a : Nat, a < s.heap.size → ¬ A a) : GT nm N f A s := by
  have hlen := va_eqt hlen
  obtain ⟨t, ht, hT⟩ := va_Tof (f := fV f) hN harr hlen (fun j hj => va_eqt (hel j hj)) hA
  have hZ := va_Zref hl hini ht hA
  obtain ⟨t2, cell2, ht2, hat, hv⟩ := Term.length_spec hlen
  cases ht.symm.trans ht2
  obtain ⟨hcell, hkn, -, -⟩ := State.arrayAt?_spec hat
  have hs : cell2.slots.size < 2 ^ 31 := len_small ht hat hlen
  have hsz : cell2.slots.size = N := by
    have e : nI N = nI cell2.slots.size := Value.int.inj hv
    exact ((nI_eq hN hs).mp e).symm
  obtain ⟨a3, c3, cell3, k3, h1, h2, h3, h4, h5, h6, -⟩ := Cond.exactly_spec hex
  cases ht.symm.trans h1
  cases hcell.symm.trans h3
  exact ⟨t, cell2, hZ, hT, hcell, hsz, h5, hkn, by rw [h6]; exact h2⟩
theorem start_GX {b : Nat} {s : State} (hgv : (Jvm.Cond.and given_1 narrow_1).before #[Value.ref b] s = true) (hts : ∀ w ∈ lw_tbl, w.before #[Value.ref b] s = true) : GX (fun q : Nat => s.heap.size ≤ q) s := by
  have hs := flat_of_before _ hgv
  have hA : ∀ a : Nat, a < s.heap.size → ¬ (fun q : Nat => s.heap.size ≤ q) a := fun a h => Nat.not_le.mpr h
  have hT : ∀ w ∈ tables_1, w.before #[Value.ref b] s = true := fun w hw => hts w (List.mem_append_right _ hw)
  have hini := hT _ (List.mem_of_getElem? (i := 1) (by decide +kernel) : Cond.initialized "GlassJar" ∈ tables_1)
  refine ⟨fun w hw => ?_, ?_, ?_, ?_⟩
  · obtain ⟨h1, h2⟩ := List.mem_filter.mp hw
    have h := hT w h1
    unfold isNestW at h2
    split at h2
    · exact va_Nw.of rfl h
    · exact va_Nw.of rfl h
    · cases h2
  · refine start_GT (by decide) (hT _ wk_2_134) hini (hs _ (by decide +kernel)) (hs _ (by decide +kernel)) (fun j hj => ?_) (hs _ (by decide +kernel)) hA
    rcases (show j = 0 ∨ j = 1 ∨ j = 2 ∨ j = 3 ∨ j = 4 ∨ j = 5 ∨ j = 6 ∨ j = 7 ∨ j = 8 ∨ j = 9 ∨ j = 10 ∨ j = 11 ∨ j = 12 by omega) with rfl | rfl | rfl | rfl | rfl | rfl | rfl | rfl | rfl | rfl | rfl | rfl | rfl <;> exact hs _ (by decide +kernel)
  · refine start_GT (by decide) (hT _ wk_2_236) hini (hs _ (by decide +kernel)) (hs _ (by decide +kernel)) (fun j hj => ?_) (hs _ (by decide +kernel)) hA
    rcases (show j = 0 ∨ j = 1 ∨ j = 2 ∨ j = 3 ∨ j = 4 by omega) with rfl | rfl | rfl | rfl | rfl <;> exact hs _ (by decide +kernel)
  · refine start_GT (by decide) (hT _ wk_1_164) hini (hs _ (by decide +kernel)) (hs _ (by decide +kernel)) (fun j hj => ?_) (hs _ (by decide +kernel)) hA
    rcases (show j = 0 ∨ j = 1 ∨ j = 2 ∨ j = 3 ∨ j = 4 by omega) with rfl | rfl | rfl | rfl | rfl <;> exact hs _ (by decide +kernel)
theorem start_arr {args : Array Value} {s : State} {ty : FieldType} (h : (Cond.arrayClass ty).before args s = true) : ∃ cA : ClassId, ArrOfT s cA ty ∧ s.vm.findClass ("[" ++ ty.toString) = some cA := by
  obtain ⟨cA, k, comp, h1, h2, h3⟩ := Cond.arrayClass_spec h
  exact ⟨cA, fun n z => ⟨fun k h => (by cases h), k, h2, comp, h3⟩, h1⟩
theorem start_KK {b : Nat} {s : State} (hts : ∀ w ∈ lw_tbl, w.before #[Value.ref b] s = true) : ∃ (D : va_G) (cI cJ cZ : ClassId), KK D cI cJ cZ s := by
  have hg : ∀ w ∈ gtbl, w.before #[Value.ref b] s = true := fun w hw => hts w (List.mem_filter.mp hw).1
  obtain ⟨d0, i0, k0⟩ := u_known (C := RX0) (T := TX0) (N := 10) (n := 10) hg inG0 (hg _ wk_1_55)
  obtain ⟨d1, i1, k1⟩ := u_known (C := RX1) (T := TX1) (N := 8) (n := 8) hg inG1 (hg _ wk_1_49)
  obtain ⟨d2, i2, k2⟩ := u_known (C := RX2) (T := TX2) (N := 4) (n := 4) hg inG2 (hg _ wk_1_143)
  obtain ⟨d3, i3, k3⟩ := u_known (C := RX3) (T := TX3) (N := 2) (n := 2) hg inG3 (hg _ wk_1_192)
  obtain ⟨d4, i4, k4⟩ := u_known (C := RX4) (T := TX4) (N := 4) (n := 4) hg inG4 (hg _ wk_1_173)
  obtain ⟨d5, i5, k5⟩ := u_known (C := RX5) (T := TX5) (N := 5) (n := 5) hg inG5 (hg _ wk_1_22)
  obtain ⟨d6, i6, k6⟩ := u_known (C := RX6) (T := TX6) (N := 6) (n := 6) hg inG6 (hg _ wk_1_14)
  obtain ⟨d7, i7, k7⟩ := u_known (C := RX7) (T := TX7) (N := 28) (n := 28) hg inG7 (hg _ wk_3_200)
  obtain ⟨cI, a1, a2⟩ := start_arr (hg _ wk_1_47)
  obtain ⟨cJ, a3, a4⟩ := start_arr (hg _ wk_1_141)
  obtain ⟨cZ, a5, a6⟩ := start_arr (hg _ wk_4_50)
  refine ⟨(fun k => [d0, d1, d2, d3, d4, d5, d6, d7].getD k 0, fun k => [i0, i1, i2, i3, i4, i5, i6, i7].getD k (fun _ => 0)), cI, cJ, cZ, ?_, ?_⟩
  · intro k q hq
    match k, hq with
    | 0, hq => cases hq; exact k0
    | 1, hq => cases hq; exact k1
    | 2, hq => cases hq; exact k2
    | 3, hq => cases hq; exact k3
    | 4, hq => cases hq; exact k4
    | 5, hq => cases hq; exact k5
    | 6, hq => cases hq; exact k6
    | 7, hq => cases hq; exact k7
    | k + 8, hq => simp [vwCl] at hq
  · intro k q hq
    match k, hq with
    | 0, hq => cases hq; exact ⟨a1, a2⟩
    | 1, hq => cases hq; exact ⟨a3, a4⟩
    | 2, hq => cases hq; exact ⟨a5, a6⟩
    | k + 3, hq => simp at hq
theorem start_EV {p : Program} {s : State} {m : MethodId} {meth : Method} {c : Code} {b L : Nat} {xs : Nat → Int32} (C0 : lw_At p s m meth c b L xs) : ∃ (D : va_G) (cI cJ cZ : ClassId), EV p m c cL_law 4 s #[Value.ref b] RL D cI cJ cZ (fun q : Nat => s.heap.size ≤ q) := by
  obtain ⟨hx, hb, hr, hml, hown, hts, hX, hbl, hlocks, hgv⟩ := C0
  obtain ⟨D, cI, cJ, cZ, hK⟩ := start_KK hts
  exact ⟨D, cI, cJ, cZ, ⟨hx, hb, hml, hown, fun w hw => hts w (List.mem_filter.mp hw).1⟩, hK, start_GX hgv hts, fun _ h => h⟩
theorem start_XC {b : Nat} {s : State} (hts : ∀ w ∈ lw_tbl, w.before #[Value.ref b] s = true) : XC s := ⟨va_Nw.of rfl (hts _ (List.mem_append_right _ wk_1_170)), va_Nw.of rfl (hts _ (List.mem_append_right _ wk_1_166))⟩
