/-! contracts over a whole world -/
theorem va_A_sub {wc ws : va_W} {isC : List Nat} {sz : Nat} (hC : isC.map (fun i => ws[i]?) = wc.map some) : ∀ q, va_A wc sz q → va_A ws sz q := by
  intro q h
  rcases h with ⟨k, e, h⟩ | h
  · obtain ⟨i, -, hi⟩ := q_at hC k (q, e) h
    exact Or.inl ⟨i, e, hi⟩
  · exact Or.inr h
theorem PcU_sub {D : va_G} {cI cJ cZ : ClassId} {wc ws : va_W} {isC : List Nat} {sz : Nat} {U : State} (hC : isC.map (fun i => ws[i]?) = wc.map some) (hnd : va_nd isC = true) (h : PcU D cI cJ cZ ws sz U) : PcU D cI cJ cZ wc sz U := by
  obtain ⟨h1, h2, h3, h4, h5⟩ := h
  refine ⟨h1, q_sub hC h2, h3, h4.sub isC hnd hC, ⟨h5.1, ?_, ?_, ?_⟩⟩
  · exact h5.2.1.go (Vm.Alike.refl U.vm) rfl (fun _ _ _ => rfl) (va_A_sub hC)
  · exact h5.2.2.1.go (Vm.Alike.refl U.vm) rfl (fun _ _ _ => rfl) (va_A_sub hC)
  · exact h5.2.2.2.go (Vm.Alike.refl U.vm) rfl (fun _ _ _ => rfl) (va_A_sub hC)
section FR
variable {S S' : Type} {l : Launch} {D : va_G} {cI cJ cZ : ClassId} {y : MethodName} {cc : ByteArray} {maxL k : Nat} {ret : Option FieldType} {Av : List Value} {wc : va_W} {F : S → Prop} {w1 : S → va_W} {F' : S' → Prop} {w1' : S' → va_W}
theorem fr_post {ws : va_W} {isC : List Nat} {sz : Nat} {s t : State} (hC : isC.map (fun i => ws[i]?) = wc.map some) (hadr : ∀ u, ((w1 u).map (fun q => q.1)).take wc.length = wc.map (fun q => q.1)) (h : PcU D cI cJ cZ ws sz s) (u : S) (hB : Bd D (va_A wc sz) w1 u t) (hF : va_F (va_A wc sz) s t) : va_P D vwCl (q_put ws isC (w1 u)) t.heap ∧ va_D (va_A ws sz) (q_put ws isC (w1 u)) := by
  obtain ⟨h1, h2, h3, h4, h5⟩ := h
  subst h1
  exact q_join h2 h4.self isC hC (hadr u) hF.2 (va_A_sub hC) hB.1 hB.2
theorem frI {res : S → Int32} {res' : S' → Int32} (h : CtI l D cI cJ cZ y cc maxL ret k Av wc res F w1) (isC : List Nat) (ws : va_W) (hC : isC.map (fun i => ws[i]?) = wc.map some) (hnd : va_nd isC = true) (hadr : ∀ u, ((w1 u).map (fun q => q.1)).take wc.length = wc.map (fun q => q.1)) (g : S → S') (hg : ∀ u, F u → res u = res' (g u) ∧ F' (g u) ∧ q_put ws isC (w1 u) = w1' (g u)) : CtI l D cI cJ cZ y cc maxL ret k Av ws res' F' w1' := by
  intro sz p e ha hc hk s m args below hf happ hP _
  obtain ⟨hav, hPc⟩ := hP
  obtain ⟨t, o, h1, h2, h3, hQ, L, hFr, hL⟩ := h sz p e ha hc hk s m args below hf happ ⟨hav, PcU_sub hC hnd hPc⟩ trivial
  obtain ⟨⟨r, u, ho, ⟨hr, hF⟩, hB⟩, hFF⟩ := hQ
  obtain ⟨g1, g2, g3⟩ := hg u hF
  have hp := fr_post hC hadr hPc u hB hFF
  rw [g3] at hp
  exact ⟨t, o, h1, h2, h3, ⟨⟨r, g u, ho, ⟨hr.trans g1, g2⟩, hp⟩, hFF.1, fun q a b => hFF.2 q a (fun z => b (va_A_sub hC q z))⟩, L, hFr, fun q hq => va_A_sub hC _ (hL q hq)⟩
theorem frL {res : S → Int64} {res' : S' → Int64} (h : CtL l D cI cJ cZ y cc maxL ret k Av wc res F w1) (isC : List Nat) (ws : va_W) (hC : isC.map (fun i => ws[i]?) = wc.map some) (hnd : va_nd isC = true) (hadr : ∀ u, ((w1 u).map (fun q => q.1)).take wc.length = wc.map (fun q => q.1)) (g : S → S') (hg : ∀ u, F u → res u = res' (g u) ∧ F' (g u) ∧ q_put ws isC (w1 u) = w1' (g u)) : CtL l D cI cJ cZ y cc maxL ret k Av ws res' F' w1' := by
  intro sz p e ha hc hk s m args below hf happ hP _
  obtain ⟨hav, hPc⟩ := hP
  obtain ⟨t, o, h1, h2, h3, hQ, L, hFr, hL⟩ := h sz p e ha hc hk s m args below hf happ ⟨hav, PcU_sub hC hnd hPc⟩ trivial
  obtain ⟨⟨r, u, ho, ⟨hr, hF⟩, hB⟩, hFF⟩ := hQ
  obtain ⟨g1, g2, g3⟩ := hg u hF
  have hp := fr_post hC hadr hPc u hB hFF
  rw [g3] at hp
  exact ⟨t, o, h1, h2, h3, ⟨⟨r, g u, ho, ⟨hr.trans g1, g2⟩, hp⟩, hFF.1, fun q a b => hFF.2 q a (fun z => b (va_A_sub hC q z))⟩, L, hFr, fun q hq => va_A_sub hC _ (hL q hq)⟩
end FR
/-! calls over a world in two pieces -/
theorem rg_map {α : Type} : ∀ (old pre post : List α), (List.range' pre.length old.length).map (fun i => (pre ++ old ++ post)[i]?) = old.map some
  | [], _, _ => rfl
  | a :: old, pre, post => by
    rw [show List.range' pre.length (a :: old).length = pre.length :: List.range' (pre.length + 1) old.length from rfl, List.map_cons, List.map_cons]
    have ih := rg_map old (pre ++ [a]) post
    rw [List.length_append, show [a].length = 1 from rfl] at ih
    have e : pre ++ (a :: old) ++ post = pre ++ [a] ++ old ++ post := by simp
    rw [e, ih]
    congr 1
    rw [List.append_assoc, List.append_assoc, List.getElem?_append_right (Nat.le_refl _), Nat.sub_self]
    rfl
section QW
variable {p : Program} {l : Launch} {e : Env} {R : Room} {s : State} {m : MethodId} {args : Array Value} {below : List Frame} {meth : Method} {c : Code} {H : Heap} {locs : List Loc} {cells slots : Nat} {Q : State → Prop}
variable {cc bytes : ByteArray} {pc : Nat} {ls : Array Slot} {rest : List Value} {D : va_G} {A : Nat → Prop} {cI cJ cZ : ClassId} {nL : Nat} {own : String} {y : MethodName} {maxL n k idx : Nat} {ret : Option FieldType} {b : Addr} {As : List Value} {wc' : va_W} {ci : Nat} {fs : List Value} {S : Type} {F : S → Prop} {w1 : S → va_W} {pre old post : va_W}
theorem q_wI {res : S → Int32} (hE : EV p m c cc nL s args own D cI cJ cZ A) (lk : LkV own idx y bytes maxL ret n) (hM : CtI l D cI cJ cZ y bytes maxL ret k (.ref b :: As) old res F w1) (hst : SS D A s (pre ++ old ++ post) H locs) (hnd : va_nd (List.range' pre.length old.length) = true) (hw : old = (b, .inr (ci, fs)) :: wc') (hci : (vwCl[ci]?).map (fun q => q.1) = some y.cls) (hn : As.length = n) (hsz : ls.size = nL)
    (hadr : ∀ u, (w1 u).map (fun q => q.1) = old.map (fun q => q.1)) (hroom : k + 1 ≤ R.frames ∧ 8 + (maxL + 11) + 40 * k ≤ R.locals) {st : List Value} (hstk : st = As.reverse ++ .ref b :: rest) (hrest : (rest.map fun v => v.category).sum ≤ 8) (hdg : decode cc pc = .ok (.invokevirtual idx, 3)) (hf : cells + 0 ≤ R.cells ∧ slots + 0 ≤ R.slots)
    (kk : ∀ (u : S) (H1 : Heap) (locs1 : List Loc), F u → SS D A s (pre ++ w1 u ++ post) H1 locs1 → W p l e R s m args below meth c H1 locs1 cells slots Q (F0 m (pc + 3) ls (.int (res u) :: rest))) : W p l e R s m args below meth c H locs cells slots Q (F0 m pc ls st) := by
  have hC := rg_map old pre post
  have hlen : ∀ u, old.length = (w1 u).length := fun u => by have h := congrArg List.length (hadr u); simpa using h.symm
  refine q_goI (q_rV hE lk (hM H.size) hst (List.range' pre.length old.length) hC hnd hw hci hn hsz hroom hstk hrest hdg hf) hE hst (List.range' pre.length old.length) hC (fun u => ?_) (fun u => pre ++ w1 u ++ post) (fun u => q_put_app old (w1 u) pre post (hlen u)) kk
  rw [hadr u, ← List.length_map (f := fun q : Nat × va_E => q.1)]
  exact List.take_length
theorem q_wL {res : S → Int64} (hE : EV p m c cc nL s args own D cI cJ cZ A) (lk : LkV own idx y bytes maxL ret n) (hM : CtL l D cI cJ cZ y bytes maxL ret k (.ref b :: As) old res F w1) (hst : SS D A s (pre ++ old ++ post) H locs) (hnd : va_nd (List.range' pre.length old.length) = true) (hw : old = (b, .inr (ci, fs)) :: wc') (hci : (vwCl[ci]?).map (fun q => q.1) = some y.cls) (hn : As.length = n) (hsz : ls.size = nL)
    (hadr : ∀ u, (w1 u).map (fun q => q.1) = old.map (fun q => q.1)) (hroom : k + 1 ≤ R.frames ∧ 8 + (maxL + 11) + 40 * k ≤ R.locals) {st : List Value} (hstk : st = As.reverse ++ .ref b :: rest) (hrest : (rest.map fun v => v.category).sum ≤ 8) (hdg : decode cc pc = .ok (.invokevirtual idx, 3)) (hf : cells + 0 ≤ R.cells ∧ slots + 0 ≤ R.slots)
    (kk : ∀ (u : S) (H1 : Heap) (locs1 : List Loc), F u → SS D A s (pre ++ w1 u ++ post) H1 locs1 → W p l e R s m args below meth c H1 locs1 cells slots Q (F0 m (pc + 3) ls (.long (res u) :: rest))) : W p l e R s m args below meth c H locs cells slots Q (F0 m pc ls st) := by
  have hC := rg_map old pre post
  have hlen : ∀ u, old.length = (w1 u).length := fun u => by have h := congrArg List.length (hadr u); simpa using h.symm
  refine q_goL (q_rV hE lk (hM H.size) hst (List.range' pre.length old.length) hC hnd hw hci hn hsz hroom hstk hrest hdg hf) hE hst (List.range' pre.length old.length) hC (fun u => ?_) (fun u => pre ++ w1 u ++ post) (fun u => q_put_app old (w1 u) pre post (hlen u)) kk
  rw [hadr u, ← List.length_map (f := fun q : Nat × va_E => q.1)]
  exact List.take_length
end QW
