/-! my kit: worlds in one bundle, contracts in one form -/
def KK (D : va_G) (cI cJ cZ : ClassId) (U : State) : Prop := va_K D vwCl [(cI, FieldType.int), (cJ, FieldType.long), (cZ, FieldType.boolean)] U
def SS (D : va_G) (A : Nat → Prop) (s : State) (ws : va_W) (H : Heap) (locs : List Loc) : Prop := va_P D vwCl ws H ∧ va_D A ws ∧ va_S A s.heap H locs
def fMS : Nat → Int32 := fun j => ([0, 31, 60, 91, 121, 152, 182, 213, 244, 274, 305, 335, 366] : List Int32).getD j 0
def fGL : Nat → Int32 := fun j => ([99, 999, 100, 999, 99] : List Int32).getD j 0
def fFL : Nat → Int32 := fun j => ([10, 150, 5, 80, 0] : List Int32).getD j 0
def fV (f : Nat → Int32) : Nat → Value := fun j => .int (f j)
/-- a static table of the class: its reference, its contents, its cell -/
def GT (n : String) (N : Nat) (f : Nat → Int32) (A : Nat → Prop) (U : State) : Prop := ∃ (t : Nat) (cell : Cell), va_Z "GlassJar" n "[I" (.ref t) A U U.heap ∧ va_T .int t N (fV f) A U U.heap ∧ U.heap[t]? = some cell ∧ cell.slots.size = N ∧ cell.vm.isStatics = false ∧ cell.vm ≠ .unknown ∧ U.vm.findClass "[I" = some cell.cls
/-- what is known of the start everywhere: the words of nest mates, the three tables -/
def GX (A : Nat → Prop) (U : State) : Prop := (∀ w ∈ nestW, va_Nw w U) ∧ GT "MONTH_STARTS" 13 fMS A U ∧ GT "GREATEST_LAWS" 5 fGL A U ∧ GT "FIRST_LAWS" 5 fFL A U
theorem GT.go {n : String} {N : Nat} {f : Nat → Int32} {A B : Nat → Prop} {s U : State} {H : Heap} (h : GT n N f A s) (hvm : s.vm.Alike U.vm) (hU : U.heap = H) (hk : ∀ a : Nat, a < s.heap.size → ¬ A a → H[a]? = s.heap[a]?) (hAB : ∀ q, B q → A q) : GT n N f B U := by
  obtain ⟨t, cell, h1, h2, h3, h4, h5, h6, h7⟩ := h
  subst hU
  refine ⟨t, cell, ((h1.moved hvm).kept hk).narrow hAB, ((h2.moved hvm).kept hk).narrow hAB, ?_, h4, h5, h6, ?_⟩
  · rw [hk t (Array.getElem?_eq_some_iff.mp h3).1 h2.out]
    exact h3
  · rw [hvm.findClass]
    exact h7
theorem nest_warm {w : Cond} {s U : State} (hn : isNestW w = true) (hW : s.WarmedH U.vm) (h : va_Nw w s) : va_Nw w U := by
  unfold isNestW at hn
  split at hn
  · exact va_Nw.warmF hW h
  · exact va_Nw.warmM hW h
  · cases hn
theorem nest_same {w : Cond} {s U : State} (hn : isNestW w = true) (hW : s.vm = U.vm) (h : va_Nw w s) : va_Nw w U := by
  unfold isNestW at hn
  split at hn
  · exact va_Nw.same rfl hW h
  · exact va_Nw.same rfl hW h
  · cases hn
theorem GX.go {A B : Nat → Prop} {s U : State} {H : Heap} (h : GX A s) (hW : s.WarmedH U.vm) (hU : U.heap = H) (hk : ∀ a : Nat, a < s.heap.size → ¬ A a → H[a]? = s.heap[a]?) (hAB : ∀ q, B q → A q) : GX B U :=
  ⟨fun w hw => nest_warm (List.mem_filter.mp hw).2 hW (h.1 w hw), h.2.1.go hW.alike hU hk hAB, h.2.2.1.go hW.alike hU hk hAB, h.2.2.2.go hW.alike hU hk hAB⟩
theorem GX.same {A : Nat → Prop} {s U : State} (h : GX A s) (hvm : s.vm = U.vm) (hh : U.heap = s.heap) : GX A U :=
  ⟨fun w hw => nest_same (List.mem_filter.mp hw).2 hvm (h.1 w hw), h.2.1.go (by rw [← hvm]; exact Vm.Alike.refl s.vm) hh (fun _ _ _ => rfl) (fun _ z => z), h.2.2.1.go (by rw [← hvm]; exact Vm.Alike.refl s.vm) hh (fun _ _ _ => rfl) (fun _ z => z), h.2.2.2.go (by rw [← hvm]; exact Vm.Alike.refl s.vm) hh (fun _ _ _ => rfl) (fun _ z => z)⟩
def EV (p : Program) (m : MethodId) (c : Code) (cc : ByteArray) (nL : Nat) (s : State) (args : Array Value) (own : String) (D : va_G) (cI cJ cZ : ClassId) (A : Nat → Prop) : Prop := CallFix p m c cc nL s args gtbl own ∧ KK D cI cJ cZ s ∧ GX A s ∧ ∀ q : Nat, s.heap.size ≤ q → A q
def rmN (k mc ms : Nat) : Room := { frames := k, cells := mc, slots := ms, locals := 40 * k }
def wU (y : MethodName) (cc : ByteArray) (maxL : Nat) (ret : Option FieldType) : List Cond := Cond.code y cc maxL ret :: gtbl
def PcU (D : va_G) (cI cJ cZ : ClassId) (wc : va_W) (sz : Nat) (U : State) : Prop := U.heap.size = sz ∧ va_P D vwCl wc U.heap ∧ KK D cI cJ cZ U ∧ va_D (fun _ => True) wc ∧ GX (va_A wc sz) U
theorem PcU.blind {D : va_G} {cI cJ cZ : ClassId} {wc : va_W} {sz : Nat} {av : List Value} : FrameBlind (va_Pc av (PcU D cI cJ cZ wc sz)) := fun a U g mk q =>
  ⟨q.1, q.2.1, q.2.2.1, va_K.moved (u := U) (U := U.calling g mk a) (Vm.Alike.refl U.vm) q.2.2.2.1, q.2.2.2.2.1, GX.same (s := U) (U := U.calling g mk a) q.2.2.2.2.2 rfl rfl⟩
/-- the world behind a call -/
def Bd {S : Type} (D : va_G) (A : Nat → Prop) (w1 : S → va_W) : S → State → Prop := fun u t => va_P D vwCl (w1 u) t.heap ∧ va_D A (w1 u)
def CtI {S : Type} (l : Launch) (D : va_G) (cI cJ cZ : ClassId) (y : MethodName) (cc : ByteArray) (maxL : Nat) (ret : Option FieldType) (k : Nat) (Av : List Value) (wc : va_W) (res : S → Int32) (F : S → Prop) (w1 : S → va_W) : Prop :=
  ∀ sz : Nat, Met l y (wU y cc maxL ret) (rmN k 0 0) (va_Pc Av (PcU D cI cJ cZ wc sz)) (va_Qi (fun r u => r = res u ∧ F u) (Bd D (va_A wc sz) w1) (va_A wc sz)) 0 0 (va_A wc sz)
def CtL {S : Type} (l : Launch) (D : va_G) (cI cJ cZ : ClassId) (y : MethodName) (cc : ByteArray) (maxL : Nat) (ret : Option FieldType) (k : Nat) (Av : List Value) (wc : va_W) (res : S → Int64) (F : S → Prop) (w1 : S → va_W) : Prop :=
  ∀ sz : Nat, Met l y (wU y cc maxL ret) (rmN k 0 0) (va_Pc Av (PcU D cI cJ cZ wc sz)) (va_Ql (fun r u => r = res u ∧ F u) (Bd D (va_A wc sz) w1) (va_A wc sz)) 0 0 (va_A wc sz)
def CtV {S : Type} (l : Launch) (D : va_G) (cI cJ cZ : ClassId) (y : MethodName) (cc : ByteArray) (maxL : Nat) (ret : Option FieldType) (k mc ms : Nat) (Av : List Value) (wc : va_W) (F : S → Prop) (w1 : S → va_W) : Prop :=
  ∀ sz : Nat, Met l y (wU y cc maxL ret) (rmN k mc ms) (va_Pc Av (PcU D cI cJ cZ wc sz)) (va_Qv F (Bd D (va_A wc sz) w1) (va_A wc sz)) mc ms (va_A wc sz)
def CtR {S : Type} (l : Launch) (D : va_G) (cI cJ cZ : ClassId) (y : MethodName) (cc : ByteArray) (maxL : Nat) (ret : Option FieldType) (k : Nat) (Av : List Value) (wc : va_W) (res : S → Nat) (F : S → Prop) (w1 : S → va_W) : Prop :=
  ∀ sz : Nat, Met l y (wU y cc maxL ret) (rmN k 0 0) (va_Pc Av (PcU D cI cJ cZ wc sz)) (va_Qr F (fun u a t => a = res u ∧ Bd D (va_A wc sz) w1 u t) (va_A wc sz)) 0 0 (va_A wc sz)
/-! what a call leaves: the callee's cells at their old places, new ones behind -/
def q_put : va_W → List Nat → va_W → va_W
  | ws, [], cs => ws ++ cs
  | ws, i :: is, c :: cs => q_put (ws.set i c) is cs
  | ws, _ :: _, [] => ws
theorem q_set_self {α : Type} : ∀ (l : List α) (i : Nat) (a : α), l[i]? = some a → l.set i a = l
  | [], _, _, _ => rfl
  | b :: l, 0, a, h => by rw [List.getElem?_cons_zero] at h; cases h; rfl
  | b :: l, i + 1, a, h => by
    rw [List.getElem?_cons_succ] at h
    show b :: l.set i a = b :: l
    rw [q_set_self l i a h]
theorem q_put_ad : ∀ (is : List Nat) (ws w1 : va_W), is.map (fun i => (ws.map (fun q => q.1))[i]?) = ((w1.map (fun q => q.1)).take is.length).map some → (q_put ws is w1).map (fun q => q.1) = ws.map (fun q => q.1) ++ (w1.drop is.length).map (fun q => q.1)
  | [], ws, w1, _ => by simp [q_put]
  | i :: is, ws, [], h => by simp at h
  | i :: is, ws, c :: cs, h => by
    simp only [List.map_cons, List.length_cons, List.take_succ_cons, List.cons.injEq] at h
    have e : (ws.set i c).map (fun q => q.1) = ws.map (fun q => q.1) := by
      rw [List.map_set]
      exact q_set_self _ _ _ h.1
    show (q_put (ws.set i c) is cs).map (fun q => q.1) = _
    rw [q_put_ad is (ws.set i c) cs (by rw [e]; exact h.2), e]
    rfl
theorem q_put_mem : ∀ (is : List Nat) (ws w1 : va_W), is.length ≤ w1.length → ∀ (k : Nat) (q : Nat × va_E), (q_put ws is w1)[k]? = some q → q ∈ w1 ∨ ∃ i, ws[i]? = some q ∧ i ∉ is
  | [], ws, w1, _, k, q, h => by
    rw [q_put] at h
    rcases List.mem_append.mp (List.mem_of_getElem? h) with h1 | h1
    · obtain ⟨i, hi⟩ := List.getElem?_of_mem h1
      exact Or.inr ⟨i, hi, List.not_mem_nil⟩
    · exact Or.inl h1
  | i :: is, ws, [], hl, k, q, h => by simp at hl
  | i :: is, ws, c :: cs, hl, k, q, h => by
    rcases q_put_mem is (ws.set i c) cs (by simpa using hl) k q h with h1 | ⟨j, hj, hn⟩
    · exact Or.inl (List.mem_cons_of_mem _ h1)
    · by_cases hij : j = i
      · subst hij
        have hlt : j < (ws.set j c).length := (List.getElem?_eq_some_iff.mp hj).1
        rw [List.length_set] at hlt
        rw [List.getElem?_set_self hlt] at hj
        cases hj
        exact Or.inl List.mem_cons_self
      · rw [List.getElem?_set_ne (Ne.symm hij)] at hj
        refine Or.inr ⟨j, hj, fun z => ?_⟩
        rcases List.mem_cons.mp z with z | z
        · exact hij z
        · exact hn z
theorem va_D_ad {A : Nat → Prop} {W W' : va_W} (h : W'.map (fun q => q.1) = W.map (fun q => q.1)) (hD : va_D A W) : va_D A W' := by
  have key : ∀ (i : Nat) (p : Nat × va_E), W'[i]? = some p → ∃ p0, W[i]? = some p0 ∧ p0.1 = p.1 := by
    intro i p hp
    have h1 : (W'.map (fun q => q.1))[i]? = some p.1 := by rw [List.getElem?_map, hp]; rfl
    rw [h, List.getElem?_map] at h1
    cases hw : W[i]? with
    | none => rw [hw] at h1; cases h1
    | some p0 => rw [hw] at h1; exact ⟨p0, rfl, Option.some.inj h1⟩
  refine ⟨fun i j p q hp hq e => ?_, fun k q hq => ?_⟩
  · obtain ⟨p0, a1, a2⟩ := key i p hp
    obtain ⟨q0, b1, b2⟩ := key j q hq
    exact hD.1 i j p0 q0 a1 b1 (by rw [a2, b2]; exact e)
  · obtain ⟨q0, a1, a2⟩ := key k q hq
    rw [← a2]
    exact hD.2 k q0 a1
theorem q_at {is : List Nat} {ws w : va_W} (hs : is.map (fun i => ws[i]?) = w.map some) (k : Nat) (q : Nat × va_E) (hq : w[k]? = some q) : ∃ i, is[k]? = some i ∧ ws[i]? = some q := by
  have h1 : (is.map (fun i => ws[i]?))[k]? = some (some q) := by rw [hs, List.getElem?_map, hq]; rfl
  rw [List.getElem?_map] at h1
  cases hi : is[k]? with
  | none => rw [hi] at h1; cases h1
  | some i => rw [hi] at h1; exact ⟨i, rfl, Option.some.inj h1⟩
theorem q_sub {D : va_G} {ws w : va_W} {H : Heap} {is : List Nat} (hs : is.map (fun i => ws[i]?) = w.map some) (h : va_P D vwCl ws H) : va_P D vwCl w H := fun k q hq => by
  obtain ⟨i, -, hi⟩ := q_at hs k q hq
  exact h i q hi
theorem q_join {A0 : Nat → Prop} {D : va_G} {ws wc w1 : va_W} {H H1 : Heap} (hP : va_P D vwCl ws H) (hD : va_D A0 ws) (isC : List Nat) (hC : isC.map (fun i => ws[i]?) = wc.map some) (hadr : (w1.map (fun q => q.1)).take wc.length = wc.map (fun q => q.1))
    (hk : ∀ q : Nat, q < H.size → ¬ va_A wc H.size q → H1[q]? = H[q]?) (hF : ∀ q, va_A wc H.size q → A0 q) (hP1 : va_P D vwCl w1 H1) (hD1 : va_D (va_A wc H.size) w1) : va_P D vwCl (q_put ws isC w1) H1 ∧ va_D A0 (q_put ws isC w1) := by
  have hlen : isC.length = wc.length := by have h := congrArg List.length hC; simpa using h
  have hlen1 : isC.length ≤ w1.length := by
    have h := congrArg List.length hadr
    simp only [List.length_take, List.length_map] at h
    omega
  refine ⟨fun k q hq => ?_, ?_⟩
  · rcases q_put_mem isC ws w1 hlen1 k q hq with h | ⟨i, hi, hn⟩
    · obtain ⟨j, hj⟩ := List.getElem?_of_mem h
      exact hP1 j q hj
    · have hl := (hP i q hi).lt
      refine (hP i q hi).kept (hk q.1 hl fun h => ?_)
      rcases h with ⟨k2, e, h⟩ | h
      · obtain ⟨j, h3, h4⟩ := q_at hC k2 (q.1, e) h
        have hij := hD.1 i j q (q.1, e) hi h4 rfl
        subst hij
        exact hn (List.mem_of_getElem? h3)
      · omega
  · have e1 : isC.map (fun i => (ws.map (fun q => q.1))[i]?) = ((w1.map (fun q => q.1)).take isC.length).map some := by
      rw [hlen, hadr]
      apply List.ext_getElem?
      intro j
      rw [List.getElem?_map, List.getElem?_map, List.getElem?_map]
      cases hw : wc[j]? with
      | none =>
        have : isC[j]? = none := by
          rw [List.getElem?_eq_none_iff] at hw ⊢
          omega
        rw [this]; rfl
      | some q =>
        obtain ⟨i, h1, h2⟩ := q_at hC j q hw
        rw [h1]
        show some ((ws.map (fun q => q.1))[i]?) = some (some q.1)
        rw [List.getElem?_map, h2]; rfl
    have e2 := q_put_ad isC ws w1 e1
    refine va_D_ad (W := ws ++ w1.drop isC.length) (by rw [e2, List.map_append]) (va_D.app hD ⟨fun i j p q hp hq e => ?_, fun k q hq => ?_⟩ (fun i j p q hp hq e => ?_))
    · rw [List.getElem?_drop] at hp hq
      have := hD1.1 _ _ p q hp hq e
      omega
    · rw [List.getElem?_drop] at hq
      exact hF _ (hD1.2 _ q hq)
    · rw [List.getElem?_drop] at hq
      rcases hD1.2 _ q hq with ⟨k2, e3, h⟩ | h
      · have hk2 : k2 < wc.length := (List.getElem?_eq_some_iff.mp h).1
        have h5 : ((w1.map (fun q => q.1)).take wc.length)[k2]? = some q.1 := by rw [hadr, List.getElem?_map, h]; rfl
        rw [List.getElem?_take_of_lt hk2, List.getElem?_map] at h5
        cases hw : w1[k2]? with
        | none => rw [hw] at h5; cases h5
        | some q2 =>
          rw [hw] at h5
          have := hD1.1 _ _ q2 q hw hq (Option.some.inj h5)
          omega
      · have := (hP i p hp).lt
        omega
theorem goodU {y : MethodName} {cc : ByteArray} {maxL : Nat} {ret : Option FieldType} (hc : Cond.code y cc maxL ret ∈ gtbl) : GoodIn gtbl (wU y cc maxL ret) := by
  have k : ∀ w ∈ gtbl, w ∈ gtbl ∧ ((w.onTables && w.keeps) = true ∨ ∃ ty, w = .arrayClass ty) := fun w hw => ⟨hw, good_of_word (List.mem_filter.mp hw).2⟩
  intro w hw
  rcases List.mem_cons.mp hw with h | h
  · rw [h]; exact k _ hc
  · exact k w h
/-- the links of a call: of a method of its own class, of a nest mate; virtual, static, a constructor -/
def LkV (own : String) (idx : Nat) (y : MethodName) (cc : ByteArray) (maxL : Nat) (ret : Option FieldType) (n : Nat) : Prop := Cond.methodLink own idx y ∈ gtbl ∧ Cond.instanceMethod y ∈ gtbl ∧ Cond.selects y.cls y y ∈ gtbl ∧ Cond.initialized y.cls ∈ gtbl ∧ Cond.code y cc maxL ret ∈ gtbl ∧ (y.cls ≠ "java/lang/invoke/MethodHandle" ∧ y.cls ≠ "java/lang/invoke/VarHandle" ∧ (parseMethodDescriptor y.desc).map (fun d => d.parameters.length) = some n)
def LkS (own : String) (idx : Nat) (y : MethodName) (cc : ByteArray) (maxL : Nat) (ret : Option FieldType) (n : Nat) : Prop := Cond.methodLink own idx y ∈ gtbl ∧ Cond.static y ∈ gtbl ∧ Cond.initialized y.cls ∈ gtbl ∧ Cond.code y cc maxL ret ∈ gtbl ∧ (y.cls ≠ "java/lang/invoke/MethodHandle" ∧ y.cls ≠ "java/lang/invoke/VarHandle" ∧ (parseMethodDescriptor y.desc).map (fun d => d.parameters.length) = some n)
def LkI (own : String) (idx : Nat) (y : MethodName) (cc : ByteArray) (maxL : Nat) (n : Nat) : Prop := Cond.methodLink own idx y ∈ gtbl ∧ Cond.instanceMethod y ∈ gtbl ∧ y.name = "<init>" ∧ Cond.initialized y.cls ∈ gtbl ∧ Cond.code y cc maxL none ∈ gtbl ∧ (y.cls ≠ "java/lang/invoke/MethodHandle" ∧ y.cls ≠ "java/lang/invoke/VarHandle" ∧ (parseMethodDescriptor y.desc).map (fun d => d.parameters.length) = some n)
def LkNV (own : String) (idx : Nat) (y : MethodName) (host : String) (cc : ByteArray) (maxL : Nat) (ret : Option FieldType) (n : Nat) : Prop := Cond.methodLinkNest own idx y host ∈ nestW ∧ Cond.instanceMethod y ∈ gtbl ∧ Cond.selects y.cls y y ∈ gtbl ∧ Cond.initialized y.cls ∈ gtbl ∧ Cond.code y cc maxL ret ∈ gtbl ∧ (y.cls ≠ "java/lang/invoke/MethodHandle" ∧ y.cls ≠ "java/lang/invoke/VarHandle" ∧ (parseMethodDescriptor y.desc).map (fun d => d.parameters.length) = some n)
def LkNS (own : String) (idx : Nat) (y : MethodName) (host : String) (cc : ByteArray) (maxL : Nat) (ret : Option FieldType) (n : Nat) : Prop := Cond.methodLinkNest own idx y host ∈ nestW ∧ Cond.static y ∈ gtbl ∧ Cond.initialized y.cls ∈ gtbl ∧ Cond.code y cc maxL ret ∈ gtbl ∧ (y.cls ≠ "java/lang/invoke/MethodHandle" ∧ y.cls ≠ "java/lang/invoke/VarHandle" ∧ (parseMethodDescriptor y.desc).map (fun d => d.parameters.length) = some n)
def LkNI (own : String) (idx : Nat) (y : MethodName) (host : String) (cc : ByteArray) (maxL : Nat) (n : Nat) : Prop := Cond.methodLinkNest own idx y host ∈ nestW ∧ Cond.instanceMethod y ∈ gtbl ∧ y.name = "<init>" ∧ Cond.initialized y.cls ∈ gtbl ∧ Cond.code y cc maxL none ∈ gtbl ∧ (y.cls ≠ "java/lang/invoke/MethodHandle" ∧ y.cls ≠ "java/lang/invoke/VarHandle" ∧ (parseMethodDescriptor y.desc).map (fun d => d.parameters.length) = some n)
section QK
variable {p : Program} {l : Launch} {e : Env} {R : Room} {s : State} {m : MethodId} {args : Array Value} {below : List Frame} {meth : Method} {c : Code} {H : Heap} {locs : List Loc} {cells slots : Nat} {Q : State → Prop}
variable {cc bytes : ByteArray} {pc : Nat} {ls : Array Slot} {rest : List Value} {D : va_G} {A : Nat → Prop} {a : Nat} {ws : va_W} {cI cJ cZ : ClassId} {nL : Nat} {own host : String} {y : MethodName} {maxL n mc ms k idx : Nat} {ret : Option FieldType} {Qc : Array Value → State → Outcome → State → Prop} {b : Addr} {As : List Value} {wc wc' : va_W} {ci : Nat} {fs : List Value} {S : Type}
theorem q_hp (hE : EV p m c cc nL s args own D cI cJ cZ A) (hst : SS D A s ws H locs) {isC : List Nat} (hn2 : va_nd isC = true) (hC : isC.map (fun i => ws[i]?) = wc.map some) (av : List Value) : FrameBlind (va_Pc av (PcU D cI cJ cZ wc H.size)) ∧ ∀ U : State, U.heap = H → s.WarmedH U.vm → va_Pc av (PcU D cI cJ cZ wc H.size) av.toArray U := by
  obtain ⟨-, hK, hG, hA⟩ := hE
  obtain ⟨hP, hD, hS⟩ := hst
  exact ⟨PcU.blind, fun U hU hW => ⟨rfl, by rw [hU], by rw [hU]; exact q_sub hC hP, va_K.moved hW.alike hK, (hD.sub isC hn2 hC).weaken (fun _ _ _ _ => trivial), GX.go hG hW hU (fun a h1 h2 => hS.2.1 a h1 h2) (va_free hD hS hA isC hC)⟩⟩
theorem q_recv (hE : EV p m c cc nL s args own D cI cJ cZ A) (hst : SS D A s ws H locs) {isC : List Nat} (hC : isC.map (fun i => ws[i]?) = wc.map some) (hw : wc = (b, .inr (ci, fs)) :: wc') {C : String} (hci : (vwCl[ci]?).map (fun q => q.1) = some C) : ∃ cell : Cell, H[b]? = some cell ∧ cell.vm.isStatics = false ∧ s.vm.findClass C = some cell.cls := by
  cases hq : vwCl[ci]? with
  | none => rw [hq] at hci; cases hci
  | some q =>
    rw [hq] at hci
    have e : q.1 = C := Option.some.inj hci
    rw [← e]
    exact va_recv hE.2.1 (q_sub hC hst.1) hq (q0 := 0) (by rw [hw]; rfl)
theorem q_rV (hE : EV p m c cc nL s args own D cI cJ cZ A) (lk : LkV own idx y bytes maxL ret n) (hM : Met l y (wU y bytes maxL ret) (rmN k mc ms) (va_Pc (.ref b :: As) (PcU D cI cJ cZ wc H.size)) Qc mc ms (va_A wc H.size)) (hst : SS D A s ws H locs) (isC : List Nat) (hC : isC.map (fun i => ws[i]?) = wc.map some) (hn2 : va_nd isC = true) (hw : wc = (b, .inr (ci, fs)) :: wc') (hci : (vwCl[ci]?).map (fun q => q.1) = some y.cls) (hn : As.length = n) (hsz : ls.size = nL)
    (hroom : k + 1 ≤ R.frames ∧ 8 + (maxL + 11) + 40 * k ≤ R.locals) {st : List Value} (hstk : st = As.reverse ++ .ref b :: rest) (hrest : (rest.map fun v => v.category).sum ≤ 8) (hdg : decode cc pc = .ok (.invokevirtual idx, 3)) (hf : cells + mc ≤ R.cells ∧ slots + ms ≤ R.slots) : va_Run p l e R s m args below meth c H locs cells slots mc ms (F0 m pc ls st) rest (Qc (Value.ref b :: As).toArray) (va_A wc H.size) := by
  obtain ⟨g1, g2, g3, g4, g5, g6⟩ := lk
  have hp := q_hp hE hst hn2 hC (.ref b :: As)
  have hts := hE.1.2.2.2.2
  exact va_runV hE.1 hM ⟨callB_of n hts (goodU g5) rfl rfl rfl (hts _ g4) (hts _ g1) g6 hroom, hts _ g2, hts _ g3⟩ ⟨hp.1, q_recv hE hst hC hw hci, hp.2⟩ rfl hn hsz hstk (lv_room hrest) hdg hf
theorem q_rS (hE : EV p m c cc nL s args own D cI cJ cZ A) (lk : LkS own idx y bytes maxL ret n) (hM : Met l y (wU y bytes maxL ret) (rmN k mc ms) (va_Pc As (PcU D cI cJ cZ wc H.size)) Qc mc ms (va_A wc H.size)) (hst : SS D A s ws H locs) (isC : List Nat) (hC : isC.map (fun i => ws[i]?) = wc.map some) (hn2 : va_nd isC = true) (hn : As.length = n) (hsz : ls.size = nL)
    (hroom : k + 1 ≤ R.frames ∧ 8 + (maxL + 11) + 40 * k ≤ R.locals) {st : List Value} (hstk : st = As.reverse ++ rest) (hrest : (rest.map fun v => v.category).sum ≤ 8) (hdg : decode cc pc = .ok (.invokestatic idx, 3)) (hf : cells + mc ≤ R.cells ∧ slots + ms ≤ R.slots) : va_Run p l e R s m args below meth c H locs cells slots mc ms (F0 m pc ls st) rest (Qc As.toArray) (va_A wc H.size) := by
  obtain ⟨g1, g2, g4, g5, g6⟩ := lk
  have hts := hE.1.2.2.2.2
  exact va_runS hE.1 hM ⟨callB_of n hts (goodU g5) rfl rfl rfl (hts _ g4) (hts _ g1) g6 hroom, hts _ g2⟩ (q_hp hE hst hn2 hC As) rfl hn hsz hstk (lv_room hrest) hdg hf
theorem q_rI (hE : EV p m c cc nL s args own D cI cJ cZ A) (lk : LkI own idx y bytes maxL n) (hM : Met l y (wU y bytes maxL none) (rmN k mc ms) (va_Pc (.ref b :: As) (PcU D cI cJ cZ wc H.size)) Qc mc ms (va_A wc H.size)) (hst : SS D A s ws H locs) (isC : List Nat) (hC : isC.map (fun i => ws[i]?) = wc.map some) (hn2 : va_nd isC = true) (hn : As.length = n) (hsz : ls.size = nL)
    (hroom : k + 1 ≤ R.frames ∧ 8 + (maxL + 11) + 40 * k ≤ R.locals) {st : List Value} (hstk : st = As.reverse ++ .ref b :: rest) (hrest : (rest.map fun v => v.category).sum ≤ 8) (hdg : decode cc pc = .ok (.invokespecial idx, 3)) (hf : cells + mc ≤ R.cells ∧ slots + ms ≤ R.slots) : va_Run p l e R s m args below meth c H locs cells slots mc ms (F0 m pc ls st) rest (Qc (Value.ref b :: As).toArray) (va_A wc H.size) := by
  obtain ⟨g1, g2, g3, g4, g5, g6⟩ := lk
  have hts := hE.1.2.2.2.2
  exact va_runI hE.1 hM ⟨callB_of n hts (goodU g5) rfl rfl rfl (hts _ g4) (hts _ g1) g6 hroom, g3, hts _ g2⟩ (q_hp hE hst hn2 hC (.ref b :: As)) rfl hn hsz hstk (lv_room hrest) hdg hf
theorem q_rNV (hE : EV p m c cc nL s args own D cI cJ cZ A) (lk : LkNV own idx y host bytes maxL ret n) (hM : Met l y (wU y bytes maxL ret) (rmN k mc ms) (va_Pc (.ref b :: As) (PcU D cI cJ cZ wc H.size)) Qc mc ms (va_A wc H.size)) (hst : SS D A s ws H locs) (isC : List Nat) (hC : isC.map (fun i => ws[i]?) = wc.map some) (hn2 : va_nd isC = true) (hw : wc = (b, .inr (ci, fs)) :: wc') (hci : (vwCl[ci]?).map (fun q => q.1) = some y.cls) (hn : As.length = n) (hsz : ls.size = nL)
    (hroom : k + 1 ≤ R.frames ∧ 8 + (maxL + 11) + 40 * k ≤ R.locals) {st : List Value} (hstk : st = As.reverse ++ .ref b :: rest) (hrest : (rest.map fun v => v.category).sum ≤ 8) (hdg : decode cc pc = .ok (.invokevirtual idx, 3)) (hf : cells + mc ≤ R.cells ∧ slots + ms ≤ R.slots) : va_Run p l e R s m args below meth c H locs cells slots mc ms (F0 m pc ls st) rest (Qc (Value.ref b :: As).toArray) (va_A wc H.size) := by
  obtain ⟨g1, g2, g3, g4, g5, g6⟩ := lk
  have hp := q_hp hE hst hn2 hC (.ref b :: As)
  have hts := hE.1.2.2.2.2
  exact va_runVN hE.1 hM ⟨va_cnB n hts (goodU g5) rfl rfl rfl (hE.2.2.1.1 _ g1) (hts _ g4) g6 hroom, hts _ g2, hts _ g3⟩ ⟨hp.1, q_recv hE hst hC hw hci, hp.2⟩ rfl hn hsz hstk (lv_room hrest) hdg hf
theorem q_rNS (hE : EV p m c cc nL s args own D cI cJ cZ A) (lk : LkNS own idx y host bytes maxL ret n) (hM : Met l y (wU y bytes maxL ret) (rmN k mc ms) (va_Pc As (PcU D cI cJ cZ wc H.size)) Qc mc ms (va_A wc H.size)) (hst : SS D A s ws H locs) (isC : List Nat) (hC : isC.map (fun i => ws[i]?) = wc.map some) (hn2 : va_nd isC = true) (hn : As.length = n) (hsz : ls.size = nL)
    (hroom : k + 1 ≤ R.frames ∧ 8 + (maxL + 11) + 40 * k ≤ R.locals) {st : List Value} (hstk : st = As.reverse ++ rest) (hrest : (rest.map fun v => v.category).sum ≤ 8) (hdg : decode cc pc = .ok (.invokestatic idx, 3)) (hf : cells + mc ≤ R.cells ∧ slots + ms ≤ R.slots) : va_Run p l e R s m args below meth c H locs cells slots mc ms (F0 m pc ls st) rest (Qc As.toArray) (va_A wc H.size) := by
  obtain ⟨g1, g2, g4, g5, g6⟩ := lk
  have hts := hE.1.2.2.2.2
  exact va_runSN hE.1 hM ⟨va_cnB n hts (goodU g5) rfl rfl rfl (hE.2.2.1.1 _ g1) (hts _ g4) g6 hroom, hts _ g2, trivial⟩ (q_hp hE hst hn2 hC As) rfl hn hsz hstk (lv_room hrest) hdg hf
theorem q_rNI (hE : EV p m c cc nL s args own D cI cJ cZ A) (lk : LkNI own idx y host bytes maxL n) (hM : Met l y (wU y bytes maxL none) (rmN k mc ms) (va_Pc (.ref b :: As) (PcU D cI cJ cZ wc H.size)) Qc mc ms (va_A wc H.size)) (hst : SS D A s ws H locs) (isC : List Nat) (hC : isC.map (fun i => ws[i]?) = wc.map some) (hn2 : va_nd isC = true) (hn : As.length = n) (hsz : ls.size = nL)
    (hroom : k + 1 ≤ R.frames ∧ 8 + (maxL + 11) + 40 * k ≤ R.locals) {st : List Value} (hstk : st = As.reverse ++ .ref b :: rest) (hrest : (rest.map fun v => v.category).sum ≤ 8) (hdg : decode cc pc = .ok (.invokespecial idx, 3)) (hf : cells + mc ≤ R.cells ∧ slots + ms ≤ R.slots) : va_Run p l e R s m args below meth c H locs cells slots mc ms (F0 m pc ls st) rest (Qc (Value.ref b :: As).toArray) (va_A wc H.size) := by
  obtain ⟨g1, g2, g3, g4, g5, g6⟩ := lk
  have hts := hE.1.2.2.2.2
  exact va_runIN hE.1 hM ⟨va_cnB n hts (goodU g5) rfl rfl rfl (hE.2.2.1.1 _ g1) (hts _ g4) g6 hroom, g3, hts _ g2⟩ (q_hp hE hst hn2 hC (.ref b :: As)) rfl hn hsz hstk (lv_room hrest) hdg hf
theorem q_goI {res : S → Int32} {F : S → Prop} {w1 : S → va_W} {av : Array Value} {st : List Value} (hr : va_Run p l e R s m args below meth c H locs cells slots 0 0 (F0 m pc ls st) rest (va_Qi (fun r u => r = res u ∧ F u) (Bd D (va_A wc H.size) w1) (va_A wc H.size) av) (va_A wc H.size)) (hE : EV p m c cc nL s args own D cI cJ cZ A) (hst : SS D A s ws H locs) (isC : List Nat) (hC : isC.map (fun i => ws[i]?) = wc.map some)
    (hadr : ∀ u, ((w1 u).map (fun q => q.1)).take wc.length = wc.map (fun q => q.1)) (ws' : S → va_W) (hws : ∀ u, q_put ws isC (w1 u) = ws' u) (kk : ∀ (u : S) (H1 : Heap) (locs1 : List Loc), F u → SS D A s (ws' u) H1 locs1 → W p l e R s m args below meth c H1 locs1 cells slots Q (F0 m (pc + 3) ls (.int (res u) :: rest))) : W p l e R s m args below meth c H locs cells slots Q (F0 m pc ls st) := by
  have hFc := va_free hst.2.1 hst.2.2 hE.2.2.2 isC hC
  refine va_calli hr hst.2.2 (fun q _ h => hFc q h) hFc (fun r u t H1 locs1 ht hvm hp hB hz hk hS => ?_)
  obtain ⟨rfl, hF⟩ := hp
  obtain ⟨hP1, hD1⟩ := hB
  rw [ht] at hP1
  obtain ⟨g1, g2⟩ := q_join hst.1 hst.2.1 isC hC (hadr u) hk hFc hP1 hD1
  exact kk u H1 locs1 hF ⟨hws u ▸ g1, hws u ▸ g2, hS⟩
theorem q_goL {res : S → Int64} {F : S → Prop} {w1 : S → va_W} {av : Array Value} {st : List Value} (hr : va_Run p l e R s m args below meth c H locs cells slots 0 0 (F0 m pc ls st) rest (va_Ql (fun r u => r = res u ∧ F u) (Bd D (va_A wc H.size) w1) (va_A wc H.size) av) (va_A wc H.size)) (hE : EV p m c cc nL s args own D cI cJ cZ A) (hst : SS D A s ws H locs) (isC : List Nat) (hC : isC.map (fun i => ws[i]?) = wc.map some)
    (hadr : ∀ u, ((w1 u).map (fun q => q.1)).take wc.length = wc.map (fun q => q.1)) (ws' : S → va_W) (hws : ∀ u, q_put ws isC (w1 u) = ws' u) (kk : ∀ (u : S) (H1 : Heap) (locs1 : List Loc), F u → SS D A s (ws' u) H1 locs1 → W p l e R s m args below meth c H1 locs1 cells slots Q (F0 m (pc + 3) ls (.long (res u) :: rest))) : W p l e R s m args below meth c H locs cells slots Q (F0 m pc ls st) := by
  have hFc := va_free hst.2.1 hst.2.2 hE.2.2.2 isC hC
  refine va_calll hr hst.2.2 (fun q _ h => hFc q h) hFc (fun r u t H1 locs1 ht hvm hp hB hz hk hS => ?_)
  obtain ⟨rfl, hF⟩ := hp
  obtain ⟨hP1, hD1⟩ := hB
  rw [ht] at hP1
  obtain ⟨g1, g2⟩ := q_join hst.1 hst.2.1 isC hC (hadr u) hk hFc hP1 hD1
  exact kk u H1 locs1 hF ⟨hws u ▸ g1, hws u ▸ g2, hS⟩
theorem q_goV {F : S → Prop} {w1 : S → va_W} {av : Array Value} {st : List Value} (hr : va_Run p l e R s m args below meth c H locs cells slots mc ms (F0 m pc ls st) rest (va_Qv F (Bd D (va_A wc H.size) w1) (va_A wc H.size) av) (va_A wc H.size)) (hE : EV p m c cc nL s args own D cI cJ cZ A) (hst : SS D A s ws H locs) (isC : List Nat) (hC : isC.map (fun i => ws[i]?) = wc.map some)
    (hadr : ∀ u, ((w1 u).map (fun q => q.1)).take wc.length = wc.map (fun q => q.1)) (ws' : S → va_W) (hws : ∀ u, q_put ws isC (w1 u) = ws' u) (kk : ∀ (u : S) (H1 : Heap) (locs1 : List Loc), F u → SS D A s (ws' u) H1 locs1 → W p l e R s m args below meth c H1 locs1 (cells + mc) (slots + ms) Q (F0 m (pc + 3) ls rest)) : W p l e R s m args below meth c H locs cells slots Q (F0 m pc ls st) := by
  have hFc := va_free hst.2.1 hst.2.2 hE.2.2.2 isC hC
  refine va_callv hr hst.2.2 (fun q _ h => hFc q h) hFc (fun u t H1 locs1 ht hvm hp hB hz hk hS => ?_)
  obtain ⟨hP1, hD1⟩ := hB
  rw [ht] at hP1
  obtain ⟨g1, g2⟩ := q_join hst.1 hst.2.1 isC hC (hadr u) hk hFc hP1 hD1
  exact kk u H1 locs1 hp ⟨hws u ▸ g1, hws u ▸ g2, hS⟩
theorem q_goR {res : S → Nat} {F : S → Prop} {w1 : S → va_W} {av : Array Value} {st : List Value} (hr : va_Run p l e R s m args below meth c H locs cells slots 0 0 (F0 m pc ls st) rest (va_Qr F (fun u a t => a = res u ∧ Bd D (va_A wc H.size) w1 u t) (va_A wc H.size) av) (va_A wc H.size)) (hE : EV p m c cc nL s args own D cI cJ cZ A) (hst : SS D A s ws H locs) (isC : List Nat) (hC : isC.map (fun i => ws[i]?) = wc.map some)
    (hadr : ∀ u, ((w1 u).map (fun q => q.1)).take wc.length = wc.map (fun q => q.1)) (ws' : S → va_W) (hws : ∀ u, q_put ws isC (w1 u) = ws' u) (kk : ∀ (u : S) (H1 : Heap) (locs1 : List Loc), F u → SS D A s (ws' u) H1 locs1 → W p l e R s m args below meth c H1 locs1 cells slots Q (F0 m (pc + 3) ls (.ref (res u) :: rest))) : W p l e R s m args below meth c H locs cells slots Q (F0 m pc ls st) := by
  have hFc := va_free hst.2.1 hst.2.2 hE.2.2.2 isC hC
  refine va_callr hr hst.2.2 (fun q _ h => hFc q h) hFc (fun u ra t H1 locs1 ht hvm hp hB hz hk hS => ?_)
  obtain ⟨rfl, hP1, hD1⟩ := hB
  rw [ht] at hP1
  obtain ⟨g1, g2⟩ := q_join hst.1 hst.2.1 isC hC (hadr u) hk hFc hP1 hD1
  exact kk u H1 locs1 hp ⟨hws u ▸ g1, hws u ▸ g2, hS⟩
theorem nI_def (n : Nat) : Int32.ofNat n = nI n := rfl
/-! arrays -/
theorem q_ald (hE : EV p m c cc nL s args own D cI cJ cZ A) (hst : SS D A s ws H locs) (q0 : Nat) {N : Nat} {f : Nat → Int32} (ha : ws[q0]? = some (a, .inl (cI, N, .inl f))) {i : Int32} (hin : vp_in i N) (hdg : decode cc pc = .ok (.iaload, 1)) (kk : W p l e R s m args below meth c H locs cells slots Q (F0 m (pc + 1) ls (.int (f i.toNatClampNeg) :: rest))) : W p l e R s m args below meth c H locs cells slots Q (F0 m pc ls (.int i :: .ref a :: rest)) :=
  va_iald hE.1.1 hE.1.2.1 hE.2.1 hst.1 q0 0 ha rfl hin hdg kk
theorem q_aldN (hE : EV p m c cc nL s args own D cI cJ cZ A) (hst : SS D A s ws H locs) (q0 : Nat) {N : Nat} {f : Nat → Int32} (ha : ws[q0]? = some (a, .inl (cI, N, .inl f))) (j : Nat) {i : Int32} (hi : i = nI j) (hj : j < N) (hN : N < 2147483648) (hdg : decode cc pc = .ok (.iaload, 1)) (kk : W p l e R s m args below meth c H locs cells slots Q (F0 m (pc + 1) ls (.int (f j) :: rest))) : W p l e R s m args below meth c H locs cells slots Q (F0 m pc ls (.int i :: .ref a :: rest)) := by
  subst hi
  exact q_ald hE hst q0 ha (vp_in_nI hj hN) hdg (by rw [nI_clamp (by omega)]; exact kk)
theorem q_zldN (hE : EV p m c cc nL s args own D cI cJ cZ A) (hst : SS D A s ws H locs) (q0 : Nat) {N : Nat} {f : Nat → Int32} (ha : ws[q0]? = some (a, .inl (cZ, N, .inl f))) (j : Nat) {i : Int32} (hi : i = nI j) (hj : j < N) (hN : N < 2147483648) (hdg : decode cc pc = .ok (.baload, 1)) (kk : W p l e R s m args below meth c H locs cells slots Q (F0 m (pc + 1) ls (.int (f j) :: rest))) : W p l e R s m args below meth c H locs cells slots Q (F0 m pc ls (.int i :: .ref a :: rest)) := by
  subst hi
  refine va_zald hE.1.1 hE.1.2.1 hE.2.1 hst.1 q0 2 ha rfl (vp_in_nI hj hN) hdg ?_
  rw [nI_clamp (by omega)]
  exact kk
theorem q_lald (hE : EV p m c cc nL s args own D cI cJ cZ A) (hst : SS D A s ws H locs) (q0 : Nat) {N : Nat} {f : Nat → Int64} (ha : ws[q0]? = some (a, .inl (cJ, N, .inr (.inl f)))) {i : Int32} (hin : vp_in i N) (hdg : decode cc pc = .ok (.laload, 1)) (kk : W p l e R s m args below meth c H locs cells slots Q (F0 m (pc + 1) ls (.long (f i.toNatClampNeg) :: rest))) : W p l e R s m args below meth c H locs cells slots Q (F0 m pc ls (.int i :: .ref a :: rest)) :=
  va_lald hE.1.1 hE.1.2.1 hE.2.1 hst.1 q0 1 ha rfl hin hdg kk
theorem q_ast (hE : EV p m c cc nL s args own D cI cJ cZ A) (hst : SS D A s ws H locs) (q0 : Nat) {N : Nat} {f : Nat → Int32} (ha : ws[q0]? = some (a, .inl (cI, N, .inl f))) {i x : Int32} (hin : vp_in i N) (ws' : va_W) (hws : ws.set q0 (a, .inl (cI, N, .inl (upd f i.toNatClampNeg x))) = ws') (hdg : decode cc pc = .ok (.iastore, 1)) (kk : ∀ (H1 : Heap) (locs1 : List Loc), SS D A s ws' H1 locs1 → W p l e R s m args below meth c H1 locs1 cells slots Q (F0 m (pc + 1) ls rest)) : W p l e R s m args below meth c H locs cells slots Q (F0 m pc ls (.int x :: .int i :: .ref a :: rest)) := by
  subst hws
  exact va_iast hE.1.1 hE.1.2.1 hE.2.1 hst.1 hst.2.1 hst.2.2 q0 0 ha rfl hin hdg (fun H1 l1 g1 g2 g3 => kk H1 l1 ⟨g1, g2, g3⟩)
theorem q_astN (hE : EV p m c cc nL s args own D cI cJ cZ A) (hst : SS D A s ws H locs) (q0 : Nat) {N : Nat} {f : Nat → Int32} (ha : ws[q0]? = some (a, .inl (cI, N, .inl f))) (j : Nat) {i x : Int32} (hi : i = nI j) (hj : j < N) (hN : N < 2147483648) (ws' : va_W) (hws : ws.set q0 (a, .inl (cI, N, .inl (upd f j x))) = ws') (hdg : decode cc pc = .ok (.iastore, 1)) (kk : ∀ (H1 : Heap) (locs1 : List Loc), SS D A s ws' H1 locs1 → W p l e R s m args below meth c H1 locs1 cells slots Q (F0 m (pc + 1) ls rest)) : W p l e R s m args below meth c H locs cells slots Q (F0 m pc ls (.int x :: .int i :: .ref a :: rest)) := by
  subst hi
  exact q_ast hE hst q0 ha (vp_in_nI hj hN) ws' (by rw [nI_clamp (by omega)]; exact hws) hdg kk
theorem q_zastN (hE : EV p m c cc nL s args own D cI cJ cZ A) (hst : SS D A s ws H locs) (q0 : Nat) {N : Nat} {f : Nat → Int32} (ha : ws[q0]? = some (a, .inl (cZ, N, .inl f))) (j : Nat) {i x : Int32} (hi : i = nI j) (hj : j < N) (hN : N < 2147483648) (hx : vp_nar .boolean x = x) (ws' : va_W) (hws : ws.set q0 (a, .inl (cZ, N, .inl (upd f j x))) = ws') (hdg : decode cc pc = .ok (.bastore, 1)) (kk : ∀ (H1 : Heap) (locs1 : List Loc), SS D A s ws' H1 locs1 → W p l e R s m args below meth c H1 locs1 cells slots Q (F0 m (pc + 1) ls rest)) : W p l e R s m args below meth c H locs cells slots Q (F0 m pc ls (.int x :: .int i :: .ref a :: rest)) := by
  subst hi
  subst hws
  refine va_zast hE.1.1 hE.1.2.1 hE.2.1 hst.1 hst.2.1 hst.2.2 q0 2 ha rfl (vp_in_nI hj hN) hdg (fun H1 l1 g1 g2 g3 => kk H1 l1 ⟨?_, ?_, g3⟩)
  · rw [nI_clamp (by omega), hx] at g1; exact g1
  · rw [nI_clamp (by omega), hx] at g2; exact g2
theorem q_last (hE : EV p m c cc nL s args own D cI cJ cZ A) (hst : SS D A s ws H locs) (q0 : Nat) {N : Nat} {f : Nat → Int64} (ha : ws[q0]? = some (a, .inl (cJ, N, .inr (.inl f)))) {i : Int32} {x : Int64} (hin : vp_in i N) (ws' : va_W) (hws : ws.set q0 (a, .inl (cJ, N, .inr (.inl (vp_updL f i.toNatClampNeg x)))) = ws') (hdg : decode cc pc = .ok (.lastore, 1)) (kk : ∀ (H1 : Heap) (locs1 : List Loc), SS D A s ws' H1 locs1 → W p l e R s m args below meth c H1 locs1 cells slots Q (F0 m (pc + 1) ls rest)) : W p l e R s m args below meth c H locs cells slots Q (F0 m pc ls (.long x :: .int i :: .ref a :: rest)) := by
  subst hws
  exact va_last hE.1.1 hE.1.2.1 hE.2.1 hst.1 hst.2.1 hst.2.2 q0 1 ha rfl hin hdg (fun H1 l1 g1 g2 g3 => kk H1 l1 ⟨g1, g2, g3⟩)
theorem q_len (hE : EV p m c cc nL s args own D cI cJ cZ A) (hst : SS D A s ws H locs) (q0 : Nat) {N : Nat} {f : Nat → Int32} (ha : ws[q0]? = some (a, .inl (cI, N, .inl f))) (hdg : decode cc pc = .ok (.arraylength, 1)) (kk : W p l e R s m args below meth c H locs cells slots Q (F0 m (pc + 1) ls (.int (nI N) :: rest))) : W p l e R s m args below meth c H locs cells slots Q (F0 m pc ls (.ref a :: rest)) :=
  va_alen hE.1.1 hE.1.2.1 hE.2.1 hst.1 q0 0 ha rfl rfl hdg kk
theorem q_lenL (hE : EV p m c cc nL s args own D cI cJ cZ A) (hst : SS D A s ws H locs) (q0 : Nat) {N : Nat} {f : Nat → Int64} (ha : ws[q0]? = some (a, .inl (cJ, N, .inr (.inl f)))) (hdg : decode cc pc = .ok (.arraylength, 1)) (kk : W p l e R s m args below meth c H locs cells slots Q (F0 m (pc + 1) ls (.int (nI N) :: rest))) : W p l e R s m args below meth c H locs cells slots Q (F0 m pc ls (.ref a :: rest)) :=
  va_alen hE.1.1 hE.1.2.1 hE.2.1 hst.1 q0 1 ha rfl rfl hdg kk
/-! constants of the pool, statics -/
theorem q_ldc (hE : EV p m c cc nL s args own D cI cJ cZ A) {v : Int32} (hc : Cond.constant own idx v ∈ gtbl) (hdg : decode cc pc = .ok (.ldc idx, 2)) (k : W p l e R s m args below meth c H locs cells slots Q (F0 m (pc + 2) ls (.int v :: rest))) : W p l e R s m args below meth c H locs cells slots Q (F0 m pc ls rest) := lv_ldc hE.1.1 hE.1.2.1 hE.1.2.2.2.1 (hE.1.2.2.2.2 _ hc) hdg k
theorem q_ldc2 (hE : EV p m c cc nL s args own D cI cJ cZ A) {v : Int64} (hc : Cond.constantLong own idx v ∈ gtbl) (hdg : decode cc pc = .ok (.ldc2_w idx, 3)) (k : W p l e R s m args below meth c H locs cells slots Q (F0 m (pc + 3) ls (.long v :: rest))) : W p l e R s m args below meth c H locs cells slots Q (F0 m pc ls rest) := lv_ldc2 hE.1.1 hE.1.2.1 hE.1.2.2.2.1 (hE.1.2.2.2.2 _ hc) hdg k
theorem q_gets (hE : EV p m c cc nL s args own D cI cJ cZ A) (hst : SS D A s ws H locs) {nm : String} {N : Nat} {f : Nat → Int32} (hT : GT nm N f A s) (hlink : Cond.fieldLink own idx "GlassJar" nm "[I" ∈ gtbl) (hdg : decode cc pc = .ok (.getstatic idx, 3)) (kk : ∀ t : Nat, va_T .int t N (fV f) A s s.heap → W p l e R s m args below meth c H locs cells slots Q (F0 m (pc + 3) ls (.ref t :: rest))) : W p l e R s m args below meth c H locs cells slots Q (F0 m pc ls rest) := by
  obtain ⟨t, cell, h1, h2, -⟩ := hT
  exact va_gets hE.1.1 hE.1.2.1 h1 hst.2.2 hE.1.2.2.2.1 (hE.1.2.2.2.2 _ hlink) (fun _ h => h) hdg (kk t h2)
theorem q_getsN (hE : EV p m c cc nL s args own D cI cJ cZ A) (hst : SS D A s ws H locs) {nm : String} {N : Nat} {f : Nat → Int32} (hT : GT nm N f A s) (hlink : Cond.fieldLinkNest own idx "GlassJar" nm "[I" host ∈ nestW) (hdg : decode cc pc = .ok (.getstatic idx, 3)) (kk : ∀ t : Nat, va_T .int t N (fV f) A s s.heap → W p l e R s m args below meth c H locs cells slots Q (F0 m (pc + 3) ls (.ref t :: rest))) : W p l e R s m args below meth c H locs cells slots Q (F0 m pc ls rest) := by
  obtain ⟨t, cell, h1, h2, -⟩ := hT
  exact va_getsN hE.1.1 hE.1.2.1 h1 hst.2.2 hE.1.2.2.2.1 (va_Nw.use rfl (hE.2.2.1.1 _ hlink)) (fun _ h => h) hdg (kk t h2)
/-! Math -/
theorem q_max (hE : EV p m c cc nL s args own D cI cJ cZ A) (hl : Cond.methodLink own idx Lib.Math.max.name ∈ gtbl) (hsz : ls.size = nL) (hf : 1 ≤ R.frames) (hlo : (rest.map fun v => v.category).sum + 13 ≤ R.locals) (hc : cells ≤ R.cells) (hs : slots ≤ R.slots) {x y : Int32} (hdg : decode cc pc = .ok (.invokestatic idx, 3)) (kk : W p l e R s m args below meth c H locs cells slots Q (F0 m (pc + 3) ls (.int (if x < y then y else x) :: rest))) : W p l e R s m args below meth c H locs cells slots Q (F0 m pc ls (.int y :: .int x :: rest)) :=
  va_mmax hE.1.1 hE.1.2.1 (hE.1.2.2.1.trans hsz.symm) hE.1.2.2.2.1 (hE.1.2.2.2.2 _ hl) (hE.1.2.2.2.2 _ wk_1_86) (hE.1.2.2.2.2 _ wk_1_5) (hE.1.2.2.2.2 _ wk_1_87) hf hlo hc hs hdg kk
theorem q_min (hE : EV p m c cc nL s args own D cI cJ cZ A) (hl : Cond.methodLink own idx Lib.Math.min.name ∈ gtbl) (hsz : ls.size = nL) (hf : 1 ≤ R.frames) (hlo : (rest.map fun v => v.category).sum + 13 ≤ R.locals) (hc : cells ≤ R.cells) (hs : slots ≤ R.slots) {x y : Int32} (hdg : decode cc pc = .ok (.invokestatic idx, 3)) (kk : W p l e R s m args below meth c H locs cells slots Q (F0 m (pc + 3) ls (.int (if y < x then y else x) :: rest))) : W p l e R s m args below meth c H locs cells slots Q (F0 m pc ls (.int y :: .int x :: rest)) :=
  va_mmin hE.1.1 hE.1.2.1 (hE.1.2.2.1.trans hsz.symm) hE.1.2.2.2.1 (hE.1.2.2.2.2 _ hl) (hE.1.2.2.2.2 _ wk_1_83) (hE.1.2.2.2.2 _ wk_1_5) (hE.1.2.2.2.2 _ wk_1_84) hf hlo hc hs hdg kk
theorem q_abs (hE : EV p m c cc nL s args own D cI cJ cZ A) (hl : Cond.methodLink own idx Lib.MathLoose.abs_long.x ∈ gtbl) (hsz : ls.size = nL) (hf : 1 ≤ R.frames) (hlo : (rest.map fun v => v.category).sum + 13 ≤ R.locals) (hc : cells ≤ R.cells) (hs : slots ≤ R.slots) {x : Int64} (hdg : decode cc pc = .ok (.invokestatic idx, 3)) (kk : W p l e R s m args below meth c H locs cells slots Q (F0 m (pc + 3) ls (.long (if 0 < x then x else -x) :: rest))) : W p l e R s m args below meth c H locs cells slots Q (F0 m pc ls (.long x :: rest)) :=
  va_mabs_long hE.1.1 hE.1.2.1 (hE.1.2.2.1.trans hsz.symm) hE.1.2.2.2.1 (hE.1.2.2.2.2 _ hl) (hE.1.2.2.2.2 _ wk_2_145) (hE.1.2.2.2.2 _ wk_1_5) (hE.1.2.2.2.2 _ wk_2_146) hf hlo hc hs hdg kk
/-! a method's start -/
theorem q_entM {Qc : (Nat → Prop) → Array Value → State → Outcome → State → Prop} {Av : List Value} (hy : plainName y.cls = true) (hown : y.cls = own) (hlen : (lg_sl Av).length ≤ maxL)
    (body : ∀ (p : Program) (e : Env) (s : State) (m : MethodId) (args : Array Value) (below : List Frame) (meth : Method) (c : Code) (A : Nat → Prop) (ls : Array Slot) (QQ : State → Prop), QQ = MQ below (Qc A) args s mc ms A → EV p m c cc maxL s args own D cI cJ cZ A → p.tables.exec = Jvm.exec → c.code = cc → meth.sig.returnType = ret → meth.locks = false → meth.name = y.name → A = va_A wc s.heap.size → lv_has ls maxL (lv_args 0 Av) → SS D A s wc s.heap [] →
      W p l e (rmN k mc ms) s m args below meth c s.heap [] 0 0 QQ (F0 m 0 ls [])) (sz : Nat) : Met l y (wU y cc maxL ret) (rmN k mc ms) (va_Pc Av (PcU D cI cJ cZ wc sz)) (Qc (va_A wc sz)) mc ms (va_A wc sz) := by
  refine Met.ofW (cc := cc) (maxL := maxL) (ret := ret) hy rfl ?_
  intro p e s m args below meth c s₁ B hml hv
  obtain ⟨rfl, hsz, hP, hK, hD0, hG⟩ := hv
  subst hsz
  subst hown
  have hts := atoms_spec (ws := wU y cc maxL ret) B.pre
  have hl := lv_entry Av (n := maxL) hlen
  rw [lg_entry_eq]
  generalize (lg_sl Av ++ List.replicate (maxL - (lg_sl Av).length) Slot.unset).toArray = ls at hl ⊢
  exact body p e s m _ below meth c _ ls _ rfl ⟨⟨B.exec, B.bytes, hml, findClass_of_methodNamed B.named, fun w hw => hts w (List.mem_cons_of_mem _ hw)⟩, hK, hG, fun q h => Or.inr h⟩ B.exec B.bytes B.returns B.notSynchronized (name_of_methodNamed B.named B.method).1 rfl hl ⟨hP, hD0.self, va_S.rf⟩
theorem q_entI {res : S → Int32} {F : S → Prop} {w1 : S → va_W} {Av : List Value} (hy : plainName y.cls = true) (hown : y.cls = own) (hlen : (lg_sl Av).length ≤ maxL)
    (body : ∀ (p : Program) (e : Env) (s : State) (m : MethodId) (args : Array Value) (below : List Frame) (meth : Method) (c : Code) (A : Nat → Prop) (ls : Array Slot) (QQ : State → Prop), QQ = MQ below (va_Qi (fun r u => r = res u ∧ F u) (Bd D A w1) A) args s 0 0 A → EV p m c cc maxL s args own D cI cJ cZ A → p.tables.exec = Jvm.exec → c.code = cc → meth.sig.returnType = ret → meth.locks = false → meth.name = y.name → A = va_A wc s.heap.size → lv_has ls maxL (lv_args 0 Av) → SS D A s wc s.heap [] →
      W p l e (rmN k 0 0) s m args below meth c s.heap [] 0 0 QQ (F0 m 0 ls [])) : CtI l D cI cJ cZ y cc maxL ret k Av wc res F w1 := q_entM (Qc := fun A => va_Qi (fun r u => r = res u ∧ F u) (Bd D A w1) A) hy hown hlen body
theorem q_entL {res : S → Int64} {F : S → Prop} {w1 : S → va_W} {Av : List Value} (hy : plainName y.cls = true) (hown : y.cls = own) (hlen : (lg_sl Av).length ≤ maxL)
    (body : ∀ (p : Program) (e : Env) (s : State) (m : MethodId) (args : Array Value) (below : List Frame) (meth : Method) (c : Code) (A : Nat → Prop) (ls : Array Slot) (QQ : State → Prop), QQ = MQ below (va_Ql (fun r u => r = res u ∧ F u) (Bd D A w1) A) args s 0 0 A → EV p m c cc maxL s args own D cI cJ cZ A → p.tables.exec = Jvm.exec → c.code = cc → meth.sig.returnType = ret → meth.locks = false → meth.name = y.name → A = va_A wc s.heap.size → lv_has ls maxL (lv_args 0 Av) → SS D A s wc s.heap [] →
      W p l e (rmN k 0 0) s m args below meth c s.heap [] 0 0 QQ (F0 m 0 ls [])) : CtL l D cI cJ cZ y cc maxL ret k Av wc res F w1 := q_entM (Qc := fun A => va_Ql (fun r u => r = res u ∧ F u) (Bd D A w1) A) hy hown hlen body
theorem q_entV {F : S → Prop} {w1 : S → va_W} {Av : List Value} (hy : plainName y.cls = true) (hown : y.cls = own) (hlen : (lg_sl Av).length ≤ maxL)
    (body : ∀ (p : Program) (e : Env) (s : State) (m : MethodId) (args : Array Value) (below : List Frame) (meth : Method) (c : Code) (A : Nat → Prop) (ls : Array Slot) (QQ : State → Prop), QQ = MQ below (va_Qv F (Bd D A w1) A) args s mc ms A → EV p m c cc maxL s args own D cI cJ cZ A → p.tables.exec = Jvm.exec → c.code = cc → meth.sig.returnType = ret → meth.locks = false → meth.name = y.name → A = va_A wc s.heap.size → lv_has ls maxL (lv_args 0 Av) → SS D A s wc s.heap [] →
      W p l e (rmN k mc ms) s m args below meth c s.heap [] 0 0 QQ (F0 m 0 ls [])) : CtV l D cI cJ cZ y cc maxL ret k mc ms Av wc F w1 := q_entM (Qc := fun A => va_Qv F (Bd D A w1) A) hy hown hlen body
theorem q_entR {res : S → Nat} {F : S → Prop} {w1 : S → va_W} {Av : List Value} (hy : plainName y.cls = true) (hown : y.cls = own) (hlen : (lg_sl Av).length ≤ maxL)
    (body : ∀ (p : Program) (e : Env) (s : State) (m : MethodId) (args : Array Value) (below : List Frame) (meth : Method) (c : Code) (A : Nat → Prop) (ls : Array Slot) (QQ : State → Prop), QQ = MQ below (va_Qr F (fun u a t => a = res u ∧ Bd D A w1 u t) A) args s 0 0 A → EV p m c cc maxL s args own D cI cJ cZ A → p.tables.exec = Jvm.exec → c.code = cc → meth.sig.returnType = ret → meth.locks = false → meth.name = y.name → A = va_A wc s.heap.size → lv_has ls maxL (lv_args 0 Av) → SS D A s wc s.heap [] →
      W p l e (rmN k 0 0) s m args below meth c s.heap [] 0 0 QQ (F0 m 0 ls [])) : CtR l D cI cJ cZ y cc maxL ret k Av wc res F w1 := q_entM (Qc := fun A => va_Qr F (fun u a t => a = res u ∧ Bd D A w1 u t) A) hy hown hlen body
/-! a method's end -/
theorem q_retI {res : S → Int32} {F : S → Prop} {w1 : S → va_W} (hQ : Q = MQ below (va_Qi (fun r u => r = res u ∧ F u) (Bd D A w1) A) args s cells slots A) (hE : EV p m c cc nL s args own D cI cJ cZ A) (hr : meth.sig.returnType = some .int) (hlk : meth.locks = false) (hst : SS D A s ws H locs) (u : S) {v : Int32} (hv : v = res u) (hF : F u) (hw : ws = w1 u) (hdg : decode cc pc = .ok (.ireturn, 1)) : W p l e R s m args below meth c H locs cells slots Q (F0 m pc ls [.int v]) := by
  subst hw
  subst hQ
  exact W.iret hE.1.1 hE.1.2.1 hr (fun t ht _ => ⟨⟨v, u, rfl, ⟨hv, hF⟩, by rw [ht]; exact hst.1, hst.2.1⟩, hst.2.2.F ht⟩) hst.2.2.2.2 hdg hlk
theorem q_retZ {res : S → Int32} {F : S → Prop} {w1 : S → va_W} (hQ : Q = MQ below (va_Qi (fun r u => r = res u ∧ F u) (Bd D A w1) A) args s cells slots A) (hE : EV p m c cc nL s args own D cI cJ cZ A) (hr : meth.sig.returnType = some .boolean) (hlk : meth.locks = false) (hst : SS D A s ws H locs) (u : S) {v : Int32} (hn : narrow .boolean (.int v) = .int v) (hv : v = res u) (hF : F u) (hw : ws = w1 u) (hdg : decode cc pc = .ok (.ireturn, 1)) : W p l e R s m args below meth c H locs cells slots Q (F0 m pc ls [.int v]) := by
  subst hw
  subst hQ
  exact W.zret hE.1.1 hE.1.2.1 hr hn (fun t ht _ => ⟨⟨v, u, rfl, ⟨hv, hF⟩, by rw [ht]; exact hst.1, hst.2.1⟩, hst.2.2.F ht⟩) hst.2.2.2.2 hdg hlk
theorem q_retL {res : S → Int64} {F : S → Prop} {w1 : S → va_W} (hQ : Q = MQ below (va_Ql (fun r u => r = res u ∧ F u) (Bd D A w1) A) args s cells slots A) (hE : EV p m c cc nL s args own D cI cJ cZ A) (hr : meth.sig.returnType = some .long) (hlk : meth.locks = false) (hst : SS D A s ws H locs) (u : S) {v : Int64} (hv : v = res u) (hF : F u) (hw : ws = w1 u) (hdg : decode cc pc = .ok (.lreturn, 1)) : W p l e R s m args below meth c H locs cells slots Q (F0 m pc ls [.long v]) := by
  subst hw
  subst hQ
  exact W.lret hE.1.1 hE.1.2.1 hr (fun t ht _ => ⟨⟨v, u, rfl, ⟨hv, hF⟩, by rw [ht]; exact hst.1, hst.2.1⟩, hst.2.2.F ht⟩) hst.2.2.2.2 hdg hlk
theorem q_retV {F : S → Prop} {w1 : S → va_W} (hQ : Q = MQ below (va_Qv F (Bd D A w1) A) args s cells slots A) (hE : EV p m c cc nL s args own D cI cJ cZ A) (hr : meth.sig.returnType = none) (hlk : meth.locks = false) (hst : SS D A s ws H locs) (u : S) (hF : F u) (hw : ws = w1 u) (hdg : decode cc pc = .ok (.return_, 1)) : W p l e R s m args below meth c H locs cells slots Q (F0 m pc ls []) := by
  subst hw
  subst hQ
  exact W.vret hE.1.1 hE.1.2.1 hr (fun t ht _ => ⟨⟨u, rfl, hF, by rw [ht]; exact hst.1, hst.2.1⟩, hst.2.2.F ht⟩) hst.2.2.2.2 hdg hlk
theorem q_retR {res : S → Nat} {F : S → Prop} {w1 : S → va_W} {v : Nat} {cn : String} (hQ : Q = MQ below (va_Qr F (fun u a t => a = res u ∧ Bd D A w1 u t) A) args s cells slots A) (hE : EV p m c cc nL s args own D cI cJ cZ A) (hr : meth.sig.returnType = some (.object cn)) (hlk : meth.locks = false) (hst : SS D A s ws H locs) (u : S) (hv : v = res u) (hF : F u) (hw : ws = w1 u) (hdg : decode cc pc = .ok (.areturn, 1)) : W p l e R s m args below meth c H locs cells slots Q (F0 m pc ls [.ref v]) := by
  subst hw
  subst hQ
  exact W.aret hE.1.1 hE.1.2.1 hr (Or.inl ⟨_, rfl⟩) (Or.inr ⟨_, rfl⟩) (fun t ht _ => ⟨⟨u, v, rfl, hF, hv, by rw [ht]; exact hst.1, hst.2.1⟩, hst.2.2.F ht⟩) hst.2.2.2.2 hdg hlk
theorem q_top {x x' : Int32} (h : x = x') (k : W p l e R s m args below meth c H locs cells slots Q (F0 m pc ls (.int x' :: rest))) : W p l e R s m args below meth c H locs cells slots Q (F0 m pc ls (.int x :: rest)) := by rw [h]; exact k
theorem q_topL {x x' : Int64} (h : x = x') (k : W p l e R s m args below meth c H locs cells slots Q (F0 m pc ls (.long x' :: rest))) : W p l e R s m args below meth c H locs cells slots Q (F0 m pc ls (.long x :: rest)) := by rw [h]; exact k
theorem q_arr (hst : SS D A s ws H locs) (q0 : Nat) {cA : ClassId} {N : Nat} {f g : Nat → Int32} (ha : ws[q0]? = some (a, .inl (cA, N, .inl f))) (hfg : ∀ j, j < N → f j = g j) (ws' : va_W) (hws : ws.set q0 (a, .inl (cA, N, .inl g)) = ws') : SS D A s ws' H locs := by
  subst hws
  refine ⟨hst.1.set hst.2.1 ha ?_ (fun _ _ => rfl), hst.2.1.set ha, hst.2.2⟩
  have h1 : H[a]? = some (vp_cell cA (N, .inl f)) := hst.1 q0 _ ha
  show H[a]? = some (vp_cell cA (N, .inl g))
  rw [h1]
  congr 1
  rw [vp_cell_i, vp_cell_i]
  unfold arrV
  congr 1
  apply Array.ext_getElem?
  intro i
  by_cases hi : i < N
  · simp [Array.getElem?_ofFn, hi, hfg i hi]
  · simp [Array.getElem?_ofFn, hi]
theorem q_arrL (hst : SS D A s ws H locs) (q0 : Nat) {cA : ClassId} {N : Nat} {f g : Nat → Int64} (ha : ws[q0]? = some (a, .inl (cA, N, .inr (.inl f)))) (hfg : ∀ j, j < N → f j = g j) (ws' : va_W) (hws : ws.set q0 (a, .inl (cA, N, .inr (.inl g))) = ws') : SS D A s ws' H locs := by
  subst hws
  refine ⟨hst.1.set hst.2.1 ha ?_ (fun _ _ => rfl), hst.2.1.set ha, hst.2.2⟩
  have h1 : H[a]? = some (vp_cell cA (N, .inr (.inl f))) := hst.1 q0 _ ha
  show H[a]? = some (vp_cell cA (N, .inr (.inl g)))
  rw [h1]
  congr 1
  rw [vp_cell_l, vp_cell_l]
  unfold arrV
  congr 1
  apply Array.ext_getElem?
  intro i
  by_cases hi : i < N
  · simp [Array.getElem?_ofFn, hi, hfg i hi]
  · simp [Array.getElem?_ofFn, hi]
end QK
/-! answers that are truth values -/
def b2i (b : Bool) : Int32 := if b = true then 1 else 0
theorem b2i_nar (b : Bool) : narrow .boolean (.int (b2i b)) = .int (b2i b) := by cases b <;> rfl
theorem b2i_eq0 {b : Bool} : b2i b = 0 ↔ b = false := by cases b <;> decide
theorem b2i_f {b : Bool} (h : b2i b = 0) : b = false := b2i_eq0.mp h
theorem b2i_t {b : Bool} (h : ¬ b2i b = 0) : b = true := by
  cases b with
  | false => exact absurd rfl h
  | true => rfl
theorem b2i_1 : b2i true = 1 := rfl
theorem b2i_0 : b2i false = 0 := rfl
theorem b2i_fits (b : Bool) : fits .boolean (.int (b2i b)) = true := by cases b <;> rfl
theorem lc_eq {x y : Int64} : lg_cmp x y = 0 ↔ x = y := by
  unfold lg_cmp
  by_cases h : y < x
  · rw [if_pos h]
    exact ⟨fun z => absurd z (by decide), fun z => (Int64.lt_irrefl (z ▸ h)).elim⟩
  · rw [if_neg h]
    by_cases h2 : x = y
    · rw [if_pos h2]; exact ⟨fun _ => h2, fun _ => rfl⟩
    · rw [if_neg h2]; exact ⟨fun z => absurd z (by decide), fun z => absurd z h2⟩
theorem lc_gt {x y : Int64} : 0 < lg_cmp x y ↔ y < x := by
  unfold lg_cmp
  by_cases h : y < x
  · rw [if_pos h]
    exact ⟨fun _ => h, fun _ => by decide⟩
  · rw [if_neg h]
    by_cases h2 : x = y
    · rw [if_pos h2]; exact ⟨fun z => absurd z (by decide), fun z => absurd z h⟩
    · rw [if_neg h2]; exact ⟨fun z => absurd z (by decide), fun z => absurd z h⟩
theorem lc_le {x y : Int64} : lg_cmp x y ≤ 0 ↔ x ≤ y := by
  rw [← Int32.not_lt, lc_gt, Int64.not_lt]
theorem lc_lt {x y : Int64} : lg_cmp x y < 0 ↔ x < y := by
  unfold lg_cmp
  by_cases h : y < x
  · rw [if_pos h]
    exact ⟨fun z => absurd z (by decide), fun z => (Int64.lt_irrefl (Int64.lt_trans z h)).elim⟩
  · rw [if_neg h]
    by_cases h2 : x = y
    · rw [if_pos h2]; exact ⟨fun z => absurd z (by decide), fun z => (Int64.lt_irrefl (h2 ▸ z)).elim⟩
    · rw [if_neg h2]; exact ⟨fun _ => Int64.lt_of_le_of_ne (Int64.not_lt.mp h) h2, fun _ => by decide⟩
theorem lc_ge {x y : Int64} : 0 ≤ lg_cmp x y ↔ y ≤ x := by
  rw [← Int32.not_lt, lc_lt, Int64.not_lt]
theorem nI_next (k : Nat) : nI k + Int32.ofInt 1 = nI (k + 1) := nI_1 k
