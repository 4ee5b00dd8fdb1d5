section LAWC
variable {p : Program} {l : Launch} {e : Env} {s : State} {m : MethodId} {args : Array Value} {below : List Frame} {meth : Method} {c : Code} {H : Heap} {locs : List Loc} {Q : State → Prop} {D : va_G} {cI cJ cZ : ClassId} {ad bd : Nat → Nat} {b L i : Nat} {xs : Nat → Int32} {ls : Array Slot}
set_option maxHeartbeats 4000000 in
set_option maxRecDepth 100000 in
theorem law_c0 (hE : EV p m c cL_law 4 s args RL D cI cJ cZ (fun q : Nat => s.heap.size ≤ q)) (hx : p.tables.exec = Jvm.exec) (hb : c.code = cL_law) (hX : va_X b L xs s s.heap) (hbl : b < s.heap.size) (hi6 : i + 6 ≤ L) (hL : L ≤ 3072) (hl : lv_has ls 4 [(3, .int (nI i)), (0, .ref b), (1, .ref (ad 0)), (2, .ref (bd 0))]) (hS : SW D cI cJ cZ (fun q : Nat => s.heap.size ≤ q) s ad bd H locs) (kk : ∀ (H : Heap) (locs : List Loc), SW D cI cJ cZ (fun q : Nat => s.heap.size ≤ q) s ad bd H locs → W p l e room_1 s m args below meth c H locs 59 6511 Q (F0 m 1115 ls [])) : W p l e room_1 s m args below meth c H locs 59 6511 Q (F0 m 164 ls []) := by
  have hbA : ¬ (fun q : Nat => s.heap.size ≤ q) b := Nat.not_le.mpr hbl
  obtain ⟨J, K, seF, kF, spF, deF, pF, n, ki, bi, pa, la, cut, least, seG, kG, spG, deG, pG, nG, kj, bj, pb, lb, cuG, leG, t0, tb, ru, hi, h, hg, ht, hm, hst⟩ := hS
  refine lv_aload_n hx hb dL_law_164 rfl (lv_at hl 2 rfl) ?_
  refine lv_aload_n hx hb dL_law_165 rfl (lv_at hl 1 rfl) ?_
  refine lv_iload_n hx hb dL_law_166 rfl (lv_at hl 0 rfl) ?_
  refine lv_iconst (v := 1) hx hb dL_law_167 (by decide) ?_
  refine lv_iadd hx hb dL_law_168 ?_
  refine q_top (x' := nI (i + 1)) (nI_add i 1) ?_
  refine va_sld hx hb hX hbl hbA hst.2.2 (vp_in_nI (show i + 1 < L by omega) (by omega)) dL_law_169 ?_
  refine q_top (x' := xs (i + 1)) (by rw [nI_clamp (by omega)]) ?_
  refine lv_aload_n hx hb dL_law_170 rfl (lv_at hl 1 rfl) ?_
  refine lv_iload_n hx hb dL_law_171 rfl (lv_at hl 0 rfl) ?_
  refine lv_iconst (v := 2) hx hb dL_law_172 (by decide) ?_
  refine lv_iadd hx hb dL_law_173 ?_
  refine q_top (x' := nI (i + 2)) (nI_add i 2) ?_
  refine va_sld hx hb hX hbl hbA hst.2.2 (vp_in_nI (show i + 2 < L by omega) (by omega)) dL_law_174 ?_
  refine q_top (x' := xs (i + 2)) (by rw [nI_clamp (by omega)]) ?_
  refine lv_i2l (v := (xs (i + 2)).toInt64) hx hb dL_law_175 rfl ?_
  refine lv_bipush (v := 32) hx hb dL_law_176 (by decide) ?_
  refine lv_lshl (v := ((xs (i + 2)).toInt64) <<< ((32 : Int32).toInt64 &&& 63)) hx hb dL_law_178 rfl ?_
  refine lv_aload_n hx hb dL_law_179 rfl (lv_at hl 1 rfl) ?_
  refine lv_iload_n hx hb dL_law_180 rfl (lv_at hl 0 rfl) ?_
  refine lv_iconst (v := 3) hx hb dL_law_181 (by decide) ?_
  refine lv_iadd hx hb dL_law_182 ?_
  refine q_top (x' := nI (i + 3)) (nI_add i 3) ?_
  refine va_sld hx hb hX hbl hbA hst.2.2 (vp_in_nI (show i + 3 < L by omega) (by omega)) dL_law_183 ?_
  refine q_top (x' := xs (i + 3)) (by rw [nI_clamp (by omega)]) ?_
  refine lv_i2l (v := (xs (i + 3)).toInt64) hx hb dL_law_184 rfl ?_
  refine q_ldc2 hE wk_5_62 dL_law_185 ?_
  refine lv_land hx hb dL_law_188 ?_
  refine lv_lor hx hb dL_law_189 ?_
  refine q_xI hE lk_L_15 (x_feed l D cI cJ cZ ad J seF kF spF deF pF n ki bi pa la cut least seG kG spG deG pG nG kj bj pb lb cuG leG t0 tb ru hi (xs (i + 1)) ((((xs (i + 2)).toInt64) <<< ((32 : Int32).toInt64 &&& 63)) ||| (((xs (i + 3)).toInt64) &&& 4294967295)) h ht) hst (WX_adr ..) rfl (WX_hd ..) rfl rfl hl.1 (fun _ => WX_adr ..) ⟨(Nat.le_of_ble_eq_true rfl), (Nat.le_of_ble_eq_true rfl)⟩ (rest := []) rfl (Nat.le_of_ble_eq_true rfl) dL_law_190 ⟨(Nat.le_of_ble_eq_true rfl), (Nat.le_of_ble_eq_true rfl)⟩ (fun J1 H locs hF hst => ?_)
  refine lv_aload_n hx hb dL_law_193 rfl (lv_at hl 3 rfl) ?_
  refine lv_aload_n hx hb dL_law_194 rfl (lv_at hl 1 rfl) ?_
  refine lv_iload_n hx hb dL_law_195 rfl (lv_at hl 0 rfl) ?_
  refine lv_iconst (v := 1) hx hb dL_law_196 (by decide) ?_
  refine lv_iadd hx hb dL_law_197 ?_
  refine q_top (x' := nI (i + 1)) (nI_add i 1) ?_
  refine va_sld hx hb hX hbl hbA hst.2.2 (vp_in_nI (show i + 1 < L by omega) (by omega)) dL_law_198 ?_
  refine q_top (x' := xs (i + 1)) (by rw [nI_clamp (by omega)]) ?_
  refine lv_aload_n hx hb dL_law_199 rfl (lv_at hl 1 rfl) ?_
  refine lv_iload_n hx hb dL_law_200 rfl (lv_at hl 0 rfl) ?_
  refine lv_iconst (v := 2) hx hb dL_law_201 (by decide) ?_
  refine lv_iadd hx hb dL_law_202 ?_
  refine q_top (x' := nI (i + 2)) (nI_add i 2) ?_
  refine va_sld hx hb hX hbl hbA hst.2.2 (vp_in_nI (show i + 2 < L by omega) (by omega)) dL_law_203 ?_
  refine q_top (x' := xs (i + 2)) (by rw [nI_clamp (by omega)]) ?_
  refine lv_i2l (v := (xs (i + 2)).toInt64) hx hb dL_law_204 rfl ?_
  refine lv_bipush (v := 32) hx hb dL_law_205 (by decide) ?_
  refine lv_lshl (v := ((xs (i + 2)).toInt64) <<< ((32 : Int32).toInt64 &&& 63)) hx hb dL_law_207 rfl ?_
  refine lv_aload_n hx hb dL_law_208 rfl (lv_at hl 1 rfl) ?_
  refine lv_iload_n hx hb dL_law_209 rfl (lv_at hl 0 rfl) ?_
  refine lv_iconst (v := 3) hx hb dL_law_210 (by decide) ?_
  refine lv_iadd hx hb dL_law_211 ?_
  refine q_top (x' := nI (i + 3)) (nI_add i 3) ?_
  refine va_sld hx hb hX hbl hbA hst.2.2 (vp_in_nI (show i + 3 < L by omega) (by omega)) dL_law_212 ?_
  refine q_top (x' := xs (i + 3)) (by rw [nI_clamp (by omega)]) ?_
  refine lv_i2l (v := (xs (i + 3)).toInt64) hx hb dL_law_213 rfl ?_
  refine q_ldc2 hE wk_5_62 dL_law_214 ?_
  refine lv_land hx hb dL_law_217 ?_
  refine lv_lor hx hb dL_law_218 ?_
  refine q_yI hE lk_L_19 (y_feed l D cI cJ cZ bd K seF kF spF deF pF n ki bi pa la cut least seG kG spG deG pG nG kj bj pb lb cuG leG t0 tb ru hi (xs (i + 1)) ((((xs (i + 2)).toInt64) <<< ((32 : Int32).toInt64 &&& 63)) ||| (((xs (i + 3)).toInt64) &&& 4294967295)) h ht hm) hst (by rw [← List.length_map (f := fun q : Nat × va_E => q.1), WX_adr]; rfl) (WM_adr ..) rfl (WM_hd ..) rfl rfl hl.1 (fun _ => WM_adr ..) ⟨(Nat.le_of_ble_eq_true rfl), (Nat.le_of_ble_eq_true rfl)⟩ (rest := [.int (if ftf false false (!decide (1 ≤ (xs (i + 1)))) (decide (8 < (xs (i + 1))) || !decide ((xs (i + 1)) ≤ 14 - nI t0)) = 0 then nI (t0 + (xs (i + 1)).toNatClampNeg) else (ftf false false (!decide (1 ≤ (xs (i + 1)))) (decide (8 < (xs (i + 1))) || !decide ((xs (i + 1)) ≤ 14 - nI t0))))]) rfl (Nat.le_of_ble_eq_true rfl) dL_law_219 ⟨(Nat.le_of_ble_eq_true rfl), (Nat.le_of_ble_eq_true rfl)⟩ (fun K2 H locs hF hst => ?_)
  refine lv_icmp_eq (tgt := 1115) hx hb dL_law_222 (by decide) (fun c_ => ?_) (fun c_ => absurd rfl c_)
  exact kk _ _ ⟨J1, K2, seF, kF, spF, deF, pF, n, ki, bi, pa, la, cut, least, seG, kG, spG, deG, pG, nG, kj, bj, pb, lb, cuG, leG, if ftf false false (!decide (1 ≤ (xs (i + 1)))) (decide (8 < (xs (i + 1))) || !decide ((xs (i + 1)) ≤ 14 - nI t0)) = 0 then t0 + (xs (i + 1)).toNatClampNeg else t0, if ftf false false (!decide (1 ≤ (xs (i + 1)))) (decide (8 < (xs (i + 1))) || !decide ((xs (i + 1)) ≤ 14 - nI t0)) = 0 then appL ((((xs (i + 2)).toInt64) <<< ((32 : Int32).toInt64 &&& 63)) ||| (((xs (i + 3)).toInt64) &&& 4294967295)) t0 tb (xs (i + 1)).toNatClampNeg else tb, if ftf false false (!decide (1 ≤ (xs (i + 1)))) (decide (8 < (xs (i + 1))) || !decide ((xs (i + 1)) ≤ 14 - nI t0)) = 0 then ru else bmp ru (ftf false false (!decide (1 ≤ (xs (i + 1)))) (decide (8 < (xs (i + 1))) || !decide ((xs (i + 1)) ≤ 14 - nI t0))), hi, h, hg, ht_feed ht, hF, hst⟩
set_option maxHeartbeats 4000000 in
set_option maxRecDepth 100000 in
theorem law_c1 (hE : EV p m c cL_law 4 s args RL D cI cJ cZ (fun q : Nat => s.heap.size ≤ q)) (hx : p.tables.exec = Jvm.exec) (hb : c.code = cL_law) (hX : va_X b L xs s s.heap) (hbl : b < s.heap.size) (hi6 : i + 6 ≤ L) (hL : L ≤ 3072) (hl : lv_has ls 4 [(3, .int (nI i)), (0, .ref b), (1, .ref (ad 0)), (2, .ref (bd 0))]) (hS : SW D cI cJ cZ (fun q : Nat => s.heap.size ≤ q) s ad bd H locs) (kk : ∀ (H : Heap) (locs : List Loc), SW D cI cJ cZ (fun q : Nat => s.heap.size ≤ q) s ad bd H locs → W p l e room_1 s m args below meth c H locs 59 6511 Q (F0 m 1115 ls [])) : W p l e room_1 s m args below meth c H locs 59 6511 Q (F0 m 227 ls []) := by
  have hbA : ¬ (fun q : Nat => s.heap.size ≤ q) b := Nat.not_le.mpr hbl
  obtain ⟨J, K, seF, kF, spF, deF, pF, n, ki, bi, pa, la, cut, least, seG, kG, spG, deG, pG, nG, kj, bj, pb, lb, cuG, leG, t0, tb, ru, hi, h, hg, ht, hm, hst⟩ := hS
  refine lv_aload_n hx hb dL_law_227 rfl (lv_at hl 2 rfl) ?_
  refine q_xI hE lk_L_20 (x_man l D cI cJ cZ ad J seF kF spF deF pF n ki bi pa la cut least seG kG spG deG pG nG kj bj pb lb cuG leG t0 tb ru hi  h ht) hst (WX_adr ..) rfl (WX_hd ..) rfl rfl hl.1 (fun _ => WX_adr ..) ⟨(Nat.le_of_ble_eq_true rfl), (Nat.le_of_ble_eq_true rfl)⟩ (rest := []) rfl (Nat.le_of_ble_eq_true rfl) dL_law_228 ⟨(Nat.le_of_ble_eq_true rfl), (Nat.le_of_ble_eq_true rfl)⟩ (fun J1 H locs hF hst => ?_)
  refine lv_aload_n hx hb dL_law_231 rfl (lv_at hl 3 rfl) ?_
  refine q_yI hE lk_L_24 (y_man l D cI cJ cZ bd K seF kF spF deF pF n ki bi pa la cut least seG kG spG deG pG nG kj bj pb lb cuG leG t0 tb ru hi  h ht hm) hst (by rw [← List.length_map (f := fun q : Nat × va_E => q.1), WX_adr]; rfl) (WM_adr ..) rfl (WM_hd ..) rfl rfl hl.1 (fun _ => WM_adr ..) ⟨(Nat.le_of_ble_eq_true rfl), (Nat.le_of_ble_eq_true rfl)⟩ (rest := [.int (if 60 ≤ n then -6 else if rdF (nI t0) tb < 0 then nI n else -20 - rdF (nI t0) tb)]) rfl (Nat.le_of_ble_eq_true rfl) dL_law_232 ⟨(Nat.le_of_ble_eq_true rfl), (Nat.le_of_ble_eq_true rfl)⟩ (fun K2 H locs hF hst => ?_)
  refine lv_icmp_eq (tgt := 1115) hx hb dL_law_235 (by decide) (fun c_ => ?_) (fun c_ => absurd rfl c_)
  exact kk _ _ ⟨J1, K2, seF, kF, spF, deF, pF, if 60 ≤ n then n else if rdF (nI t0) tb < 0 then n + 1 else n, if 60 ≤ n then ki else if rdF (nI t0) tb < 0 then upd ki n (rdK (nI t0) tb) else ki, if 60 ≤ n then bi else if rdF (nI t0) tb < 0 then upd bi n (rdB (nI t0) tb) else bi, if 60 ≤ n then pa else if rdF (nI t0) tb < 0 then upd pa n (rdP (nI t0) tb) else pa, la, cut, least, seG, kG, spG, deG, pG, nG, kj, bj, pb, lb, cuG, leG, if 60 ≤ n then t0 else 0, tb, if 60 ≤ n then bmp ru (-6) else ru, hi, st_man h, hg, ht_man ht, hF, hst⟩
set_option maxHeartbeats 4000000 in
set_option maxRecDepth 100000 in
theorem law_c2 (hE : EV p m c cL_law 4 s args RL D cI cJ cZ (fun q : Nat => s.heap.size ≤ q)) (hx : p.tables.exec = Jvm.exec) (hb : c.code = cL_law) (hX : va_X b L xs s s.heap) (hbl : b < s.heap.size) (hi6 : i + 6 ≤ L) (hL : L ≤ 3072) (hl : lv_has ls 4 [(3, .int (nI i)), (0, .ref b), (1, .ref (ad 0)), (2, .ref (bd 0))]) (hS : SW D cI cJ cZ (fun q : Nat => s.heap.size ≤ q) s ad bd H locs) (kk : ∀ (H : Heap) (locs : List Loc), SW D cI cJ cZ (fun q : Nat => s.heap.size ≤ q) s ad bd H locs → W p l e room_1 s m args below meth c H locs 59 6511 Q (F0 m 1115 ls [])) : W p l e room_1 s m args below meth c H locs 59 6511 Q (F0 m 240 ls []) := by
  have hbA : ¬ (fun q : Nat => s.heap.size ≤ q) b := Nat.not_le.mpr hbl
  obtain ⟨J, K, seF, kF, spF, deF, pF, n, ki, bi, pa, la, cut, least, seG, kG, spG, deG, pG, nG, kj, bj, pb, lb, cuG, leG, t0, tb, ru, hi, h, hg, ht, hm, hst⟩ := hS
  refine lv_aload_n hx hb dL_law_240 rfl (lv_at hl 2 rfl) ?_
  refine lv_aload_n hx hb dL_law_241 rfl (lv_at hl 1 rfl) ?_
  refine lv_iload_n hx hb dL_law_242 rfl (lv_at hl 0 rfl) ?_
  refine lv_iconst (v := 1) hx hb dL_law_243 (by decide) ?_
  refine lv_iadd hx hb dL_law_244 ?_
  refine q_top (x' := nI (i + 1)) (nI_add i 1) ?_
  refine va_sld hx hb hX hbl hbA hst.2.2 (vp_in_nI (show i + 1 < L by omega) (by omega)) dL_law_245 ?_
  refine q_top (x' := xs (i + 1)) (by rw [nI_clamp (by omega)]) ?_
  refine lv_aload_n hx hb dL_law_246 rfl (lv_at hl 1 rfl) ?_
  refine lv_iload_n hx hb dL_law_247 rfl (lv_at hl 0 rfl) ?_
  refine lv_iconst (v := 2) hx hb dL_law_248 (by decide) ?_
  refine lv_iadd hx hb dL_law_249 ?_
  refine q_top (x' := nI (i + 2)) (nI_add i 2) ?_
  refine va_sld hx hb hX hbl hbA hst.2.2 (vp_in_nI (show i + 2 < L by omega) (by omega)) dL_law_250 ?_
  refine q_top (x' := xs (i + 2)) (by rw [nI_clamp (by omega)]) ?_
  refine lv_aload_n hx hb dL_law_251 rfl (lv_at hl 1 rfl) ?_
  refine lv_iload_n hx hb dL_law_252 rfl (lv_at hl 0 rfl) ?_
  refine lv_iconst (v := 3) hx hb dL_law_253 (by decide) ?_
  refine lv_iadd hx hb dL_law_254 ?_
  refine q_top (x' := nI (i + 3)) (nI_add i 3) ?_
  refine va_sld hx hb hX hbl hbA hst.2.2 (vp_in_nI (show i + 3 < L by omega) (by omega)) dL_law_255 ?_
  refine q_top (x' := xs (i + 3)) (by rw [nI_clamp (by omega)]) ?_
  refine lv_aload_n hx hb dL_law_256 rfl (lv_at hl 1 rfl) ?_
  refine lv_iload_n hx hb dL_law_257 rfl (lv_at hl 0 rfl) ?_
  refine lv_iconst (v := 4) hx hb dL_law_258 (by decide) ?_
  refine lv_iadd hx hb dL_law_259 ?_
  refine q_top (x' := nI (i + 4)) (nI_add i 4) ?_
  refine va_sld hx hb hX hbl hbA hst.2.2 (vp_in_nI (show i + 4 < L by omega) (by omega)) dL_law_260 ?_
  refine q_top (x' := xs (i + 4)) (by rw [nI_clamp (by omega)]) ?_
  refine lv_aload_n hx hb dL_law_261 rfl (lv_at hl 1 rfl) ?_
  refine lv_iload_n hx hb dL_law_262 rfl (lv_at hl 0 rfl) ?_
  refine lv_iconst (v := 5) hx hb dL_law_263 (by decide) ?_
  refine lv_iadd hx hb dL_law_264 ?_
  refine q_top (x' := nI (i + 5)) (nI_add i 5) ?_
  refine va_sld hx hb hX hbl hbA hst.2.2 (vp_in_nI (show i + 5 < L by omega) (by omega)) dL_law_265 ?_
  refine q_top (x' := xs (i + 5)) (by rw [nI_clamp (by omega)]) ?_
  refine q_xI hE lk_L_25 (x_jar l D cI cJ cZ ad J seF kF spF deF pF n ki bi pa la cut least seG kG spG deG pG nG kj bj pb lb cuG leG t0 tb ru hi (xs (i + 1)) (xs (i + 2)) (xs (i + 3)) (xs (i + 4)) (xs (i + 5)) h ht) hst (WX_adr ..) rfl (WX_hd ..) rfl rfl hl.1 (fun _ => WX_adr ..) ⟨(Nat.le_of_ble_eq_true rfl), (Nat.le_of_ble_eq_true rfl)⟩ (rest := []) rfl (Nat.le_of_ble_eq_true rfl) dL_law_266 ⟨(Nat.le_of_ble_eq_true rfl), (Nat.le_of_ble_eq_true rfl)⟩ (fun J1 H locs hF hst => ?_)
  refine lv_aload_n hx hb dL_law_269 rfl (lv_at hl 3 rfl) ?_
  refine lv_aload_n hx hb dL_law_270 rfl (lv_at hl 1 rfl) ?_
  refine lv_iload_n hx hb dL_law_271 rfl (lv_at hl 0 rfl) ?_
  refine lv_iconst (v := 1) hx hb dL_law_272 (by decide) ?_
  refine lv_iadd hx hb dL_law_273 ?_
  refine q_top (x' := nI (i + 1)) (nI_add i 1) ?_
  refine va_sld hx hb hX hbl hbA hst.2.2 (vp_in_nI (show i + 1 < L by omega) (by omega)) dL_law_274 ?_
  refine q_top (x' := xs (i + 1)) (by rw [nI_clamp (by omega)]) ?_
  refine lv_aload_n hx hb dL_law_275 rfl (lv_at hl 1 rfl) ?_
  refine lv_iload_n hx hb dL_law_276 rfl (lv_at hl 0 rfl) ?_
  refine lv_iconst (v := 2) hx hb dL_law_277 (by decide) ?_
  refine lv_iadd hx hb dL_law_278 ?_
  refine q_top (x' := nI (i + 2)) (nI_add i 2) ?_
  refine va_sld hx hb hX hbl hbA hst.2.2 (vp_in_nI (show i + 2 < L by omega) (by omega)) dL_law_279 ?_
  refine q_top (x' := xs (i + 2)) (by rw [nI_clamp (by omega)]) ?_
  refine lv_aload_n hx hb dL_law_280 rfl (lv_at hl 1 rfl) ?_
  refine lv_iload_n hx hb dL_law_281 rfl (lv_at hl 0 rfl) ?_
  refine lv_iconst (v := 3) hx hb dL_law_282 (by decide) ?_
  refine lv_iadd hx hb dL_law_283 ?_
  refine q_top (x' := nI (i + 3)) (nI_add i 3) ?_
  refine va_sld hx hb hX hbl hbA hst.2.2 (vp_in_nI (show i + 3 < L by omega) (by omega)) dL_law_284 ?_
  refine q_top (x' := xs (i + 3)) (by rw [nI_clamp (by omega)]) ?_
  refine lv_aload_n hx hb dL_law_285 rfl (lv_at hl 1 rfl) ?_
  refine lv_iload_n hx hb dL_law_286 rfl (lv_at hl 0 rfl) ?_
  refine lv_iconst (v := 4) hx hb dL_law_287 (by decide) ?_
  refine lv_iadd hx hb dL_law_288 ?_
  refine q_top (x' := nI (i + 4)) (nI_add i 4) ?_
  refine va_sld hx hb hX hbl hbA hst.2.2 (vp_in_nI (show i + 4 < L by omega) (by omega)) dL_law_289 ?_
  refine q_top (x' := xs (i + 4)) (by rw [nI_clamp (by omega)]) ?_
  refine lv_aload_n hx hb dL_law_290 rfl (lv_at hl 1 rfl) ?_
  refine lv_iload_n hx hb dL_law_291 rfl (lv_at hl 0 rfl) ?_
  refine lv_iconst (v := 5) hx hb dL_law_292 (by decide) ?_
  refine lv_iadd hx hb dL_law_293 ?_
  refine q_top (x' := nI (i + 5)) (nI_add i 5) ?_
  refine va_sld hx hb hX hbl hbA hst.2.2 (vp_in_nI (show i + 5 < L by omega) (by omega)) dL_law_294 ?_
  refine q_top (x' := xs (i + 5)) (by rw [nI_clamp (by omega)]) ?_
  refine q_yI hE lk_L_29 (y_jar l D cI cJ cZ bd K seF kF spF deF pF n ki bi pa la cut least seG kG spG deG pG nG kj bj pb lb cuG leG t0 tb ru hi (xs (i + 1)) (xs (i + 2)) (xs (i + 3)) (xs (i + 4)) (xs (i + 5)) h ht hm) hst (by rw [← List.length_map (f := fun q : Nat × va_E => q.1), WX_adr]; rfl) (WM_adr ..) rfl (WM_hd ..) rfl rfl hl.1 (fun _ => WM_adr ..) ⟨(Nat.le_of_ble_eq_true rfl), (Nat.le_of_ble_eq_true rfl)⟩ (rest := [.int (if ftf (!isJarB (xs (i + 1))) false (decide ((xs (i + 3)) < 0) || (decide ((xs (i + 4)) < 0) || !decide (1 ≤ (xs (i + 5))))) (decide (2000 < (xs (i + 3))) || (decide (365 < (xs (i + 4))) || !decide ((xs (i + 5)) ≤ 366))) = 0 then 1 else (ftf (!isJarB (xs (i + 1))) false (decide ((xs (i + 3)) < 0) || (decide ((xs (i + 4)) < 0) || !decide (1 ≤ (xs (i + 5))))) (decide (2000 < (xs (i + 3))) || (decide (365 < (xs (i + 4))) || !decide ((xs (i + 5)) ≤ 366)))))]) rfl (Nat.le_of_ble_eq_true rfl) dL_law_295 ⟨(Nat.le_of_ble_eq_true rfl), (Nat.le_of_ble_eq_true rfl)⟩ (fun K2 H locs hF hst => ?_)
  refine lv_icmp_eq (tgt := 1115) hx hb dL_law_298 (by decide) (fun c_ => ?_) (fun c_ => absurd rfl c_)
  exact kk _ _ ⟨J1, K2, if ftf (!isJarB (xs (i + 1))) false (decide ((xs (i + 3)) < 0) || (decide ((xs (i + 4)) < 0) || !decide (1 ≤ (xs (i + 5))))) (decide (2000 < (xs (i + 3))) || (decide (365 < (xs (i + 4))) || !decide ((xs (i + 5)) ≤ 366))) = 0 then upd seF (jx (xs (i + 1))) (xs (i + 2)) else seF, if ftf (!isJarB (xs (i + 1))) false (decide ((xs (i + 3)) < 0) || (decide ((xs (i + 4)) < 0) || !decide (1 ≤ (xs (i + 5))))) (decide (2000 < (xs (i + 3))) || (decide (365 < (xs (i + 4))) || !decide ((xs (i + 5)) ≤ 366))) = 0 then updN kF (jx (xs (i + 1))) (xs (i + 3)).toNatClampNeg else kF, if ftf (!isJarB (xs (i + 1))) false (decide ((xs (i + 3)) < 0) || (decide ((xs (i + 4)) < 0) || !decide (1 ≤ (xs (i + 5))))) (decide (2000 < (xs (i + 3))) || (decide (365 < (xs (i + 4))) || !decide ((xs (i + 5)) ≤ 366))) = 0 then updN spF (jx (xs (i + 1))) (xs (i + 4)).toNatClampNeg else spF, if ftf (!isJarB (xs (i + 1))) false (decide ((xs (i + 3)) < 0) || (decide ((xs (i + 4)) < 0) || !decide (1 ≤ (xs (i + 5))))) (decide (2000 < (xs (i + 3))) || (decide (365 < (xs (i + 4))) || !decide ((xs (i + 5)) ≤ 366))) = 0 then updN deF (jx (xs (i + 1))) (xs (i + 5)).toNatClampNeg else deF, pF, n, ki, bi, pa, la, cut, least, seG, kG, spG, deG, pG, nG, kj, bj, pb, lb, cuG, leG, t0, tb, if ftf (!isJarB (xs (i + 1))) false (decide ((xs (i + 3)) < 0) || (decide ((xs (i + 4)) < 0) || !decide (1 ≤ (xs (i + 5))))) (decide (2000 < (xs (i + 3))) || (decide (365 < (xs (i + 4))) || !decide ((xs (i + 5)) ≤ 366))) = 0 then ru else bmp ru (ftf (!isJarB (xs (i + 1))) false (decide ((xs (i + 3)) < 0) || (decide ((xs (i + 4)) < 0) || !decide (1 ≤ (xs (i + 5))))) (decide (2000 < (xs (i + 3))) || (decide (365 < (xs (i + 4))) || !decide ((xs (i + 5)) ≤ 366)))), hi, st_jar h, hg, ht, hF, hst⟩
set_option maxHeartbeats 4000000 in
set_option maxRecDepth 100000 in
theorem law_c3 (hE : EV p m c cL_law 4 s args RL D cI cJ cZ (fun q : Nat => s.heap.size ≤ q)) (hx : p.tables.exec = Jvm.exec) (hb : c.code = cL_law) (hX : va_X b L xs s s.heap) (hbl : b < s.heap.size) (hi6 : i + 6 ≤ L) (hL : L ≤ 3072) (hl : lv_has ls 4 [(3, .int (nI i)), (0, .ref b), (1, .ref (ad 0)), (2, .ref (bd 0))]) (hS : SW D cI cJ cZ (fun q : Nat => s.heap.size ≤ q) s ad bd H locs) (kk : ∀ (H : Heap) (locs : List Loc), SW D cI cJ cZ (fun q : Nat => s.heap.size ≤ q) s ad bd H locs → W p l e room_1 s m args below meth c H locs 59 6511 Q (F0 m 1115 ls [])) : W p l e room_1 s m args below meth c H locs 59 6511 Q (F0 m 303 ls []) := by
  have hbA : ¬ (fun q : Nat => s.heap.size ≤ q) b := Nat.not_le.mpr hbl
  obtain ⟨J, K, seF, kF, spF, deF, pF, n, ki, bi, pa, la, cut, least, seG, kG, spG, deG, pG, nG, kj, bj, pb, lb, cuG, leG, t0, tb, ru, hi, h, hg, ht, hm, hst⟩ := hS
  refine lv_aload_n hx hb dL_law_303 rfl (lv_at hl 2 rfl) ?_
  refine lv_aload_n hx hb dL_law_304 rfl (lv_at hl 1 rfl) ?_
  refine lv_iload_n hx hb dL_law_305 rfl (lv_at hl 0 rfl) ?_
  refine lv_iconst (v := 1) hx hb dL_law_306 (by decide) ?_
  refine lv_iadd hx hb dL_law_307 ?_
  refine q_top (x' := nI (i + 1)) (nI_add i 1) ?_
  refine va_sld hx hb hX hbl hbA hst.2.2 (vp_in_nI (show i + 1 < L by omega) (by omega)) dL_law_308 ?_
  refine q_top (x' := xs (i + 1)) (by rw [nI_clamp (by omega)]) ?_
  suffices kJ : W p l e room_1 s m args below meth c H locs 59 6511 Q (F0 m 322 ls [.int (b2i (!decide (xs (i + 2) = 0))), .int (xs (i + 1)), .ref (ad 0)]) by
    refine lv_aload_n hx hb dL_law_309 rfl (lv_at hl 1 rfl) ?_
    refine lv_iload_n hx hb dL_law_310 rfl (lv_at hl 0 rfl) ?_
    refine lv_iconst (v := 2) hx hb dL_law_311 (by decide) ?_
    refine lv_iadd hx hb dL_law_312 ?_
    refine q_top (x' := nI (i + 2)) (nI_add i 2) ?_
    refine va_sld hx hb hX hbl hbA hst.2.2 (vp_in_nI (show i + 2 < L by omega) (by omega)) dL_law_313 ?_
    refine q_top (x' := xs (i + 2)) (by rw [nI_clamp (by omega)]) ?_
    refine lv_if_eq (tgt := 321) hx hb dL_law_314 (by decide) (fun c_ => ?_) (fun c_ => ?_)
    · refine lv_iconst (v := 0) hx hb dL_law_321 (by decide) ?_
      rw [show (b2i (!decide (xs (i + 2) = 0))) = 0 from by rw [decide_eq_true c_]; rfl] at kJ
      exact kJ
    · refine lv_iconst (v := 1) hx hb dL_law_317 (by decide) ?_
      refine lv_goto (tgt := 322) hx hb dL_law_318 (by decide) ?_
      rw [show (b2i (!decide (xs (i + 2) = 0))) = 1 from by rw [decide_eq_false c_]; rfl] at kJ
      exact kJ
  refine q_xI hE lk_L_30 (x_pour l D cI cJ cZ ad J seF kF spF deF pF n ki bi pa la cut least seG kG spG deG pG nG kj bj pb lb cuG leG t0 tb ru hi (xs (i + 1)) (!decide (xs (i + 2) = 0)) h ht) hst (WX_adr ..) rfl (WX_hd ..) rfl rfl hl.1 (fun _ => WX_adr ..) ⟨(Nat.le_of_ble_eq_true rfl), (Nat.le_of_ble_eq_true rfl)⟩ (rest := []) rfl (Nat.le_of_ble_eq_true rfl) dL_law_322 ⟨(Nat.le_of_ble_eq_true rfl), (Nat.le_of_ble_eq_true rfl)⟩ (fun J1 H locs hF hst => ?_)
  refine lv_aload_n hx hb dL_law_325 rfl (lv_at hl 3 rfl) ?_
  refine lv_aload_n hx hb dL_law_326 rfl (lv_at hl 1 rfl) ?_
  refine lv_iload_n hx hb dL_law_327 rfl (lv_at hl 0 rfl) ?_
  refine lv_iconst (v := 1) hx hb dL_law_328 (by decide) ?_
  refine lv_iadd hx hb dL_law_329 ?_
  refine q_top (x' := nI (i + 1)) (nI_add i 1) ?_
  refine va_sld hx hb hX hbl hbA hst.2.2 (vp_in_nI (show i + 1 < L by omega) (by omega)) dL_law_330 ?_
  refine q_top (x' := xs (i + 1)) (by rw [nI_clamp (by omega)]) ?_
  suffices kJ : W p l e room_1 s m args below meth c H locs 59 6511 Q (F0 m 344 ls [.int (b2i (!decide (xs (i + 2) = 0))), .int (xs (i + 1)), .ref (bd 0), .int (if isJarB (xs (i + 1)) = true then (if pF (jx (xs (i + 1))) = (!decide (xs (i + 2) = 0)) then 0 else 1) else -1)]) by
    refine lv_aload_n hx hb dL_law_331 rfl (lv_at hl 1 rfl) ?_
    refine lv_iload_n hx hb dL_law_332 rfl (lv_at hl 0 rfl) ?_
    refine lv_iconst (v := 2) hx hb dL_law_333 (by decide) ?_
    refine lv_iadd hx hb dL_law_334 ?_
    refine q_top (x' := nI (i + 2)) (nI_add i 2) ?_
    refine va_sld hx hb hX hbl hbA hst.2.2 (vp_in_nI (show i + 2 < L by omega) (by omega)) dL_law_335 ?_
    refine q_top (x' := xs (i + 2)) (by rw [nI_clamp (by omega)]) ?_
    refine lv_if_eq (tgt := 343) hx hb dL_law_336 (by decide) (fun c_ => ?_) (fun c_ => ?_)
    · refine lv_iconst (v := 0) hx hb dL_law_343 (by decide) ?_
      rw [show (b2i (!decide (xs (i + 2) = 0))) = 0 from by rw [decide_eq_true c_]; rfl] at kJ
      exact kJ
    · refine lv_iconst (v := 1) hx hb dL_law_339 (by decide) ?_
      refine lv_goto (tgt := 344) hx hb dL_law_340 (by decide) ?_
      rw [show (b2i (!decide (xs (i + 2) = 0))) = 1 from by rw [decide_eq_false c_]; rfl] at kJ
      exact kJ
  refine q_yI hE lk_L_34 (y_pour l D cI cJ cZ bd K seF kF spF deF pF n ki bi pa la cut least seG kG spG deG pG nG kj bj pb lb cuG leG t0 tb ru hi (xs (i + 1)) (!decide (xs (i + 2) = 0)) h ht hm) hst (by rw [← List.length_map (f := fun q : Nat × va_E => q.1), WX_adr]; rfl) (WM_adr ..) rfl (WM_hd ..) rfl rfl hl.1 (fun _ => WM_adr ..) ⟨(Nat.le_of_ble_eq_true rfl), (Nat.le_of_ble_eq_true rfl)⟩ (rest := [.int (if isJarB (xs (i + 1)) = true then (if pF (jx (xs (i + 1))) = (!decide (xs (i + 2) = 0)) then 0 else 1) else -1)]) rfl (Nat.le_of_ble_eq_true rfl) dL_law_344 ⟨(Nat.le_of_ble_eq_true rfl), (Nat.le_of_ble_eq_true rfl)⟩ (fun K2 H locs hF hst => ?_)
  refine lv_icmp_eq (tgt := 1115) hx hb dL_law_347 (by decide) (fun c_ => ?_) (fun c_ => absurd rfl c_)
  exact kk _ _ ⟨J1, K2, seF, kF, spF, deF, if isJarB (xs (i + 1)) = true then updB pF (jx (xs (i + 1))) (!decide (xs (i + 2) = 0)) else pF, n, ki, bi, pa, la, cut, least, seG, kG, spG, deG, pG, nG, kj, bj, pb, lb, cuG, leG, t0, tb, if isJarB (xs (i + 1)) = true then ru else bmp ru (-1), hi, h, hg, ht, hF, hst⟩
set_option maxHeartbeats 4000000 in
set_option maxRecDepth 100000 in
theorem law_c4 (hE : EV p m c cL_law 4 s args RL D cI cJ cZ (fun q : Nat => s.heap.size ≤ q)) (hx : p.tables.exec = Jvm.exec) (hb : c.code = cL_law) (hX : va_X b L xs s s.heap) (hbl : b < s.heap.size) (hi6 : i + 6 ≤ L) (hL : L ≤ 3072) (hl : lv_has ls 4 [(3, .int (nI i)), (0, .ref b), (1, .ref (ad 0)), (2, .ref (bd 0))]) (hS : SW D cI cJ cZ (fun q : Nat => s.heap.size ≤ q) s ad bd H locs) (kk : ∀ (H : Heap) (locs : List Loc), SW D cI cJ cZ (fun q : Nat => s.heap.size ≤ q) s ad bd H locs → W p l e room_1 s m args below meth c H locs 59 6511 Q (F0 m 1115 ls [])) : W p l e room_1 s m args below meth c H locs 59 6511 Q (F0 m 352 ls []) := by
  have hbA : ¬ (fun q : Nat => s.heap.size ≤ q) b := Nat.not_le.mpr hbl
  obtain ⟨J, K, seF, kF, spF, deF, pF, n, ki, bi, pa, la, cut, least, seG, kG, spG, deG, pG, nG, kj, bj, pb, lb, cuG, leG, t0, tb, ru, hi, h, hg, ht, hm, hst⟩ := hS
  refine lv_aload_n hx hb dL_law_352 rfl (lv_at hl 2 rfl) ?_
  refine lv_aload_n hx hb dL_law_353 rfl (lv_at hl 1 rfl) ?_
  refine lv_iload_n hx hb dL_law_354 rfl (lv_at hl 0 rfl) ?_
  refine lv_iconst (v := 1) hx hb dL_law_355 (by decide) ?_
  refine lv_iadd hx hb dL_law_356 ?_
  refine q_top (x' := nI (i + 1)) (nI_add i 1) ?_
  refine va_sld hx hb hX hbl hbA hst.2.2 (vp_in_nI (show i + 1 < L by omega) (by omega)) dL_law_357 ?_
  refine q_top (x' := xs (i + 1)) (by rw [nI_clamp (by omega)]) ?_
  refine lv_aload_n hx hb dL_law_358 rfl (lv_at hl 1 rfl) ?_
  refine lv_iload_n hx hb dL_law_359 rfl (lv_at hl 0 rfl) ?_
  refine lv_iconst (v := 2) hx hb dL_law_360 (by decide) ?_
  refine lv_iadd hx hb dL_law_361 ?_
  refine q_top (x' := nI (i + 2)) (nI_add i 2) ?_
  refine va_sld hx hb hX hbl hbA hst.2.2 (vp_in_nI (show i + 2 < L by omega) (by omega)) dL_law_362 ?_
  refine q_top (x' := xs (i + 2)) (by rw [nI_clamp (by omega)]) ?_
  refine q_xI hE lk_L_35 (x_number l D cI cJ cZ ad J seF kF spF deF pF n ki bi pa la cut least seG kG spG deG pG nG kj bj pb lb cuG leG t0 tb ru hi (xs (i + 1)) (xs (i + 2)) h ht) hst (WX_adr ..) rfl (WX_hd ..) rfl rfl hl.1 (fun _ => WX_adr ..) ⟨(Nat.le_of_ble_eq_true rfl), (Nat.le_of_ble_eq_true rfl)⟩ (rest := []) rfl (Nat.le_of_ble_eq_true rfl) dL_law_363 ⟨(Nat.le_of_ble_eq_true rfl), (Nat.le_of_ble_eq_true rfl)⟩ (fun J1 H locs hF hst => ?_)
  refine lv_aload_n hx hb dL_law_366 rfl (lv_at hl 3 rfl) ?_
  refine lv_aload_n hx hb dL_law_367 rfl (lv_at hl 1 rfl) ?_
  refine lv_iload_n hx hb dL_law_368 rfl (lv_at hl 0 rfl) ?_
  refine lv_iconst (v := 1) hx hb dL_law_369 (by decide) ?_
  refine lv_iadd hx hb dL_law_370 ?_
  refine q_top (x' := nI (i + 1)) (nI_add i 1) ?_
  refine va_sld hx hb hX hbl hbA hst.2.2 (vp_in_nI (show i + 1 < L by omega) (by omega)) dL_law_371 ?_
  refine q_top (x' := xs (i + 1)) (by rw [nI_clamp (by omega)]) ?_
  refine lv_aload_n hx hb dL_law_372 rfl (lv_at hl 1 rfl) ?_
  refine lv_iload_n hx hb dL_law_373 rfl (lv_at hl 0 rfl) ?_
  refine lv_iconst (v := 2) hx hb dL_law_374 (by decide) ?_
  refine lv_iadd hx hb dL_law_375 ?_
  refine q_top (x' := nI (i + 2)) (nI_add i 2) ?_
  refine va_sld hx hb hX hbl hbA hst.2.2 (vp_in_nI (show i + 2 < L by omega) (by omega)) dL_law_376 ?_
  refine q_top (x' := xs (i + 2)) (by rw [nI_clamp (by omega)]) ?_
  refine q_yI hE lk_L_39 (y_number l D cI cJ cZ bd K seF kF spF deF pF n ki bi pa la cut least seG kG spG deG pG nG kj bj pb lb cuG leG t0 tb ru hi (xs (i + 1)) (xs (i + 2)) h ht hm) hst (by rw [← List.length_map (f := fun q : Nat × va_E => q.1), WX_adr]; rfl) (WM_adr ..) rfl (WM_hd ..) rfl rfl hl.1 (fun _ => WM_adr ..) ⟨(Nat.le_of_ble_eq_true rfl), (Nat.le_of_ble_eq_true rfl)⟩ (rest := [.int (if (isJarB (xs (i + 1)) && (!decide ((xs (i + 2)) < 0) && decide ((xs (i + 2)) < 366))) = true then atI 366 (ndM seF kF spF deF pF (jx (xs (i + 1)))) (xs (i + 2)) else -1)]) rfl (Nat.le_of_ble_eq_true rfl) dL_law_377 ⟨(Nat.le_of_ble_eq_true rfl), (Nat.le_of_ble_eq_true rfl)⟩ (fun K2 H locs hF hst => ?_)
  refine lv_icmp_eq (tgt := 1115) hx hb dL_law_380 (by decide) (fun c_ => ?_) (fun c_ => absurd rfl c_)
  exact kk _ _ ⟨J1, K2, seF, kF, spF, deF, pF, n, ki, bi, pa, la, cut, least, seG, kG, spG, deG, pG, nG, kj, bj, pb, lb, cuG, leG, t0, tb, if (isJarB (xs (i + 1)) && (!decide ((xs (i + 2)) < 0) && decide ((xs (i + 2)) < 366))) = true then ru else bmp ru (-1), hi, h, hg, ht, hF, hst⟩
set_option maxHeartbeats 4000000 in
set_option maxRecDepth 100000 in
theorem law_c5 (hE : EV p m c cL_law 4 s args RL D cI cJ cZ (fun q : Nat => s.heap.size ≤ q)) (hx : p.tables.exec = Jvm.exec) (hb : c.code = cL_law) (hX : va_X b L xs s s.heap) (hbl : b < s.heap.size) (hi6 : i + 6 ≤ L) (hL : L ≤ 3072) (hl : lv_has ls 4 [(3, .int (nI i)), (0, .ref b), (1, .ref (ad 0)), (2, .ref (bd 0))]) (hS : SW D cI cJ cZ (fun q : Nat => s.heap.size ≤ q) s ad bd H locs) (kk : ∀ (H : Heap) (locs : List Loc), SW D cI cJ cZ (fun q : Nat => s.heap.size ≤ q) s ad bd H locs → W p l e room_1 s m args below meth c H locs 59 6511 Q (F0 m 1115 ls [])) : W p l e room_1 s m args below meth c H locs 59 6511 Q (F0 m 385 ls []) := by
  have hbA : ¬ (fun q : Nat => s.heap.size ≤ q) b := Nat.not_le.mpr hbl
  obtain ⟨J, K, seF, kF, spF, deF, pF, n, ki, bi, pa, la, cut, least, seG, kG, spG, deG, pG, nG, kj, bj, pb, lb, cuG, leG, t0, tb, ru, hi, h, hg, ht, hm, hst⟩ := hS
  refine lv_aload_n hx hb dL_law_385 rfl (lv_at hl 2 rfl) ?_
  refine lv_aload_n hx hb dL_law_386 rfl (lv_at hl 1 rfl) ?_
  refine lv_iload_n hx hb dL_law_387 rfl (lv_at hl 0 rfl) ?_
  refine lv_iconst (v := 1) hx hb dL_law_388 (by decide) ?_
  refine lv_iadd hx hb dL_law_389 ?_
  refine q_top (x' := nI (i + 1)) (nI_add i 1) ?_
  refine va_sld hx hb hX hbl hbA hst.2.2 (vp_in_nI (show i + 1 < L by omega) (by omega)) dL_law_390 ?_
  refine q_top (x' := xs (i + 1)) (by rw [nI_clamp (by omega)]) ?_
  refine lv_aload_n hx hb dL_law_391 rfl (lv_at hl 1 rfl) ?_
  refine lv_iload_n hx hb dL_law_392 rfl (lv_at hl 0 rfl) ?_
  refine lv_iconst (v := 2) hx hb dL_law_393 (by decide) ?_
  refine lv_iadd hx hb dL_law_394 ?_
  refine q_top (x' := nI (i + 2)) (nI_add i 2) ?_
  refine va_sld hx hb hX hbl hbA hst.2.2 (vp_in_nI (show i + 2 < L by omega) (by omega)) dL_law_395 ?_
  refine q_top (x' := xs (i + 2)) (by rw [nI_clamp (by omega)]) ?_
  refine q_xI hE lk_L_40 (x_dayOf l D cI cJ cZ ad J seF kF spF deF pF n ki bi pa la cut least seG kG spG deG pG nG kj bj pb lb cuG leG t0 tb ru hi (xs (i + 1)) (xs (i + 2)) h ht) hst (WX_adr ..) rfl (WX_hd ..) rfl rfl hl.1 (fun _ => WX_adr ..) ⟨(Nat.le_of_ble_eq_true rfl), (Nat.le_of_ble_eq_true rfl)⟩ (rest := []) rfl (Nat.le_of_ble_eq_true rfl) dL_law_396 ⟨(Nat.le_of_ble_eq_true rfl), (Nat.le_of_ble_eq_true rfl)⟩ (fun J1 H locs hF hst => ?_)
  refine lv_aload_n hx hb dL_law_399 rfl (lv_at hl 3 rfl) ?_
  refine lv_aload_n hx hb dL_law_400 rfl (lv_at hl 1 rfl) ?_
  refine lv_iload_n hx hb dL_law_401 rfl (lv_at hl 0 rfl) ?_
  refine lv_iconst (v := 1) hx hb dL_law_402 (by decide) ?_
  refine lv_iadd hx hb dL_law_403 ?_
  refine q_top (x' := nI (i + 1)) (nI_add i 1) ?_
  refine va_sld hx hb hX hbl hbA hst.2.2 (vp_in_nI (show i + 1 < L by omega) (by omega)) dL_law_404 ?_
  refine q_top (x' := xs (i + 1)) (by rw [nI_clamp (by omega)]) ?_
  refine lv_aload_n hx hb dL_law_405 rfl (lv_at hl 1 rfl) ?_
  refine lv_iload_n hx hb dL_law_406 rfl (lv_at hl 0 rfl) ?_
  refine lv_iconst (v := 2) hx hb dL_law_407 (by decide) ?_
  refine lv_iadd hx hb dL_law_408 ?_
  refine q_top (x' := nI (i + 2)) (nI_add i 2) ?_
  refine va_sld hx hb hX hbl hbA hst.2.2 (vp_in_nI (show i + 2 < L by omega) (by omega)) dL_law_409 ?_
  refine q_top (x' := xs (i + 2)) (by rw [nI_clamp (by omega)]) ?_
  refine q_yI hE lk_L_43 (y_dayOf l D cI cJ cZ bd K seF kF spF deF pF n ki bi pa la cut least seG kG spG deG pG nG kj bj pb lb cuG leG t0 tb ru hi (xs (i + 1)) (xs (i + 2)) h ht hm) hst (by rw [← List.length_map (f := fun q : Nat × va_E => q.1), WX_adr]; rfl) (WM_adr ..) rfl (WM_hd ..) rfl rfl hl.1 (fun _ => WM_adr ..) ⟨(Nat.le_of_ble_eq_true rfl), (Nat.le_of_ble_eq_true rfl)⟩ (rest := [.int (if ftf (!isJarB (xs (i + 1))) false (!decide (1 ≤ (xs (i + 2)))) (!decide ((xs (i + 2)) ≤ 366)) = 0 then atI 367 (dyM seF kF spF deF pF (jx (xs (i + 1)))) (xs (i + 2)) else (ftf (!isJarB (xs (i + 1))) false (!decide (1 ≤ (xs (i + 2)))) (!decide ((xs (i + 2)) ≤ 366))))]) rfl (Nat.le_of_ble_eq_true rfl) dL_law_410 ⟨(Nat.le_of_ble_eq_true rfl), (Nat.le_of_ble_eq_true rfl)⟩ (fun K2 H locs hF hst => ?_)
  refine lv_icmp_eq (tgt := 1115) hx hb dL_law_413 (by decide) (fun c_ => ?_) (fun c_ => absurd rfl c_)
  exact kk _ _ ⟨J1, K2, seF, kF, spF, deF, pF, n, ki, bi, pa, la, cut, least, seG, kG, spG, deG, pG, nG, kj, bj, pb, lb, cuG, leG, t0, tb, if ftf (!isJarB (xs (i + 1))) false (!decide (1 ≤ (xs (i + 2)))) (!decide ((xs (i + 2)) ≤ 366)) = 0 then ru else bmp ru (ftf (!isJarB (xs (i + 1))) false (!decide (1 ≤ (xs (i + 2)))) (!decide ((xs (i + 2)) ≤ 366))), hi, h, hg, ht, hF, hst⟩
set_option maxHeartbeats 4000000 in
set_option maxRecDepth 100000 in
theorem law_c6 (hE : EV p m c cL_law 4 s args RL D cI cJ cZ (fun q : Nat => s.heap.size ≤ q)) (hx : p.tables.exec = Jvm.exec) (hb : c.code = cL_law) (hX : va_X b L xs s s.heap) (hbl : b < s.heap.size) (hi6 : i + 6 ≤ L) (hL : L ≤ 3072) (hl : lv_has ls 4 [(3, .int (nI i)), (0, .ref b), (1, .ref (ad 0)), (2, .ref (bd 0))]) (hS : SW D cI cJ cZ (fun q : Nat => s.heap.size ≤ q) s ad bd H locs) (kk : ∀ (H : Heap) (locs : List Loc), SW D cI cJ cZ (fun q : Nat => s.heap.size ≤ q) s ad bd H locs → W p l e room_1 s m args below meth c H locs 59 6511 Q (F0 m 1115 ls [])) : W p l e room_1 s m args below meth c H locs 59 6511 Q (F0 m 418 ls []) := by
  have hbA : ¬ (fun q : Nat => s.heap.size ≤ q) b := Nat.not_le.mpr hbl
  obtain ⟨J, K, seF, kF, spF, deF, pF, n, ki, bi, pa, la, cut, least, seG, kG, spG, deG, pG, nG, kj, bj, pb, lb, cuG, leG, t0, tb, ru, hi, h, hg, ht, hm, hst⟩ := hS
  refine lv_aload_n hx hb dL_law_418 rfl (lv_at hl 2 rfl) ?_
  refine lv_aload_n hx hb dL_law_419 rfl (lv_at hl 1 rfl) ?_
  refine lv_iload_n hx hb dL_law_420 rfl (lv_at hl 0 rfl) ?_
  refine lv_iconst (v := 1) hx hb dL_law_421 (by decide) ?_
  refine lv_iadd hx hb dL_law_422 ?_
  refine q_top (x' := nI (i + 1)) (nI_add i 1) ?_
  refine va_sld hx hb hX hbl hbA hst.2.2 (vp_in_nI (show i + 1 < L by omega) (by omega)) dL_law_423 ?_
  refine q_top (x' := xs (i + 1)) (by rw [nI_clamp (by omega)]) ?_
  refine lv_aload_n hx hb dL_law_424 rfl (lv_at hl 1 rfl) ?_
  refine lv_iload_n hx hb dL_law_425 rfl (lv_at hl 0 rfl) ?_
  refine lv_iconst (v := 2) hx hb dL_law_426 (by decide) ?_
  refine lv_iadd hx hb dL_law_427 ?_
  refine q_top (x' := nI (i + 2)) (nI_add i 2) ?_
  refine va_sld hx hb hX hbl hbA hst.2.2 (vp_in_nI (show i + 2 < L by omega) (by omega)) dL_law_428 ?_
  refine q_top (x' := xs (i + 2)) (by rw [nI_clamp (by omega)]) ?_
  refine lv_aload_n hx hb dL_law_429 rfl (lv_at hl 1 rfl) ?_
  refine lv_iload_n hx hb dL_law_430 rfl (lv_at hl 0 rfl) ?_
  refine lv_iconst (v := 3) hx hb dL_law_431 (by decide) ?_
  refine lv_iadd hx hb dL_law_432 ?_
  refine q_top (x' := nI (i + 3)) (nI_add i 3) ?_
  refine va_sld hx hb hX hbl hbA hst.2.2 (vp_in_nI (show i + 3 < L by omega) (by omega)) dL_law_433 ?_
  refine q_top (x' := xs (i + 3)) (by rw [nI_clamp (by omega)]) ?_
  refine q_xL hE lk_L_44 (x_mean l D cI cJ cZ ad J seF kF spF deF pF n ki bi pa la cut least seG kG spG deG pG nG kj bj pb lb cuG leG t0 tb ru hi (xs (i + 1)) (xs (i + 2)) (xs (i + 3)) h ht) hst (WX_adr ..) rfl (WX_hd ..) rfl rfl hl.1 (fun _ => WX_adr ..) ⟨(Nat.le_of_ble_eq_true rfl), (Nat.le_of_ble_eq_true rfl)⟩ (rest := []) rfl (Nat.le_of_ble_eq_true rfl) dL_law_434 ⟨(Nat.le_of_ble_eq_true rfl), (Nat.le_of_ble_eq_true rfl)⟩ (fun J1 H locs hF hst => ?_)
  refine lv_aload_n hx hb dL_law_437 rfl (lv_at hl 3 rfl) ?_
  refine lv_aload_n hx hb dL_law_438 rfl (lv_at hl 1 rfl) ?_
  refine lv_iload_n hx hb dL_law_439 rfl (lv_at hl 0 rfl) ?_
  refine lv_iconst (v := 1) hx hb dL_law_440 (by decide) ?_
  refine lv_iadd hx hb dL_law_441 ?_
  refine q_top (x' := nI (i + 1)) (nI_add i 1) ?_
  refine va_sld hx hb hX hbl hbA hst.2.2 (vp_in_nI (show i + 1 < L by omega) (by omega)) dL_law_442 ?_
  refine q_top (x' := xs (i + 1)) (by rw [nI_clamp (by omega)]) ?_
  refine lv_aload_n hx hb dL_law_443 rfl (lv_at hl 1 rfl) ?_
  refine lv_iload_n hx hb dL_law_444 rfl (lv_at hl 0 rfl) ?_
  refine lv_iconst (v := 2) hx hb dL_law_445 (by decide) ?_
  refine lv_iadd hx hb dL_law_446 ?_
  refine q_top (x' := nI (i + 2)) (nI_add i 2) ?_
  refine va_sld hx hb hX hbl hbA hst.2.2 (vp_in_nI (show i + 2 < L by omega) (by omega)) dL_law_447 ?_
  refine q_top (x' := xs (i + 2)) (by rw [nI_clamp (by omega)]) ?_
  refine lv_aload_n hx hb dL_law_448 rfl (lv_at hl 1 rfl) ?_
  refine lv_iload_n hx hb dL_law_449 rfl (lv_at hl 0 rfl) ?_
  refine lv_iconst (v := 3) hx hb dL_law_450 (by decide) ?_
  refine lv_iadd hx hb dL_law_451 ?_
  refine q_top (x' := nI (i + 3)) (nI_add i 3) ?_
  refine va_sld hx hb hX hbl hbA hst.2.2 (vp_in_nI (show i + 3 < L by omega) (by omega)) dL_law_452 ?_
  refine q_top (x' := xs (i + 3)) (by rw [nI_clamp (by omega)]) ?_
  refine q_yL hE lk_L_48 (y_mean l D cI cJ cZ bd K seF kF spF deF pF n ki bi pa la cut least seG kG spG deG pG nG kj bj pb lb cuG leG t0 tb ru hi (xs (i + 1)) (xs (i + 2)) (xs (i + 3)) h ht hm) hst (by rw [← List.length_map (f := fun q : Nat × va_E => q.1), WX_adr]; rfl) (WM_adr ..) rfl (WM_hd ..) rfl rfl hl.1 (fun _ => WM_adr ..) ⟨(Nat.le_of_ble_eq_true rfl), (Nat.le_of_ble_eq_true rfl)⟩ (rest := [.long (if ftf (!isJarB (xs (i + 1)) || !isMonthB (xs (i + 2))) (!isJarB (xs (i + 3))) false false = 0 then if (xs (i + 3)) = 0 then becA (monS (ndM seF kF spF deF pF (jx (xs (i + 1)))) (xs (i + 2)).toNatClampNeg).toInt64 (nI (mln (xs (i + 2)).toNatClampNeg)).toInt64 else becB (monS (ndM seF kF spF deF pF (jx (xs (i + 1)))) (xs (i + 2)).toNatClampNeg).toInt64 (nI (mln (xs (i + 2)).toNatClampNeg)).toInt64 else lgR (ftf (!isJarB (xs (i + 1)) || !isMonthB (xs (i + 2))) (!isJarB (xs (i + 3))) false false))]) rfl (Nat.le_of_ble_eq_true rfl) dL_law_453 ⟨(Nat.le_of_ble_eq_true rfl), (Nat.le_of_ble_eq_true rfl)⟩ (fun K2 H locs hF hst => ?_)
  refine W.lcmp hx hb dL_law_456 ?_
  refine lv_if_eq (tgt := 1115) hx hb dL_law_457 (by decide) (fun c_ => ?_) (fun c_ => absurd (lc_eq.mpr rfl) c_)
  exact kk _ _ ⟨J1, K2, seF, kF, spF, deF, pF, n, ki, bi, pa, la, cut, least, seG, kG, spG, deG, pG, nG, kj, bj, pb, lb, cuG, leG, t0, tb, if ftf (!isJarB (xs (i + 1)) || !isMonthB (xs (i + 2))) (!isJarB (xs (i + 3))) false false = 0 then ru else bmp ru (ftf (!isJarB (xs (i + 1)) || !isMonthB (xs (i + 2))) (!isJarB (xs (i + 3))) false false), hi, h, hg, ht, hF, hst⟩
set_option maxHeartbeats 4000000 in
set_option maxRecDepth 100000 in
theorem law_c7 (hE : EV p m c cL_law 4 s args RL D cI cJ cZ (fun q : Nat => s.heap.size ≤ q)) (hx : p.tables.exec = Jvm.exec) (hb : c.code = cL_law) (hX : va_X b L xs s s.heap) (hbl : b < s.heap.size) (hi6 : i + 6 ≤ L) (hL : L ≤ 3072) (hl : lv_has ls 4 [(3, .int (nI i)), (0, .ref b), (1, .ref (ad 0)), (2, .ref (bd 0))]) (hS : SW D cI cJ cZ (fun q : Nat => s.heap.size ≤ q) s ad bd H locs) (kk : ∀ (H : Heap) (locs : List Loc), SW D cI cJ cZ (fun q : Nat => s.heap.size ≤ q) s ad bd H locs → W p l e room_1 s m args below meth c H locs 59 6511 Q (F0 m 1115 ls [])) : W p l e room_1 s m args below meth c H locs 59 6511 Q (F0 m 462 ls []) := by
  have hbA : ¬ (fun q : Nat => s.heap.size ≤ q) b := Nat.not_le.mpr hbl
  obtain ⟨J, K, seF, kF, spF, deF, pF, n, ki, bi, pa, la, cut, least, seG, kG, spG, deG, pG, nG, kj, bj, pb, lb, cuG, leG, t0, tb, ru, hi, h, hg, ht, hm, hst⟩ := hS
  refine lv_aload_n hx hb dL_law_462 rfl (lv_at hl 2 rfl) ?_
  refine lv_aload_n hx hb dL_law_463 rfl (lv_at hl 1 rfl) ?_
  refine lv_iload_n hx hb dL_law_464 rfl (lv_at hl 0 rfl) ?_
  refine lv_iconst (v := 1) hx hb dL_law_465 (by decide) ?_
  refine lv_iadd hx hb dL_law_466 ?_
  refine q_top (x' := nI (i + 1)) (nI_add i 1) ?_
  refine va_sld hx hb hX hbl hbA hst.2.2 (vp_in_nI (show i + 1 < L by omega) (by omega)) dL_law_467 ?_
  refine q_top (x' := xs (i + 1)) (by rw [nI_clamp (by omega)]) ?_
  refine q_xL hE lk_L_49 (x_lean l D cI cJ cZ ad J seF kF spF deF pF n ki bi pa la cut least seG kG spG deG pG nG kj bj pb lb cuG leG t0 tb ru hi (xs (i + 1)) h ht) hst (WX_adr ..) rfl (WX_hd ..) rfl rfl hl.1 (fun _ => WX_adr ..) ⟨(Nat.le_of_ble_eq_true rfl), (Nat.le_of_ble_eq_true rfl)⟩ (rest := []) rfl (Nat.le_of_ble_eq_true rfl) dL_law_468 ⟨(Nat.le_of_ble_eq_true rfl), (Nat.le_of_ble_eq_true rfl)⟩ (fun J1 H locs hF hst => ?_)
  refine lv_aload_n hx hb dL_law_471 rfl (lv_at hl 3 rfl) ?_
  refine lv_aload_n hx hb dL_law_472 rfl (lv_at hl 1 rfl) ?_
  refine lv_iload_n hx hb dL_law_473 rfl (lv_at hl 0 rfl) ?_
  refine lv_iconst (v := 1) hx hb dL_law_474 (by decide) ?_
  refine lv_iadd hx hb dL_law_475 ?_
  refine q_top (x' := nI (i + 1)) (nI_add i 1) ?_
  refine va_sld hx hb hX hbl hbA hst.2.2 (vp_in_nI (show i + 1 < L by omega) (by omega)) dL_law_476 ?_
  refine q_top (x' := xs (i + 1)) (by rw [nI_clamp (by omega)]) ?_
  refine q_yL hE lk_L_53 (y_lean l D cI cJ cZ bd K seF kF spF deF pF n ki bi pa la cut least seG kG spG deG pG nG kj bj pb lb cuG leG t0 tb ru hi (xs (i + 1)) h ht hm) hst (by rw [← List.length_map (f := fun q : Nat × va_E => q.1), WX_adr]; rfl) (WM_adr ..) rfl (WM_hd ..) rfl rfl hl.1 (fun _ => WM_adr ..) ⟨(Nat.le_of_ble_eq_true rfl), (Nat.le_of_ble_eq_true rfl)⟩ (rest := [.long (if isJarB (xs (i + 1)) = true then leaL (ndM seF kF spF deF pF (jx (xs (i + 1)))) 366 else lgR (-1))]) rfl (Nat.le_of_ble_eq_true rfl) dL_law_477 ⟨(Nat.le_of_ble_eq_true rfl), (Nat.le_of_ble_eq_true rfl)⟩ (fun K2 H locs hF hst => ?_)
  refine W.lcmp hx hb dL_law_480 ?_
  refine lv_if_eq (tgt := 1115) hx hb dL_law_481 (by decide) (fun c_ => ?_) (fun c_ => absurd (lc_eq.mpr rfl) c_)
  exact kk _ _ ⟨J1, K2, seF, kF, spF, deF, pF, n, ki, bi, pa, la, cut, least, seG, kG, spG, deG, pG, nG, kj, bj, pb, lb, cuG, leG, t0, tb, if isJarB (xs (i + 1)) = true then ru else bmp ru (-1), hi, h, hg, ht, hF, hst⟩
set_option maxHeartbeats 4000000 in
set_option maxRecDepth 100000 in
theorem law_c8 (hE : EV p m c cL_law 4 s args RL D cI cJ cZ (fun q : Nat => s.heap.size ≤ q)) (hx : p.tables.exec = Jvm.exec) (hb : c.code = cL_law) (hX : va_X b L xs s s.heap) (hbl : b < s.heap.size) (hi6 : i + 6 ≤ L) (hL : L ≤ 3072) (hl : lv_has ls 4 [(3, .int (nI i)), (0, .ref b), (1, .ref (ad 0)), (2, .ref (bd 0))]) (hS : SW D cI cJ cZ (fun q : Nat => s.heap.size ≤ q) s ad bd H locs) (kk : ∀ (H : Heap) (locs : List Loc), SW D cI cJ cZ (fun q : Nat => s.heap.size ≤ q) s ad bd H locs → W p l e room_1 s m args below meth c H locs 59 6511 Q (F0 m 1115 ls [])) : W p l e room_1 s m args below meth c H locs 59 6511 Q (F0 m 486 ls []) := by
  have hbA : ¬ (fun q : Nat => s.heap.size ≤ q) b := Nat.not_le.mpr hbl
  obtain ⟨J, K, seF, kF, spF, deF, pF, n, ki, bi, pa, la, cut, least, seG, kG, spG, deG, pG, nG, kj, bj, pb, lb, cuG, leG, t0, tb, ru, hi, h, hg, ht, hm, hst⟩ := hS
  refine lv_aload_n hx hb dL_law_486 rfl (lv_at hl 2 rfl) ?_
  refine lv_aload_n hx hb dL_law_487 rfl (lv_at hl 1 rfl) ?_
  refine lv_iload_n hx hb dL_law_488 rfl (lv_at hl 0 rfl) ?_
  refine lv_iconst (v := 1) hx hb dL_law_489 (by decide) ?_
  refine lv_iadd hx hb dL_law_490 ?_
  refine q_top (x' := nI (i + 1)) (nI_add i 1) ?_
  refine va_sld hx hb hX hbl hbA hst.2.2 (vp_in_nI (show i + 1 < L by omega) (by omega)) dL_law_491 ?_
  refine q_top (x' := xs (i + 1)) (by rw [nI_clamp (by omega)]) ?_
  refine q_xI hE lk_L_54 (x_worst l D cI cJ cZ ad J seF kF spF deF pF n ki bi pa la cut least seG kG spG deG pG nG kj bj pb lb cuG leG t0 tb ru hi (xs (i + 1)) h ht) hst (WX_adr ..) rfl (WX_hd ..) rfl rfl hl.1 (fun _ => WX_adr ..) ⟨(Nat.le_of_ble_eq_true rfl), (Nat.le_of_ble_eq_true rfl)⟩ (rest := []) rfl (Nat.le_of_ble_eq_true rfl) dL_law_492 ⟨(Nat.le_of_ble_eq_true rfl), (Nat.le_of_ble_eq_true rfl)⟩ (fun J1 H locs hF hst => ?_)
  refine lv_aload_n hx hb dL_law_495 rfl (lv_at hl 3 rfl) ?_
  refine lv_aload_n hx hb dL_law_496 rfl (lv_at hl 1 rfl) ?_
  refine lv_iload_n hx hb dL_law_497 rfl (lv_at hl 0 rfl) ?_
  refine lv_iconst (v := 1) hx hb dL_law_498 (by decide) ?_
  refine lv_iadd hx hb dL_law_499 ?_
  refine q_top (x' := nI (i + 1)) (nI_add i 1) ?_
  refine va_sld hx hb hX hbl hbA hst.2.2 (vp_in_nI (show i + 1 < L by omega) (by omega)) dL_law_500 ?_
  refine q_top (x' := xs (i + 1)) (by rw [nI_clamp (by omega)]) ?_
  refine q_yI hE lk_L_58 (y_worst l D cI cJ cZ bd K seF kF spF deF pF n ki bi pa la cut least seG kG spG deG pG nG kj bj pb lb cuG leG t0 tb ru hi (xs (i + 1)) h ht hm) hst (by rw [← List.length_map (f := fun q : Nat × va_E => q.1), WX_adr]; rfl) (WM_adr ..) rfl (WM_hd ..) rfl rfl hl.1 (fun _ => WM_adr ..) ⟨(Nat.le_of_ble_eq_true rfl), (Nat.le_of_ble_eq_true rfl)⟩ (rest := [.int (if isJarB (xs (i + 1)) = true then nI (wor (ndM seF kF spF deF pF (jx (xs (i + 1)))) 11) else -1)]) rfl (Nat.le_of_ble_eq_true rfl) dL_law_501 ⟨(Nat.le_of_ble_eq_true rfl), (Nat.le_of_ble_eq_true rfl)⟩ (fun K2 H locs hF hst => ?_)
  refine lv_icmp_eq (tgt := 1115) hx hb dL_law_504 (by decide) (fun c_ => ?_) (fun c_ => absurd rfl c_)
  exact kk _ _ ⟨J1, K2, seF, kF, spF, deF, pF, n, ki, bi, pa, la, cut, least, seG, kG, spG, deG, pG, nG, kj, bj, pb, lb, cuG, leG, t0, tb, if isJarB (xs (i + 1)) = true then ru else bmp ru (-1), hi, h, hg, ht, hF, hst⟩
set_option maxHeartbeats 4000000 in
set_option maxRecDepth 100000 in
theorem law_c9 (hE : EV p m c cL_law 4 s args RL D cI cJ cZ (fun q : Nat => s.heap.size ≤ q)) (hx : p.tables.exec = Jvm.exec) (hb : c.code = cL_law) (hX : va_X b L xs s s.heap) (hbl : b < s.heap.size) (hi6 : i + 6 ≤ L) (hL : L ≤ 3072) (hl : lv_has ls 4 [(3, .int (nI i)), (0, .ref b), (1, .ref (ad 0)), (2, .ref (bd 0))]) (hS : SW D cI cJ cZ (fun q : Nat => s.heap.size ≤ q) s ad bd H locs) (kk : ∀ (H : Heap) (locs : List Loc), SW D cI cJ cZ (fun q : Nat => s.heap.size ≤ q) s ad bd H locs → W p l e room_1 s m args below meth c H locs 59 6511 Q (F0 m 1115 ls [])) : W p l e room_1 s m args below meth c H locs 59 6511 Q (F0 m 509 ls []) := by
  have hbA : ¬ (fun q : Nat => s.heap.size ≤ q) b := Nat.not_le.mpr hbl
  obtain ⟨J, K, seF, kF, spF, deF, pF, n, ki, bi, pa, la, cut, least, seG, kG, spG, deG, pG, nG, kj, bj, pb, lb, cuG, leG, t0, tb, ru, hi, h, hg, ht, hm, hst⟩ := hS
  refine lv_aload_n hx hb dL_law_509 rfl (lv_at hl 2 rfl) ?_
  refine lv_aload_n hx hb dL_law_510 rfl (lv_at hl 1 rfl) ?_
  refine lv_iload_n hx hb dL_law_511 rfl (lv_at hl 0 rfl) ?_
  refine lv_iconst (v := 1) hx hb dL_law_512 (by decide) ?_
  refine lv_iadd hx hb dL_law_513 ?_
  refine q_top (x' := nI (i + 1)) (nI_add i 1) ?_
  refine va_sld hx hb hX hbl hbA hst.2.2 (vp_in_nI (show i + 1 < L by omega) (by omega)) dL_law_514 ?_
  refine q_top (x' := xs (i + 1)) (by rw [nI_clamp (by omega)]) ?_
  refine q_xI hE lk_L_59 (x_turned l D cI cJ cZ ad J seF kF spF deF pF n ki bi pa la cut least seG kG spG deG pG nG kj bj pb lb cuG leG t0 tb ru hi (xs (i + 1)) h ht) hst (WX_adr ..) rfl (WX_hd ..) rfl rfl hl.1 (fun _ => WX_adr ..) ⟨(Nat.le_of_ble_eq_true rfl), (Nat.le_of_ble_eq_true rfl)⟩ (rest := []) rfl (Nat.le_of_ble_eq_true rfl) dL_law_515 ⟨(Nat.le_of_ble_eq_true rfl), (Nat.le_of_ble_eq_true rfl)⟩ (fun J1 H locs hF hst => ?_)
  refine lv_aload_n hx hb dL_law_518 rfl (lv_at hl 3 rfl) ?_
  refine lv_aload_n hx hb dL_law_519 rfl (lv_at hl 1 rfl) ?_
  refine lv_iload_n hx hb dL_law_520 rfl (lv_at hl 0 rfl) ?_
  refine lv_iconst (v := 1) hx hb dL_law_521 (by decide) ?_
  refine lv_iadd hx hb dL_law_522 ?_
  refine q_top (x' := nI (i + 1)) (nI_add i 1) ?_
  refine va_sld hx hb hX hbl hbA hst.2.2 (vp_in_nI (show i + 1 < L by omega) (by omega)) dL_law_523 ?_
  refine q_top (x' := xs (i + 1)) (by rw [nI_clamp (by omega)]) ?_
  refine q_yI hE lk_L_62 (y_turned l D cI cJ cZ bd K seF kF spF deF pF n ki bi pa la cut least seG kG spG deG pG nG kj bj pb lb cuG leG t0 tb ru hi (xs (i + 1)) h ht hm) hst (by rw [← List.length_map (f := fun q : Nat × va_E => q.1), WX_adr]; rfl) (WM_adr ..) rfl (WM_hd ..) rfl rfl hl.1 (fun _ => WM_adr ..) ⟨(Nat.le_of_ble_eq_true rfl), (Nat.le_of_ble_eq_true rfl)⟩ (rest := [.int (if isJarB (xs (i + 1)) = true then tuI (ndM seF kF spF deF pF (jx (xs (i + 1)))) 366 else -1)]) rfl (Nat.le_of_ble_eq_true rfl) dL_law_524 ⟨(Nat.le_of_ble_eq_true rfl), (Nat.le_of_ble_eq_true rfl)⟩ (fun K2 H locs hF hst => ?_)
  refine lv_icmp_eq (tgt := 1115) hx hb dL_law_527 (by decide) (fun c_ => ?_) (fun c_ => absurd rfl c_)
  exact kk _ _ ⟨J1, K2, seF, kF, spF, deF, pF, n, ki, bi, pa, la, cut, least, seG, kG, spG, deG, pG, nG, kj, bj, pb, lb, cuG, leG, t0, tb, if isJarB (xs (i + 1)) = true then ru else bmp ru (-1), hi, h, hg, ht, hF, hst⟩
set_option maxHeartbeats 4000000 in
set_option maxRecDepth 100000 in
theorem law_c10 (hE : EV p m c cL_law 4 s args RL D cI cJ cZ (fun q : Nat => s.heap.size ≤ q)) (hx : p.tables.exec = Jvm.exec) (hb : c.code = cL_law) (hX : va_X b L xs s s.heap) (hbl : b < s.heap.size) (hi6 : i + 6 ≤ L) (hL : L ≤ 3072) (hl : lv_has ls 4 [(3, .int (nI i)), (0, .ref b), (1, .ref (ad 0)), (2, .ref (bd 0))]) (hS : SW D cI cJ cZ (fun q : Nat => s.heap.size ≤ q) s ad bd H locs) (kk : ∀ (H : Heap) (locs : List Loc), SW D cI cJ cZ (fun q : Nat => s.heap.size ≤ q) s ad bd H locs → W p l e room_1 s m args below meth c H locs 59 6511 Q (F0 m 1115 ls [])) : W p l e room_1 s m args below meth c H locs 59 6511 Q (F0 m 532 ls []) := by
  have hbA : ¬ (fun q : Nat => s.heap.size ≤ q) b := Nat.not_le.mpr hbl
  obtain ⟨J, K, seF, kF, spF, deF, pF, n, ki, bi, pa, la, cut, least, seG, kG, spG, deG, pG, nG, kj, bj, pb, lb, cuG, leG, t0, tb, ru, hi, h, hg, ht, hm, hst⟩ := hS
  refine lv_aload_n hx hb dL_law_532 rfl (lv_at hl 2 rfl) ?_
  refine lv_aload_n hx hb dL_law_533 rfl (lv_at hl 1 rfl) ?_
  refine lv_iload_n hx hb dL_law_534 rfl (lv_at hl 0 rfl) ?_
  refine lv_iconst (v := 1) hx hb dL_law_535 (by decide) ?_
  refine lv_iadd hx hb dL_law_536 ?_
  refine q_top (x' := nI (i + 1)) (nI_add i 1) ?_
  refine va_sld hx hb hX hbl hbA hst.2.2 (vp_in_nI (show i + 1 < L by omega) (by omega)) dL_law_537 ?_
  refine q_top (x' := xs (i + 1)) (by rw [nI_clamp (by omega)]) ?_
  refine lv_aload_n hx hb dL_law_538 rfl (lv_at hl 1 rfl) ?_
  refine lv_iload_n hx hb dL_law_539 rfl (lv_at hl 0 rfl) ?_
  refine lv_iconst (v := 2) hx hb dL_law_540 (by decide) ?_
  refine lv_iadd hx hb dL_law_541 ?_
  refine q_top (x' := nI (i + 2)) (nI_add i 2) ?_
  refine va_sld hx hb hX hbl hbA hst.2.2 (vp_in_nI (show i + 2 < L by omega) (by omega)) dL_law_542 ?_
  refine q_top (x' := xs (i + 2)) (by rw [nI_clamp (by omega)]) ?_
  refine q_xI hE lk_L_63 (x_manOf l D cI cJ cZ ad J seF kF spF deF pF n ki bi pa la cut least seG kG spG deG pG nG kj bj pb lb cuG leG t0 tb ru hi (xs (i + 1)) (xs (i + 2)) h ht) hst (WX_adr ..) rfl (WX_hd ..) rfl rfl hl.1 (fun _ => WX_adr ..) ⟨(Nat.le_of_ble_eq_true rfl), (Nat.le_of_ble_eq_true rfl)⟩ (rest := []) rfl (Nat.le_of_ble_eq_true rfl) dL_law_543 ⟨(Nat.le_of_ble_eq_true rfl), (Nat.le_of_ble_eq_true rfl)⟩ (fun J1 H locs hF hst => ?_)
  refine lv_aload_n hx hb dL_law_546 rfl (lv_at hl 3 rfl) ?_
  refine lv_aload_n hx hb dL_law_547 rfl (lv_at hl 1 rfl) ?_
  refine lv_iload_n hx hb dL_law_548 rfl (lv_at hl 0 rfl) ?_
  refine lv_iconst (v := 1) hx hb dL_law_549 (by decide) ?_
  refine lv_iadd hx hb dL_law_550 ?_
  refine q_top (x' := nI (i + 1)) (nI_add i 1) ?_
  refine va_sld hx hb hX hbl hbA hst.2.2 (vp_in_nI (show i + 1 < L by omega) (by omega)) dL_law_551 ?_
  refine q_top (x' := xs (i + 1)) (by rw [nI_clamp (by omega)]) ?_
  refine lv_aload_n hx hb dL_law_552 rfl (lv_at hl 1 rfl) ?_
  refine lv_iload_n hx hb dL_law_553 rfl (lv_at hl 0 rfl) ?_
  refine lv_iconst (v := 2) hx hb dL_law_554 (by decide) ?_
  refine lv_iadd hx hb dL_law_555 ?_
  refine q_top (x' := nI (i + 2)) (nI_add i 2) ?_
  refine va_sld hx hb hX hbl hbA hst.2.2 (vp_in_nI (show i + 2 < L by omega) (by omega)) dL_law_556 ?_
  refine q_top (x' := xs (i + 2)) (by rw [nI_clamp (by omega)]) ?_
  refine q_yI hE lk_L_66 (y_manOf l D cI cJ cZ bd K seF kF spF deF pF n ki bi pa la cut least seG kG spG deG pG nG kj bj pb lb cuG leG t0 tb ru hi (xs (i + 1)) (xs (i + 2)) h ht hm) hst (by rw [← List.length_map (f := fun q : Nat × va_E => q.1), WX_adr]; rfl) (WM_adr ..) rfl (WM_hd ..) rfl rfl hl.1 (fun _ => WM_adr ..) ⟨(Nat.le_of_ble_eq_true rfl), (Nat.le_of_ble_eq_true rfl)⟩ (rest := [.int (if ftf (!manB (nI n) (xs (i + 1))) (decide ((xs (i + 2)) < 0) || !decide ((xs (i + 2)) ≤ 2)) false false = 0 then if (xs (i + 2)) = 0 then atI 60 ki (xs (i + 1)) else if (xs (i + 2)) = 1 then atI 60 bi (xs (i + 1)) else atI 60 pa (xs (i + 1)) else (ftf (!manB (nI n) (xs (i + 1))) (decide ((xs (i + 2)) < 0) || !decide ((xs (i + 2)) ≤ 2)) false false))]) rfl (Nat.le_of_ble_eq_true rfl) dL_law_557 ⟨(Nat.le_of_ble_eq_true rfl), (Nat.le_of_ble_eq_true rfl)⟩ (fun K2 H locs hF hst => ?_)
  refine lv_icmp_eq (tgt := 1115) hx hb dL_law_560 (by decide) (fun c_ => ?_) (fun c_ => absurd rfl c_)
  exact kk _ _ ⟨J1, K2, seF, kF, spF, deF, pF, n, ki, bi, pa, la, cut, least, seG, kG, spG, deG, pG, nG, kj, bj, pb, lb, cuG, leG, t0, tb, if ftf (!manB (nI n) (xs (i + 1))) (decide ((xs (i + 2)) < 0) || !decide ((xs (i + 2)) ≤ 2)) false false = 0 then ru else bmp ru (ftf (!manB (nI n) (xs (i + 1))) (decide ((xs (i + 2)) < 0) || !decide ((xs (i + 2)) ≤ 2)) false false), hi, h, hg, ht, hF, hst⟩
set_option maxHeartbeats 4000000 in
set_option maxRecDepth 100000 in
theorem law_c11 (hE : EV p m c cL_law 4 s args RL D cI cJ cZ (fun q : Nat => s.heap.size ≤ q)) (hx : p.tables.exec = Jvm.exec) (hb : c.code = cL_law) (hX : va_X b L xs s s.heap) (hbl : b < s.heap.size) (hi6 : i + 6 ≤ L) (hL : L ≤ 3072) (hl : lv_has ls 4 [(3, .int (nI i)), (0, .ref b), (1, .ref (ad 0)), (2, .ref (bd 0))]) (hS : SW D cI cJ cZ (fun q : Nat => s.heap.size ≤ q) s ad bd H locs) (kk : ∀ (H : Heap) (locs : List Loc), SW D cI cJ cZ (fun q : Nat => s.heap.size ≤ q) s ad bd H locs → W p l e room_1 s m args below meth c H locs 59 6511 Q (F0 m 1115 ls [])) : W p l e room_1 s m args below meth c H locs 59 6511 Q (F0 m 565 ls []) := by
  have hbA : ¬ (fun q : Nat => s.heap.size ≤ q) b := Nat.not_le.mpr hbl
  obtain ⟨J, K, seF, kF, spF, deF, pF, n, ki, bi, pa, la, cut, least, seG, kG, spG, deG, pG, nG, kj, bj, pb, lb, cuG, leG, t0, tb, ru, hi, h, hg, ht, hm, hst⟩ := hS
  refine lv_aload_n hx hb dL_law_565 rfl (lv_at hl 2 rfl) ?_
  refine lv_aload_n hx hb dL_law_566 rfl (lv_at hl 1 rfl) ?_
  refine lv_iload_n hx hb dL_law_567 rfl (lv_at hl 0 rfl) ?_
  refine lv_iconst (v := 1) hx hb dL_law_568 (by decide) ?_
  refine lv_iadd hx hb dL_law_569 ?_
  refine q_top (x' := nI (i + 1)) (nI_add i 1) ?_
  refine va_sld hx hb hX hbl hbA hst.2.2 (vp_in_nI (show i + 1 < L by omega) (by omega)) dL_law_570 ?_
  refine q_top (x' := xs (i + 1)) (by rw [nI_clamp (by omega)]) ?_
  refine q_xI hE lk_L_67 (x_cut l D cI cJ cZ ad J seF kF spF deF pF n ki bi pa la cut least seG kG spG deG pG nG kj bj pb lb cuG leG t0 tb ru hi (xs (i + 1)) h ht) hst (WX_adr ..) rfl (WX_hd ..) rfl rfl hl.1 (fun _ => WX_adr ..) ⟨(Nat.le_of_ble_eq_true rfl), (Nat.le_of_ble_eq_true rfl)⟩ (rest := []) rfl (Nat.le_of_ble_eq_true rfl) dL_law_571 ⟨(Nat.le_of_ble_eq_true rfl), (Nat.le_of_ble_eq_true rfl)⟩ (fun J1 H locs hF hst => ?_)
  refine lv_aload_n hx hb dL_law_574 rfl (lv_at hl 3 rfl) ?_
  refine lv_aload_n hx hb dL_law_575 rfl (lv_at hl 1 rfl) ?_
  refine lv_iload_n hx hb dL_law_576 rfl (lv_at hl 0 rfl) ?_
  refine lv_iconst (v := 1) hx hb dL_law_577 (by decide) ?_
  refine lv_iadd hx hb dL_law_578 ?_
  refine q_top (x' := nI (i + 1)) (nI_add i 1) ?_
  refine va_sld hx hb hX hbl hbA hst.2.2 (vp_in_nI (show i + 1 < L by omega) (by omega)) dL_law_579 ?_
  refine q_top (x' := xs (i + 1)) (by rw [nI_clamp (by omega)]) ?_
  refine q_yI hE lk_L_70 (y_cut l D cI cJ cZ bd K seF kF spF deF pF n ki bi pa la cut least seG kG spG deG pG nG kj bj pb lb cuG leG t0 tb ru hi (xs (i + 1)) h ht hm) hst (by rw [← List.length_map (f := fun q : Nat × va_E => q.1), WX_adr]; rfl) (WM_adr ..) rfl (WM_hd ..) rfl rfl hl.1 (fun _ => WM_adr ..) ⟨(Nat.le_of_ble_eq_true rfl), (Nat.le_of_ble_eq_true rfl)⟩ (rest := [.int (if ftf false false (!decide (0 ≤ (xs (i + 1)))) (!decide ((xs (i + 1)) ≤ 366)) = 0 then cut else (ftf false false (!decide (0 ≤ (xs (i + 1)))) (!decide ((xs (i + 1)) ≤ 366))))]) rfl (Nat.le_of_ble_eq_true rfl) dL_law_580 ⟨(Nat.le_of_ble_eq_true rfl), (Nat.le_of_ble_eq_true rfl)⟩ (fun K2 H locs hF hst => ?_)
  refine lv_icmp_eq (tgt := 1115) hx hb dL_law_583 (by decide) (fun c_ => ?_) (fun c_ => absurd rfl c_)
  exact kk _ _ ⟨J1, K2, seF, kF, spF, deF, pF, n, ki, bi, pa, la, if ftf false false (!decide (0 ≤ (xs (i + 1)))) (!decide ((xs (i + 1)) ≤ 366)) = 0 then (xs (i + 1)) else cut, least, seG, kG, spG, deG, pG, nG, kj, bj, pb, lb, cuG, leG, t0, tb, if ftf false false (!decide (0 ≤ (xs (i + 1)))) (!decide ((xs (i + 1)) ≤ 366)) = 0 then ru else bmp ru (ftf false false (!decide (0 ≤ (xs (i + 1)))) (!decide ((xs (i + 1)) ≤ 366))), hi, h, hg, ht, hF, hst⟩
set_option maxHeartbeats 4000000 in
set_option maxRecDepth 100000 in
theorem law_c12 (hE : EV p m c cL_law 4 s args RL D cI cJ cZ (fun q : Nat => s.heap.size ≤ q)) (hx : p.tables.exec = Jvm.exec) (hb : c.code = cL_law) (hX : va_X b L xs s s.heap) (hbl : b < s.heap.size) (hi6 : i + 6 ≤ L) (hL : L ≤ 3072) (hl : lv_has ls 4 [(3, .int (nI i)), (0, .ref b), (1, .ref (ad 0)), (2, .ref (bd 0))]) (hS : SW D cI cJ cZ (fun q : Nat => s.heap.size ≤ q) s ad bd H locs) (kk : ∀ (H : Heap) (locs : List Loc), SW D cI cJ cZ (fun q : Nat => s.heap.size ≤ q) s ad bd H locs → W p l e room_1 s m args below meth c H locs 59 6511 Q (F0 m 1115 ls [])) : W p l e room_1 s m args below meth c H locs 59 6511 Q (F0 m 588 ls []) := by
  have hbA : ¬ (fun q : Nat => s.heap.size ≤ q) b := Nat.not_le.mpr hbl
  obtain ⟨J, K, seF, kF, spF, deF, pF, n, ki, bi, pa, la, cut, least, seG, kG, spG, deG, pG, nG, kj, bj, pb, lb, cuG, leG, t0, tb, ru, hi, h, hg, ht, hm, hst⟩ := hS
  refine lv_aload_n hx hb dL_law_588 rfl (lv_at hl 2 rfl) ?_
  refine lv_aload_n hx hb dL_law_589 rfl (lv_at hl 1 rfl) ?_
  refine lv_iload_n hx hb dL_law_590 rfl (lv_at hl 0 rfl) ?_
  refine lv_iconst (v := 1) hx hb dL_law_591 (by decide) ?_
  refine lv_iadd hx hb dL_law_592 ?_
  refine q_top (x' := nI (i + 1)) (nI_add i 1) ?_
  refine va_sld hx hb hX hbl hbA hst.2.2 (vp_in_nI (show i + 1 < L by omega) (by omega)) dL_law_593 ?_
  refine q_top (x' := xs (i + 1)) (by rw [nI_clamp (by omega)]) ?_
  refine lv_aload_n hx hb dL_law_594 rfl (lv_at hl 1 rfl) ?_
  refine lv_iload_n hx hb dL_law_595 rfl (lv_at hl 0 rfl) ?_
  refine lv_iconst (v := 2) hx hb dL_law_596 (by decide) ?_
  refine lv_iadd hx hb dL_law_597 ?_
  refine q_top (x' := nI (i + 2)) (nI_add i 2) ?_
  refine va_sld hx hb hX hbl hbA hst.2.2 (vp_in_nI (show i + 2 < L by omega) (by omega)) dL_law_598 ?_
  refine q_top (x' := xs (i + 2)) (by rw [nI_clamp (by omega)]) ?_
  refine q_xI hE lk_L_71 (x_law l D cI cJ cZ ad J seF kF spF deF pF n ki bi pa la cut least seG kG spG deG pG nG kj bj pb lb cuG leG t0 tb ru hi (xs (i + 1)) (xs (i + 2)) h ht) hst (WX_adr ..) rfl (WX_hd ..) rfl rfl hl.1 (fun _ => WX_adr ..) ⟨(Nat.le_of_ble_eq_true rfl), (Nat.le_of_ble_eq_true rfl)⟩ (rest := []) rfl (Nat.le_of_ble_eq_true rfl) dL_law_599 ⟨(Nat.le_of_ble_eq_true rfl), (Nat.le_of_ble_eq_true rfl)⟩ (fun J1 H locs hF hst => ?_)
  refine lv_aload_n hx hb dL_law_602 rfl (lv_at hl 3 rfl) ?_
  refine lv_aload_n hx hb dL_law_603 rfl (lv_at hl 1 rfl) ?_
  refine lv_iload_n hx hb dL_law_604 rfl (lv_at hl 0 rfl) ?_
  refine lv_iconst (v := 1) hx hb dL_law_605 (by decide) ?_
  refine lv_iadd hx hb dL_law_606 ?_
  refine q_top (x' := nI (i + 1)) (nI_add i 1) ?_
  refine va_sld hx hb hX hbl hbA hst.2.2 (vp_in_nI (show i + 1 < L by omega) (by omega)) dL_law_607 ?_
  refine q_top (x' := xs (i + 1)) (by rw [nI_clamp (by omega)]) ?_
  refine lv_aload_n hx hb dL_law_608 rfl (lv_at hl 1 rfl) ?_
  refine lv_iload_n hx hb dL_law_609 rfl (lv_at hl 0 rfl) ?_
  refine lv_iconst (v := 2) hx hb dL_law_610 (by decide) ?_
  refine lv_iadd hx hb dL_law_611 ?_
  refine q_top (x' := nI (i + 2)) (nI_add i 2) ?_
  refine va_sld hx hb hX hbl hbA hst.2.2 (vp_in_nI (show i + 2 < L by omega) (by omega)) dL_law_612 ?_
  refine q_top (x' := xs (i + 2)) (by rw [nI_clamp (by omega)]) ?_
  refine q_yI hE lk_L_74 (y_law l D cI cJ cZ bd K seF kF spF deF pF n ki bi pa la cut least seG kG spG deG pG nG kj bj pb lb cuG leG t0 tb ru hi (xs (i + 1)) (xs (i + 2)) h ht hm) hst (by rw [← List.length_map (f := fun q : Nat × va_E => q.1), WX_adr]; rfl) (WM_adr ..) rfl (WM_hd ..) rfl rfl hl.1 (fun _ => WM_adr ..) ⟨(Nat.le_of_ble_eq_true rfl), (Nat.le_of_ble_eq_true rfl)⟩ (rest := [.int (if ftf (!(!decide ((xs (i + 1)) < 0) && !decide (nI 5 ≤ (xs (i + 1))))) false (!decide (0 ≤ (xs (i + 2)))) (!decide ((xs (i + 2)) ≤ atI 5 fGL (xs (i + 1)))) = 0 then atI 5 la (xs (i + 1)) else (ftf (!(!decide ((xs (i + 1)) < 0) && !decide (nI 5 ≤ (xs (i + 1))))) false (!decide (0 ≤ (xs (i + 2)))) (!decide ((xs (i + 2)) ≤ atI 5 fGL (xs (i + 1))))))]) rfl (Nat.le_of_ble_eq_true rfl) dL_law_613 ⟨(Nat.le_of_ble_eq_true rfl), (Nat.le_of_ble_eq_true rfl)⟩ (fun K2 H locs hF hst => ?_)
  refine lv_icmp_eq (tgt := 1115) hx hb dL_law_616 (by decide) (fun c_ => ?_) (fun c_ => absurd rfl c_)
  exact kk _ _ ⟨J1, K2, seF, kF, spF, deF, pF, n, ki, bi, pa, if ftf (!(!decide ((xs (i + 1)) < 0) && !decide (nI 5 ≤ (xs (i + 1))))) false (!decide (0 ≤ (xs (i + 2)))) (!decide ((xs (i + 2)) ≤ atI 5 fGL (xs (i + 1)))) = 0 then putI 5 la (xs (i + 1)) (xs (i + 2)) else la, cut, least, seG, kG, spG, deG, pG, nG, kj, bj, pb, lb, cuG, leG, t0, tb, if ftf (!(!decide ((xs (i + 1)) < 0) && !decide (nI 5 ≤ (xs (i + 1))))) false (!decide (0 ≤ (xs (i + 2)))) (!decide ((xs (i + 2)) ≤ atI 5 fGL (xs (i + 1)))) = 0 then ru else bmp ru (ftf (!(!decide ((xs (i + 1)) < 0) && !decide (nI 5 ≤ (xs (i + 1))))) false (!decide (0 ≤ (xs (i + 2)))) (!decide ((xs (i + 2)) ≤ atI 5 fGL (xs (i + 1))))), hi, st_law h, hg, ht, hF, hst⟩
set_option maxHeartbeats 4000000 in
set_option maxRecDepth 100000 in
theorem law_c13 (hE : EV p m c cL_law 4 s args RL D cI cJ cZ (fun q : Nat => s.heap.size ≤ q)) (hx : p.tables.exec = Jvm.exec) (hb : c.code = cL_law) (hX : va_X b L xs s s.heap) (hbl : b < s.heap.size) (hi6 : i + 6 ≤ L) (hL : L ≤ 3072) (hl : lv_has ls 4 [(3, .int (nI i)), (0, .ref b), (1, .ref (ad 0)), (2, .ref (bd 0))]) (hS : SW D cI cJ cZ (fun q : Nat => s.heap.size ≤ q) s ad bd H locs) (kk : ∀ (H : Heap) (locs : List Loc), SW D cI cJ cZ (fun q : Nat => s.heap.size ≤ q) s ad bd H locs → W p l e room_1 s m args below meth c H locs 59 6511 Q (F0 m 1115 ls [])) : W p l e room_1 s m args below meth c H locs 59 6511 Q (F0 m 621 ls []) := by
  have hbA : ¬ (fun q : Nat => s.heap.size ≤ q) b := Nat.not_le.mpr hbl
  obtain ⟨J, K, seF, kF, spF, deF, pF, n, ki, bi, pa, la, cut, least, seG, kG, spG, deG, pG, nG, kj, bj, pb, lb, cuG, leG, t0, tb, ru, hi, h, hg, ht, hm, hst⟩ := hS
  refine lv_aload_n hx hb dL_law_621 rfl (lv_at hl 2 rfl) ?_
  refine lv_aload_n hx hb dL_law_622 rfl (lv_at hl 1 rfl) ?_
  refine lv_iload_n hx hb dL_law_623 rfl (lv_at hl 0 rfl) ?_
  refine lv_iconst (v := 1) hx hb dL_law_624 (by decide) ?_
  refine lv_iadd hx hb dL_law_625 ?_
  refine q_top (x' := nI (i + 1)) (nI_add i 1) ?_
  refine va_sld hx hb hX hbl hbA hst.2.2 (vp_in_nI (show i + 1 < L by omega) (by omega)) dL_law_626 ?_
  refine q_top (x' := xs (i + 1)) (by rw [nI_clamp (by omega)]) ?_
  refine lv_aload_n hx hb dL_law_627 rfl (lv_at hl 1 rfl) ?_
  refine lv_iload_n hx hb dL_law_628 rfl (lv_at hl 0 rfl) ?_
  refine lv_iconst (v := 2) hx hb dL_law_629 (by decide) ?_
  refine lv_iadd hx hb dL_law_630 ?_
  refine q_top (x' := nI (i + 2)) (nI_add i 2) ?_
  refine va_sld hx hb hX hbl hbA hst.2.2 (vp_in_nI (show i + 2 < L by omega) (by omega)) dL_law_631 ?_
  refine q_top (x' := xs (i + 2)) (by rw [nI_clamp (by omega)]) ?_
  refine q_xI hE lk_L_75 (x_called l D cI cJ cZ ad J seF kF spF deF pF n ki bi pa la cut least seG kG spG deG pG nG kj bj pb lb cuG leG t0 tb ru hi (xs (i + 1)) (xs (i + 2)) h ht) hst (WX_adr ..) rfl (WX_hd ..) rfl rfl hl.1 (fun _ => WX_adr ..) ⟨(Nat.le_of_ble_eq_true rfl), (Nat.le_of_ble_eq_true rfl)⟩ (rest := []) rfl (Nat.le_of_ble_eq_true rfl) dL_law_632 ⟨(Nat.le_of_ble_eq_true rfl), (Nat.le_of_ble_eq_true rfl)⟩ (fun J1 H locs hF hst => ?_)
  refine lv_aload_n hx hb dL_law_635 rfl (lv_at hl 3 rfl) ?_
  refine lv_aload_n hx hb dL_law_636 rfl (lv_at hl 1 rfl) ?_
  refine lv_iload_n hx hb dL_law_637 rfl (lv_at hl 0 rfl) ?_
  refine lv_iconst (v := 1) hx hb dL_law_638 (by decide) ?_
  refine lv_iadd hx hb dL_law_639 ?_
  refine q_top (x' := nI (i + 1)) (nI_add i 1) ?_
  refine va_sld hx hb hX hbl hbA hst.2.2 (vp_in_nI (show i + 1 < L by omega) (by omega)) dL_law_640 ?_
  refine q_top (x' := xs (i + 1)) (by rw [nI_clamp (by omega)]) ?_
  refine lv_aload_n hx hb dL_law_641 rfl (lv_at hl 1 rfl) ?_
  refine lv_iload_n hx hb dL_law_642 rfl (lv_at hl 0 rfl) ?_
  refine lv_iconst (v := 2) hx hb dL_law_643 (by decide) ?_
  refine lv_iadd hx hb dL_law_644 ?_
  refine q_top (x' := nI (i + 2)) (nI_add i 2) ?_
  refine va_sld hx hb hX hbl hbA hst.2.2 (vp_in_nI (show i + 2 < L by omega) (by omega)) dL_law_645 ?_
  refine q_top (x' := xs (i + 2)) (by rw [nI_clamp (by omega)]) ?_
  refine q_yI hE lk_L_78 (y_called l D cI cJ cZ bd K seF kF spF deF pF n ki bi pa la cut least seG kG spG deG pG nG kj bj pb lb cuG leG t0 tb ru hi (xs (i + 1)) (xs (i + 2)) h ht hm) hst (by rw [← List.length_map (f := fun q : Nat × va_E => q.1), WX_adr]; rfl) (WM_adr ..) rfl (WM_hd ..) rfl rfl hl.1 (fun _ => WM_adr ..) ⟨(Nat.le_of_ble_eq_true rfl), (Nat.le_of_ble_eq_true rfl)⟩ (rest := [.int (if (isJarB (xs (i + 1)) && manB (nI n) (xs (i + 2))) = true then b2i (calF cut (ndM seF kF spF deF pF (jx (xs (i + 1)))) bi (xs (i + 2)).toNatClampNeg) else -1)]) rfl (Nat.le_of_ble_eq_true rfl) dL_law_646 ⟨(Nat.le_of_ble_eq_true rfl), (Nat.le_of_ble_eq_true rfl)⟩ (fun K2 H locs hF hst => ?_)
  refine lv_icmp_eq (tgt := 1115) hx hb dL_law_649 (by decide) (fun c_ => ?_) (fun c_ => absurd rfl c_)
  exact kk _ _ ⟨J1, K2, seF, kF, spF, deF, pF, n, ki, bi, pa, la, cut, least, seG, kG, spG, deG, pG, nG, kj, bj, pb, lb, cuG, leG, t0, tb, if (isJarB (xs (i + 1)) && manB (nI n) (xs (i + 2))) = true then ru else bmp ru (-1), hi, h, hg, ht, hF, hst⟩
set_option maxHeartbeats 4000000 in
set_option maxRecDepth 100000 in
theorem law_c14 (hE : EV p m c cL_law 4 s args RL D cI cJ cZ (fun q : Nat => s.heap.size ≤ q)) (hx : p.tables.exec = Jvm.exec) (hb : c.code = cL_law) (hX : va_X b L xs s s.heap) (hbl : b < s.heap.size) (hi6 : i + 6 ≤ L) (hL : L ≤ 3072) (hl : lv_has ls 4 [(3, .int (nI i)), (0, .ref b), (1, .ref (ad 0)), (2, .ref (bd 0))]) (hS : SW D cI cJ cZ (fun q : Nat => s.heap.size ≤ q) s ad bd H locs) (kk : ∀ (H : Heap) (locs : List Loc), SW D cI cJ cZ (fun q : Nat => s.heap.size ≤ q) s ad bd H locs → W p l e room_1 s m args below meth c H locs 59 6511 Q (F0 m 1115 ls [])) : W p l e room_1 s m args below meth c H locs 59 6511 Q (F0 m 654 ls []) := by
  have hbA : ¬ (fun q : Nat => s.heap.size ≤ q) b := Nat.not_le.mpr hbl
  obtain ⟨J, K, seF, kF, spF, deF, pF, n, ki, bi, pa, la, cut, least, seG, kG, spG, deG, pG, nG, kj, bj, pb, lb, cuG, leG, t0, tb, ru, hi, h, hg, ht, hm, hst⟩ := hS
  refine lv_aload_n hx hb dL_law_654 rfl (lv_at hl 2 rfl) ?_
  refine lv_aload_n hx hb dL_law_655 rfl (lv_at hl 1 rfl) ?_
  refine lv_iload_n hx hb dL_law_656 rfl (lv_at hl 0 rfl) ?_
  refine lv_iconst (v := 1) hx hb dL_law_657 (by decide) ?_
  refine lv_iadd hx hb dL_law_658 ?_
  refine q_top (x' := nI (i + 1)) (nI_add i 1) ?_
  refine va_sld hx hb hX hbl hbA hst.2.2 (vp_in_nI (show i + 1 < L by omega) (by omega)) dL_law_659 ?_
  refine q_top (x' := xs (i + 1)) (by rw [nI_clamp (by omega)]) ?_
  refine lv_aload_n hx hb dL_law_660 rfl (lv_at hl 1 rfl) ?_
  refine lv_iload_n hx hb dL_law_661 rfl (lv_at hl 0 rfl) ?_
  refine lv_iconst (v := 2) hx hb dL_law_662 (by decide) ?_
  refine lv_iadd hx hb dL_law_663 ?_
  refine q_top (x' := nI (i + 2)) (nI_add i 2) ?_
  refine va_sld hx hb hX hbl hbA hst.2.2 (vp_in_nI (show i + 2 < L by omega) (by omega)) dL_law_664 ?_
  refine q_top (x' := xs (i + 2)) (by rw [nI_clamp (by omega)]) ?_
  refine q_xI hE lk_L_79 (x_served l D cI cJ cZ ad J seF kF spF deF pF n ki bi pa la cut least seG kG spG deG pG nG kj bj pb lb cuG leG t0 tb ru hi (xs (i + 1)) (xs (i + 2)) h ht) hst (WX_adr ..) rfl (WX_hd ..) rfl rfl hl.1 (fun _ => WX_adr ..) ⟨(Nat.le_of_ble_eq_true rfl), (Nat.le_of_ble_eq_true rfl)⟩ (rest := []) rfl (Nat.le_of_ble_eq_true rfl) dL_law_665 ⟨(Nat.le_of_ble_eq_true rfl), (Nat.le_of_ble_eq_true rfl)⟩ (fun J1 H locs hF hst => ?_)
  refine lv_aload_n hx hb dL_law_668 rfl (lv_at hl 3 rfl) ?_
  refine lv_aload_n hx hb dL_law_669 rfl (lv_at hl 1 rfl) ?_
  refine lv_iload_n hx hb dL_law_670 rfl (lv_at hl 0 rfl) ?_
  refine lv_iconst (v := 1) hx hb dL_law_671 (by decide) ?_
  refine lv_iadd hx hb dL_law_672 ?_
  refine q_top (x' := nI (i + 1)) (nI_add i 1) ?_
  refine va_sld hx hb hX hbl hbA hst.2.2 (vp_in_nI (show i + 1 < L by omega) (by omega)) dL_law_673 ?_
  refine q_top (x' := xs (i + 1)) (by rw [nI_clamp (by omega)]) ?_
  refine lv_aload_n hx hb dL_law_674 rfl (lv_at hl 1 rfl) ?_
  refine lv_iload_n hx hb dL_law_675 rfl (lv_at hl 0 rfl) ?_
  refine lv_iconst (v := 2) hx hb dL_law_676 (by decide) ?_
  refine lv_iadd hx hb dL_law_677 ?_
  refine q_top (x' := nI (i + 2)) (nI_add i 2) ?_
  refine va_sld hx hb hX hbl hbA hst.2.2 (vp_in_nI (show i + 2 < L by omega) (by omega)) dL_law_678 ?_
  refine q_top (x' := xs (i + 2)) (by rw [nI_clamp (by omega)]) ?_
  refine q_yI hE lk_L_82 (y_served l D cI cJ cZ bd K seF kF spF deF pF n ki bi pa la cut least seG kG spG deG pG nG kj bj pb lb cuG leG t0 tb ru hi (xs (i + 1)) (xs (i + 2)) h ht hm) hst (by rw [← List.length_map (f := fun q : Nat × va_E => q.1), WX_adr]; rfl) (WM_adr ..) rfl (WM_hd ..) rfl rfl hl.1 (fun _ => WM_adr ..) ⟨(Nat.le_of_ble_eq_true rfl), (Nat.le_of_ble_eq_true rfl)⟩ (rest := [.int (if (isJarB (xs (i + 1)) && manB (nI n) (xs (i + 2))) = true then svF cut (ndM seF kF spF deF pF (jx (xs (i + 1)))) ki bi (xs (i + 2)).toNatClampNeg else -1)]) rfl (Nat.le_of_ble_eq_true rfl) dL_law_679 ⟨(Nat.le_of_ble_eq_true rfl), (Nat.le_of_ble_eq_true rfl)⟩ (fun K2 H locs hF hst => ?_)
  refine lv_icmp_eq (tgt := 1115) hx hb dL_law_682 (by decide) (fun c_ => ?_) (fun c_ => absurd rfl c_)
  exact kk _ _ ⟨J1, K2, seF, kF, spF, deF, pF, n, ki, bi, pa, la, cut, least, seG, kG, spG, deG, pG, nG, kj, bj, pb, lb, cuG, leG, t0, tb, if (isJarB (xs (i + 1)) && manB (nI n) (xs (i + 2))) = true then ru else bmp ru (-1), hi, h, hg, ht, hF, hst⟩
set_option maxHeartbeats 4000000 in
set_option maxRecDepth 100000 in
theorem law_c15 (hE : EV p m c cL_law 4 s args RL D cI cJ cZ (fun q : Nat => s.heap.size ≤ q)) (hx : p.tables.exec = Jvm.exec) (hb : c.code = cL_law) (hX : va_X b L xs s s.heap) (hbl : b < s.heap.size) (hi6 : i + 6 ≤ L) (hL : L ≤ 3072) (hl : lv_has ls 4 [(3, .int (nI i)), (0, .ref b), (1, .ref (ad 0)), (2, .ref (bd 0))]) (hS : SW D cI cJ cZ (fun q : Nat => s.heap.size ≤ q) s ad bd H locs) (kk : ∀ (H : Heap) (locs : List Loc), SW D cI cJ cZ (fun q : Nat => s.heap.size ≤ q) s ad bd H locs → W p l e room_1 s m args below meth c H locs 59 6511 Q (F0 m 1115 ls [])) : W p l e room_1 s m args below meth c H locs 59 6511 Q (F0 m 687 ls []) := by
  have hbA : ¬ (fun q : Nat => s.heap.size ≤ q) b := Nat.not_le.mpr hbl
  obtain ⟨J, K, seF, kF, spF, deF, pF, n, ki, bi, pa, la, cut, least, seG, kG, spG, deG, pG, nG, kj, bj, pb, lb, cuG, leG, t0, tb, ru, hi, h, hg, ht, hm, hst⟩ := hS
  refine lv_aload_n hx hb dL_law_687 rfl (lv_at hl 2 rfl) ?_
  refine lv_aload_n hx hb dL_law_688 rfl (lv_at hl 1 rfl) ?_
  refine lv_iload_n hx hb dL_law_689 rfl (lv_at hl 0 rfl) ?_
  refine lv_iconst (v := 1) hx hb dL_law_690 (by decide) ?_
  refine lv_iadd hx hb dL_law_691 ?_
  refine q_top (x' := nI (i + 1)) (nI_add i 1) ?_
  refine va_sld hx hb hX hbl hbA hst.2.2 (vp_in_nI (show i + 1 < L by omega) (by omega)) dL_law_692 ?_
  refine q_top (x' := xs (i + 1)) (by rw [nI_clamp (by omega)]) ?_
  refine lv_aload_n hx hb dL_law_693 rfl (lv_at hl 1 rfl) ?_
  refine lv_iload_n hx hb dL_law_694 rfl (lv_at hl 0 rfl) ?_
  refine lv_iconst (v := 2) hx hb dL_law_695 (by decide) ?_
  refine lv_iadd hx hb dL_law_696 ?_
  refine q_top (x' := nI (i + 2)) (nI_add i 2) ?_
  refine va_sld hx hb hX hbl hbA hst.2.2 (vp_in_nI (show i + 2 < L by omega) (by omega)) dL_law_697 ?_
  refine q_top (x' := xs (i + 2)) (by rw [nI_clamp (by omega)]) ?_
  refine lv_aload_n hx hb dL_law_698 rfl (lv_at hl 1 rfl) ?_
  refine lv_iload_n hx hb dL_law_699 rfl (lv_at hl 0 rfl) ?_
  refine lv_iconst (v := 3) hx hb dL_law_700 (by decide) ?_
  refine lv_iadd hx hb dL_law_701 ?_
  refine q_top (x' := nI (i + 3)) (nI_add i 3) ?_
  refine va_sld hx hb hX hbl hbA hst.2.2 (vp_in_nI (show i + 3 < L by omega) (by omega)) dL_law_702 ?_
  refine q_top (x' := xs (i + 3)) (by rw [nI_clamp (by omega)]) ?_
  refine q_xL hE lk_L_83 (x_wage l D cI cJ cZ ad J seF kF spF deF pF n ki bi pa la cut least seG kG spG deG pG nG kj bj pb lb cuG leG t0 tb ru hi (xs (i + 1)) (xs (i + 2)) (xs (i + 3)) h ht) hst (WX_adr ..) rfl (WX_hd ..) rfl rfl hl.1 (fun _ => WX_adr ..) ⟨(Nat.le_of_ble_eq_true rfl), (Nat.le_of_ble_eq_true rfl)⟩ (rest := []) rfl (Nat.le_of_ble_eq_true rfl) dL_law_703 ⟨(Nat.le_of_ble_eq_true rfl), (Nat.le_of_ble_eq_true rfl)⟩ (fun J1 H locs hF hst => ?_)
  refine lv_aload_n hx hb dL_law_706 rfl (lv_at hl 3 rfl) ?_
  refine lv_aload_n hx hb dL_law_707 rfl (lv_at hl 1 rfl) ?_
  refine lv_iload_n hx hb dL_law_708 rfl (lv_at hl 0 rfl) ?_
  refine lv_iconst (v := 1) hx hb dL_law_709 (by decide) ?_
  refine lv_iadd hx hb dL_law_710 ?_
  refine q_top (x' := nI (i + 1)) (nI_add i 1) ?_
  refine va_sld hx hb hX hbl hbA hst.2.2 (vp_in_nI (show i + 1 < L by omega) (by omega)) dL_law_711 ?_
  refine q_top (x' := xs (i + 1)) (by rw [nI_clamp (by omega)]) ?_
  refine lv_aload_n hx hb dL_law_712 rfl (lv_at hl 1 rfl) ?_
  refine lv_iload_n hx hb dL_law_713 rfl (lv_at hl 0 rfl) ?_
  refine lv_iconst (v := 2) hx hb dL_law_714 (by decide) ?_
  refine lv_iadd hx hb dL_law_715 ?_
  refine q_top (x' := nI (i + 2)) (nI_add i 2) ?_
  refine va_sld hx hb hX hbl hbA hst.2.2 (vp_in_nI (show i + 2 < L by omega) (by omega)) dL_law_716 ?_
  refine q_top (x' := xs (i + 2)) (by rw [nI_clamp (by omega)]) ?_
  refine lv_aload_n hx hb dL_law_717 rfl (lv_at hl 1 rfl) ?_
  refine lv_iload_n hx hb dL_law_718 rfl (lv_at hl 0 rfl) ?_
  refine lv_iconst (v := 3) hx hb dL_law_719 (by decide) ?_
  refine lv_iadd hx hb dL_law_720 ?_
  refine q_top (x' := nI (i + 3)) (nI_add i 3) ?_
  refine va_sld hx hb hX hbl hbA hst.2.2 (vp_in_nI (show i + 3 < L by omega) (by omega)) dL_law_721 ?_
  refine q_top (x' := xs (i + 3)) (by rw [nI_clamp (by omega)]) ?_
  refine q_yL hE lk_L_86 (y_wage l D cI cJ cZ bd K seF kF spF deF pF n ki bi pa la cut least seG kG spG deG pG nG kj bj pb lb cuG leG t0 tb ru hi (xs (i + 1)) (xs (i + 2)) (xs (i + 3)) h ht hm) hst (by rw [← List.length_map (f := fun q : Nat × va_E => q.1), WX_adr]; rfl) (WM_adr ..) rfl (WM_hd ..) rfl rfl hl.1 (fun _ => WM_adr ..) ⟨(Nat.le_of_ble_eq_true rfl), (Nat.le_of_ble_eq_true rfl)⟩ (rest := [.long (if ftf (!isJarB (xs (i + 1)) || !manB (nI n) (xs (i + 2))) false (!decide (0 ≤ (xs (i + 3)))) (!decide ((xs (i + 3)) ≤ 40)) = 0 then (wagF cut (ndM seF kF spF deF pF (jx (xs (i + 1)))) ki bi pa la (xs (i + 3)) (xs (i + 2)).toNatClampNeg).toInt64 else lgR (ftf (!isJarB (xs (i + 1)) || !manB (nI n) (xs (i + 2))) false (!decide (0 ≤ (xs (i + 3)))) (!decide ((xs (i + 3)) ≤ 40))))]) rfl (Nat.le_of_ble_eq_true rfl) dL_law_722 ⟨(Nat.le_of_ble_eq_true rfl), (Nat.le_of_ble_eq_true rfl)⟩ (fun K2 H locs hF hst => ?_)
  refine W.lcmp hx hb dL_law_725 ?_
  refine lv_if_eq (tgt := 1115) hx hb dL_law_726 (by decide) (fun c_ => ?_) (fun c_ => absurd (lc_eq.mpr rfl) c_)
  exact kk _ _ ⟨J1, K2, seF, kF, spF, deF, pF, n, ki, bi, pa, la, cut, least, seG, kG, spG, deG, pG, nG, kj, bj, pb, lb, cuG, leG, t0, tb, if ftf (!isJarB (xs (i + 1)) || !manB (nI n) (xs (i + 2))) false (!decide (0 ≤ (xs (i + 3)))) (!decide ((xs (i + 3)) ≤ 40)) = 0 then ru else bmp ru (ftf (!isJarB (xs (i + 1)) || !manB (nI n) (xs (i + 2))) false (!decide (0 ≤ (xs (i + 3)))) (!decide ((xs (i + 3)) ≤ 40))), hi, h, hg, ht, hF, hst⟩
set_option maxHeartbeats 4000000 in
set_option maxRecDepth 100000 in
theorem law_c16 (hE : EV p m c cL_law 4 s args RL D cI cJ cZ (fun q : Nat => s.heap.size ≤ q)) (hx : p.tables.exec = Jvm.exec) (hb : c.code = cL_law) (hX : va_X b L xs s s.heap) (hbl : b < s.heap.size) (hi6 : i + 6 ≤ L) (hL : L ≤ 3072) (hl : lv_has ls 4 [(3, .int (nI i)), (0, .ref b), (1, .ref (ad 0)), (2, .ref (bd 0))]) (hS : SW D cI cJ cZ (fun q : Nat => s.heap.size ≤ q) s ad bd H locs) (kk : ∀ (H : Heap) (locs : List Loc), SW D cI cJ cZ (fun q : Nat => s.heap.size ≤ q) s ad bd H locs → W p l e room_1 s m args below meth c H locs 59 6511 Q (F0 m 1115 ls [])) : W p l e room_1 s m args below meth c H locs 59 6511 Q (F0 m 731 ls []) := by
  have hbA : ¬ (fun q : Nat => s.heap.size ≤ q) b := Nat.not_le.mpr hbl
  obtain ⟨J, K, seF, kF, spF, deF, pF, n, ki, bi, pa, la, cut, least, seG, kG, spG, deG, pG, nG, kj, bj, pb, lb, cuG, leG, t0, tb, ru, hi, h, hg, ht, hm, hst⟩ := hS
  refine lv_aload_n hx hb dL_law_731 rfl (lv_at hl 2 rfl) ?_
  refine lv_aload_n hx hb dL_law_732 rfl (lv_at hl 1 rfl) ?_
  refine lv_iload_n hx hb dL_law_733 rfl (lv_at hl 0 rfl) ?_
  refine lv_iconst (v := 1) hx hb dL_law_734 (by decide) ?_
  refine lv_iadd hx hb dL_law_735 ?_
  refine q_top (x' := nI (i + 1)) (nI_add i 1) ?_
  refine va_sld hx hb hX hbl hbA hst.2.2 (vp_in_nI (show i + 1 < L by omega) (by omega)) dL_law_736 ?_
  refine q_top (x' := xs (i + 1)) (by rw [nI_clamp (by omega)]) ?_
  refine lv_aload_n hx hb dL_law_737 rfl (lv_at hl 1 rfl) ?_
  refine lv_iload_n hx hb dL_law_738 rfl (lv_at hl 0 rfl) ?_
  refine lv_iconst (v := 2) hx hb dL_law_739 (by decide) ?_
  refine lv_iadd hx hb dL_law_740 ?_
  refine q_top (x' := nI (i + 2)) (nI_add i 2) ?_
  refine va_sld hx hb hX hbl hbA hst.2.2 (vp_in_nI (show i + 2 < L by omega) (by omega)) dL_law_741 ?_
  refine q_top (x' := xs (i + 2)) (by rw [nI_clamp (by omega)]) ?_
  refine lv_aload_n hx hb dL_law_742 rfl (lv_at hl 1 rfl) ?_
  refine lv_iload_n hx hb dL_law_743 rfl (lv_at hl 0 rfl) ?_
  refine lv_iconst (v := 3) hx hb dL_law_744 (by decide) ?_
  refine lv_iadd hx hb dL_law_745 ?_
  refine q_top (x' := nI (i + 3)) (nI_add i 3) ?_
  refine va_sld hx hb hX hbl hbA hst.2.2 (vp_in_nI (show i + 3 < L by omega) (by omega)) dL_law_746 ?_
  refine q_top (x' := xs (i + 3)) (by rw [nI_clamp (by omega)]) ?_
  refine q_xL hE lk_L_87 (x_does l D cI cJ cZ ad J seF kF spF deF pF n ki bi pa la cut least seG kG spG deG pG nG kj bj pb lb cuG leG t0 tb ru hi (xs (i + 1)) (xs (i + 2)) (xs (i + 3)) h ht) hst (WX_adr ..) rfl (WX_hd ..) rfl rfl hl.1 (fun _ => WX_adr ..) ⟨(Nat.le_of_ble_eq_true rfl), (Nat.le_of_ble_eq_true rfl)⟩ (rest := []) rfl (Nat.le_of_ble_eq_true rfl) dL_law_747 ⟨(Nat.le_of_ble_eq_true rfl), (Nat.le_of_ble_eq_true rfl)⟩ (fun J1 H locs hF hst => ?_)
  refine lv_aload_n hx hb dL_law_750 rfl (lv_at hl 3 rfl) ?_
  refine lv_aload_n hx hb dL_law_751 rfl (lv_at hl 1 rfl) ?_
  refine lv_iload_n hx hb dL_law_752 rfl (lv_at hl 0 rfl) ?_
  refine lv_iconst (v := 1) hx hb dL_law_753 (by decide) ?_
  refine lv_iadd hx hb dL_law_754 ?_
  refine q_top (x' := nI (i + 1)) (nI_add i 1) ?_
  refine va_sld hx hb hX hbl hbA hst.2.2 (vp_in_nI (show i + 1 < L by omega) (by omega)) dL_law_755 ?_
  refine q_top (x' := xs (i + 1)) (by rw [nI_clamp (by omega)]) ?_
  refine lv_aload_n hx hb dL_law_756 rfl (lv_at hl 1 rfl) ?_
  refine lv_iload_n hx hb dL_law_757 rfl (lv_at hl 0 rfl) ?_
  refine lv_iconst (v := 2) hx hb dL_law_758 (by decide) ?_
  refine lv_iadd hx hb dL_law_759 ?_
  refine q_top (x' := nI (i + 2)) (nI_add i 2) ?_
  refine va_sld hx hb hX hbl hbA hst.2.2 (vp_in_nI (show i + 2 < L by omega) (by omega)) dL_law_760 ?_
  refine q_top (x' := xs (i + 2)) (by rw [nI_clamp (by omega)]) ?_
  refine lv_aload_n hx hb dL_law_761 rfl (lv_at hl 1 rfl) ?_
  refine lv_iload_n hx hb dL_law_762 rfl (lv_at hl 0 rfl) ?_
  refine lv_iconst (v := 3) hx hb dL_law_763 (by decide) ?_
  refine lv_iadd hx hb dL_law_764 ?_
  refine q_top (x' := nI (i + 3)) (nI_add i 3) ?_
  refine va_sld hx hb hX hbl hbA hst.2.2 (vp_in_nI (show i + 3 < L by omega) (by omega)) dL_law_765 ?_
  refine q_top (x' := xs (i + 3)) (by rw [nI_clamp (by omega)]) ?_
  refine q_yL hE lk_L_90 (y_does l D cI cJ cZ bd K seF kF spF deF pF n ki bi pa la cut least seG kG spG deG pG nG kj bj pb lb cuG leG t0 tb ru hi (xs (i + 1)) (xs (i + 2)) (xs (i + 3)) h ht hm) hst (by rw [← List.length_map (f := fun q : Nat × va_E => q.1), WX_adr]; rfl) (WM_adr ..) rfl (WM_hd ..) rfl rfl hl.1 (fun _ => WM_adr ..) ⟨(Nat.le_of_ble_eq_true rfl), (Nat.le_of_ble_eq_true rfl)⟩ (rest := [.long (if ftf (!isJarB (xs (i + 1))) (!isJarB (xs (i + 3))) (!decide (0 ≤ (xs (i + 2)))) (!decide ((xs (i + 2)) ≤ 40)) = 0 then if dfB (calF cut (ndM seF kF spF deF pF (jx (xs (i + 1)))) bi) n = true then (if (xs (i + 3)) = 0 then dsA cut (ndM seF kF spF deF pF (jx (xs (i + 1)))) ki bi pa la (xs (i + 2)) n else dsB cut (ndM seF kF spF deF pF (jx (xs (i + 1)))) ki bi pa la (xs (i + 2)) n) else lgR (-3) else lgR (ftf (!isJarB (xs (i + 1))) (!isJarB (xs (i + 3))) (!decide (0 ≤ (xs (i + 2)))) (!decide ((xs (i + 2)) ≤ 40))))]) rfl (Nat.le_of_ble_eq_true rfl) dL_law_766 ⟨(Nat.le_of_ble_eq_true rfl), (Nat.le_of_ble_eq_true rfl)⟩ (fun K2 H locs hF hst => ?_)
  refine W.lcmp hx hb dL_law_769 ?_
  refine lv_if_eq (tgt := 1115) hx hb dL_law_770 (by decide) (fun c_ => ?_) (fun c_ => absurd (lc_eq.mpr rfl) c_)
  exact kk _ _ ⟨J1, K2, seF, kF, spF, deF, pF, n, ki, bi, pa, la, cut, least, seG, kG, spG, deG, pG, nG, kj, bj, pb, lb, cuG, leG, t0, tb, if ftf (!isJarB (xs (i + 1))) (!isJarB (xs (i + 3))) (!decide (0 ≤ (xs (i + 2)))) (!decide ((xs (i + 2)) ≤ 40)) = 0 then if dfB (calF cut (ndM seF kF spF deF pF (jx (xs (i + 1)))) bi) n = true then ru else bmp ru (-3) else bmp ru (ftf (!isJarB (xs (i + 1))) (!isJarB (xs (i + 3))) (!decide (0 ≤ (xs (i + 2)))) (!decide ((xs (i + 2)) ≤ 40))), hi, h, hg, ht, hF, hst⟩
set_option maxHeartbeats 4000000 in
set_option maxRecDepth 100000 in
theorem law_c17 (hE : EV p m c cL_law 4 s args RL D cI cJ cZ (fun q : Nat => s.heap.size ≤ q)) (hx : p.tables.exec = Jvm.exec) (hb : c.code = cL_law) (hX : va_X b L xs s s.heap) (hbl : b < s.heap.size) (hi6 : i + 6 ≤ L) (hL : L ≤ 3072) (hl : lv_has ls 4 [(3, .int (nI i)), (0, .ref b), (1, .ref (ad 0)), (2, .ref (bd 0))]) (hS : SW D cI cJ cZ (fun q : Nat => s.heap.size ≤ q) s ad bd H locs) (kk : ∀ (H : Heap) (locs : List Loc), SW D cI cJ cZ (fun q : Nat => s.heap.size ≤ q) s ad bd H locs → W p l e room_1 s m args below meth c H locs 59 6511 Q (F0 m 1115 ls [])) : W p l e room_1 s m args below meth c H locs 59 6511 Q (F0 m 775 ls []) := by
  have hbA : ¬ (fun q : Nat => s.heap.size ≤ q) b := Nat.not_le.mpr hbl
  obtain ⟨J, K, seF, kF, spF, deF, pF, n, ki, bi, pa, la, cut, least, seG, kG, spG, deG, pG, nG, kj, bj, pb, lb, cuG, leG, t0, tb, ru, hi, h, hg, ht, hm, hst⟩ := hS
  refine lv_aload_n hx hb dL_law_775 rfl (lv_at hl 2 rfl) ?_
  refine lv_aload_n hx hb dL_law_776 rfl (lv_at hl 1 rfl) ?_
  refine lv_iload_n hx hb dL_law_777 rfl (lv_at hl 0 rfl) ?_
  refine lv_iconst (v := 1) hx hb dL_law_778 (by decide) ?_
  refine lv_iadd hx hb dL_law_779 ?_
  refine q_top (x' := nI (i + 1)) (nI_add i 1) ?_
  refine va_sld hx hb hX hbl hbA hst.2.2 (vp_in_nI (show i + 1 < L by omega) (by omega)) dL_law_780 ?_
  refine q_top (x' := xs (i + 1)) (by rw [nI_clamp (by omega)]) ?_
  refine lv_aload_n hx hb dL_law_781 rfl (lv_at hl 1 rfl) ?_
  refine lv_iload_n hx hb dL_law_782 rfl (lv_at hl 0 rfl) ?_
  refine lv_iconst (v := 2) hx hb dL_law_783 (by decide) ?_
  refine lv_iadd hx hb dL_law_784 ?_
  refine q_top (x' := nI (i + 2)) (nI_add i 2) ?_
  refine va_sld hx hb hX hbl hbA hst.2.2 (vp_in_nI (show i + 2 < L by omega) (by omega)) dL_law_785 ?_
  refine q_top (x' := xs (i + 2)) (by rw [nI_clamp (by omega)]) ?_
  refine q_xL hE lk_L_91 (x_share l D cI cJ cZ ad J seF kF spF deF pF n ki bi pa la cut least seG kG spG deG pG nG kj bj pb lb cuG leG t0 tb ru hi (xs (i + 1)) (xs (i + 2)) h ht) hst (WX_adr ..) rfl (WX_hd ..) rfl rfl hl.1 (fun _ => WX_adr ..) ⟨(Nat.le_of_ble_eq_true rfl), (Nat.le_of_ble_eq_true rfl)⟩ (rest := []) rfl (Nat.le_of_ble_eq_true rfl) dL_law_786 ⟨(Nat.le_of_ble_eq_true rfl), (Nat.le_of_ble_eq_true rfl)⟩ (fun J1 H locs hF hst => ?_)
  refine lv_aload_n hx hb dL_law_789 rfl (lv_at hl 3 rfl) ?_
  refine lv_aload_n hx hb dL_law_790 rfl (lv_at hl 1 rfl) ?_
  refine lv_iload_n hx hb dL_law_791 rfl (lv_at hl 0 rfl) ?_
  refine lv_iconst (v := 1) hx hb dL_law_792 (by decide) ?_
  refine lv_iadd hx hb dL_law_793 ?_
  refine q_top (x' := nI (i + 1)) (nI_add i 1) ?_
  refine va_sld hx hb hX hbl hbA hst.2.2 (vp_in_nI (show i + 1 < L by omega) (by omega)) dL_law_794 ?_
  refine q_top (x' := xs (i + 1)) (by rw [nI_clamp (by omega)]) ?_
  refine lv_aload_n hx hb dL_law_795 rfl (lv_at hl 1 rfl) ?_
  refine lv_iload_n hx hb dL_law_796 rfl (lv_at hl 0 rfl) ?_
  refine lv_iconst (v := 2) hx hb dL_law_797 (by decide) ?_
  refine lv_iadd hx hb dL_law_798 ?_
  refine q_top (x' := nI (i + 2)) (nI_add i 2) ?_
  refine va_sld hx hb hX hbl hbA hst.2.2 (vp_in_nI (show i + 2 < L by omega) (by omega)) dL_law_799 ?_
  refine q_top (x' := xs (i + 2)) (by rw [nI_clamp (by omega)]) ?_
  refine q_yL hE lk_L_95 (y_share l D cI cJ cZ bd K seF kF spF deF pF n ki bi pa la cut least seG kG spG deG pG nG kj bj pb lb cuG leG t0 tb ru hi (xs (i + 1)) (xs (i + 2)) h ht hm) hst (by rw [← List.length_map (f := fun q : Nat × va_E => q.1), WX_adr]; rfl) (WM_adr ..) rfl (WM_hd ..) rfl rfl hl.1 (fun _ => WM_adr ..) ⟨(Nat.le_of_ble_eq_true rfl), (Nat.le_of_ble_eq_true rfl)⟩ (rest := [.long (if ftf (!isJarB (xs (i + 1))) (!isJarB (xs (i + 2))) false false = 0 then if dfB (calF cut (ndM seF kF spF deF pF (jx (xs (i + 1)))) bi) n = true then (if (xs (i + 2)) = 0 then srA cut (ndM seF kF spF deF pF (jx (xs (i + 1)))) ki bi n else srB cut (ndM seF kF spF deF pF (jx (xs (i + 1)))) ki bi n) else lgR (-3) else lgR (ftf (!isJarB (xs (i + 1))) (!isJarB (xs (i + 2))) false false))]) rfl (Nat.le_of_ble_eq_true rfl) dL_law_800 ⟨(Nat.le_of_ble_eq_true rfl), (Nat.le_of_ble_eq_true rfl)⟩ (fun K2 H locs hF hst => ?_)
  refine W.lcmp hx hb dL_law_803 ?_
  refine lv_if_eq (tgt := 1115) hx hb dL_law_804 (by decide) (fun c_ => ?_) (fun c_ => absurd (lc_eq.mpr rfl) c_)
  exact kk _ _ ⟨J1, K2, seF, kF, spF, deF, pF, n, ki, bi, pa, la, cut, least, seG, kG, spG, deG, pG, nG, kj, bj, pb, lb, cuG, leG, t0, tb, if ftf (!isJarB (xs (i + 1))) (!isJarB (xs (i + 2))) false false = 0 then if dfB (calF cut (ndM seF kF spF deF pF (jx (xs (i + 1)))) bi) n = true then ru else bmp ru (-3) else bmp ru (ftf (!isJarB (xs (i + 1))) (!isJarB (xs (i + 2))) false false), hi, h, hg, ht, hF, hst⟩
set_option maxHeartbeats 4000000 in
set_option maxRecDepth 100000 in
theorem law_c18 (hE : EV p m c cL_law 4 s args RL D cI cJ cZ (fun q : Nat => s.heap.size ≤ q)) (hx : p.tables.exec = Jvm.exec) (hb : c.code = cL_law) (hX : va_X b L xs s s.heap) (hbl : b < s.heap.size) (hi6 : i + 6 ≤ L) (hL : L ≤ 3072) (hl : lv_has ls 4 [(3, .int (nI i)), (0, .ref b), (1, .ref (ad 0)), (2, .ref (bd 0))]) (hS : SW D cI cJ cZ (fun q : Nat => s.heap.size ≤ q) s ad bd H locs) (kk : ∀ (H : Heap) (locs : List Loc), SW D cI cJ cZ (fun q : Nat => s.heap.size ≤ q) s ad bd H locs → W p l e room_1 s m args below meth c H locs 59 6511 Q (F0 m 1115 ls [])) : W p l e room_1 s m args below meth c H locs 59 6511 Q (F0 m 809 ls []) := by
  have hbA : ¬ (fun q : Nat => s.heap.size ≤ q) b := Nat.not_le.mpr hbl
  obtain ⟨J, K, seF, kF, spF, deF, pF, n, ki, bi, pa, la, cut, least, seG, kG, spG, deG, pG, nG, kj, bj, pb, lb, cuG, leG, t0, tb, ru, hi, h, hg, ht, hm, hst⟩ := hS
  refine lv_aload_n hx hb dL_law_809 rfl (lv_at hl 2 rfl) ?_
  refine lv_aload_n hx hb dL_law_810 rfl (lv_at hl 1 rfl) ?_
  refine lv_iload_n hx hb dL_law_811 rfl (lv_at hl 0 rfl) ?_
  refine lv_iconst (v := 1) hx hb dL_law_812 (by decide) ?_
  refine lv_iadd hx hb dL_law_813 ?_
  refine q_top (x' := nI (i + 1)) (nI_add i 1) ?_
  refine va_sld hx hb hX hbl hbA hst.2.2 (vp_in_nI (show i + 1 < L by omega) (by omega)) dL_law_814 ?_
  refine q_top (x' := xs (i + 1)) (by rw [nI_clamp (by omega)]) ?_
  refine lv_aload_n hx hb dL_law_815 rfl (lv_at hl 1 rfl) ?_
  refine lv_iload_n hx hb dL_law_816 rfl (lv_at hl 0 rfl) ?_
  refine lv_iconst (v := 2) hx hb dL_law_817 (by decide) ?_
  refine lv_iadd hx hb dL_law_818 ?_
  refine q_top (x' := nI (i + 2)) (nI_add i 2) ?_
  refine va_sld hx hb hX hbl hbA hst.2.2 (vp_in_nI (show i + 2 < L by omega) (by omega)) dL_law_819 ?_
  refine q_top (x' := xs (i + 2)) (by rw [nI_clamp (by omega)]) ?_
  refine lv_aload_n hx hb dL_law_820 rfl (lv_at hl 1 rfl) ?_
  refine lv_iload_n hx hb dL_law_821 rfl (lv_at hl 0 rfl) ?_
  refine lv_iconst (v := 3) hx hb dL_law_822 (by decide) ?_
  refine lv_iadd hx hb dL_law_823 ?_
  refine q_top (x' := nI (i + 3)) (nI_add i 3) ?_
  refine va_sld hx hb hX hbl hbA hst.2.2 (vp_in_nI (show i + 3 < L by omega) (by omega)) dL_law_824 ?_
  refine q_top (x' := xs (i + 3)) (by rw [nI_clamp (by omega)]) ?_
  refine q_xL hE lk_L_96 (x_serving l D cI cJ cZ ad J seF kF spF deF pF n ki bi pa la cut least seG kG spG deG pG nG kj bj pb lb cuG leG t0 tb ru hi (xs (i + 1)) (xs (i + 2)) (xs (i + 3)) h ht) hst (WX_adr ..) rfl (WX_hd ..) rfl rfl hl.1 (fun _ => WX_adr ..) ⟨(Nat.le_of_ble_eq_true rfl), (Nat.le_of_ble_eq_true rfl)⟩ (rest := []) rfl (Nat.le_of_ble_eq_true rfl) dL_law_825 ⟨(Nat.le_of_ble_eq_true rfl), (Nat.le_of_ble_eq_true rfl)⟩ (fun J1 H locs hF hst => ?_)
  refine lv_aload_n hx hb dL_law_828 rfl (lv_at hl 3 rfl) ?_
  refine lv_aload_n hx hb dL_law_829 rfl (lv_at hl 1 rfl) ?_
  refine lv_iload_n hx hb dL_law_830 rfl (lv_at hl 0 rfl) ?_
  refine lv_iconst (v := 1) hx hb dL_law_831 (by decide) ?_
  refine lv_iadd hx hb dL_law_832 ?_
  refine q_top (x' := nI (i + 1)) (nI_add i 1) ?_
  refine va_sld hx hb hX hbl hbA hst.2.2 (vp_in_nI (show i + 1 < L by omega) (by omega)) dL_law_833 ?_
  refine q_top (x' := xs (i + 1)) (by rw [nI_clamp (by omega)]) ?_
  refine lv_aload_n hx hb dL_law_834 rfl (lv_at hl 1 rfl) ?_
  refine lv_iload_n hx hb dL_law_835 rfl (lv_at hl 0 rfl) ?_
  refine lv_iconst (v := 2) hx hb dL_law_836 (by decide) ?_
  refine lv_iadd hx hb dL_law_837 ?_
  refine q_top (x' := nI (i + 2)) (nI_add i 2) ?_
  refine va_sld hx hb hX hbl hbA hst.2.2 (vp_in_nI (show i + 2 < L by omega) (by omega)) dL_law_838 ?_
  refine q_top (x' := xs (i + 2)) (by rw [nI_clamp (by omega)]) ?_
  refine lv_aload_n hx hb dL_law_839 rfl (lv_at hl 1 rfl) ?_
  refine lv_iload_n hx hb dL_law_840 rfl (lv_at hl 0 rfl) ?_
  refine lv_iconst (v := 3) hx hb dL_law_841 (by decide) ?_
  refine lv_iadd hx hb dL_law_842 ?_
  refine q_top (x' := nI (i + 3)) (nI_add i 3) ?_
  refine va_sld hx hb hX hbl hbA hst.2.2 (vp_in_nI (show i + 3 < L by omega) (by omega)) dL_law_843 ?_
  refine q_top (x' := xs (i + 3)) (by rw [nI_clamp (by omega)]) ?_
  refine q_yL hE lk_L_99 (y_serving l D cI cJ cZ bd K seF kF spF deF pF n ki bi pa la cut least seG kG spG deG pG nG kj bj pb lb cuG leG t0 tb ru hi (xs (i + 1)) (xs (i + 2)) (xs (i + 3)) h ht hm) hst (by rw [← List.length_map (f := fun q : Nat × va_E => q.1), WX_adr]; rfl) (WM_adr ..) rfl (WM_hd ..) rfl rfl hl.1 (fun _ => WM_adr ..) ⟨(Nat.le_of_ble_eq_true rfl), (Nat.le_of_ble_eq_true rfl)⟩ (rest := [.long (if ftf (!isJarB (xs (i + 1))) (!isJarB (xs (i + 3))) (!decide (0 ≤ (xs (i + 2)))) (!decide ((xs (i + 2)) ≤ 40)) = 0 then if svB cut (ndM seF kF spF deF pF (jx (xs (i + 1)))) ki bi n = true then (if (xs (i + 3)) = 0 then becA (svN cut (ndM seF kF spF deF pF (jx (xs (i + 1)))) ki bi pa la (xs (i + 2)) n) (svD cut (ndM seF kF spF deF pF (jx (xs (i + 1)))) ki bi pa la (xs (i + 2)) n) else becB (svN cut (ndM seF kF spF deF pF (jx (xs (i + 1)))) ki bi pa la (xs (i + 2)) n) (svD cut (ndM seF kF spF deF pF (jx (xs (i + 1)))) ki bi pa la (xs (i + 2)) n)) else lgR (-3) else lgR (ftf (!isJarB (xs (i + 1))) (!isJarB (xs (i + 3))) (!decide (0 ≤ (xs (i + 2)))) (!decide ((xs (i + 2)) ≤ 40))))]) rfl (Nat.le_of_ble_eq_true rfl) dL_law_844 ⟨(Nat.le_of_ble_eq_true rfl), (Nat.le_of_ble_eq_true rfl)⟩ (fun K2 H locs hF hst => ?_)
  refine W.lcmp hx hb dL_law_847 ?_
  refine lv_if_eq (tgt := 1115) hx hb dL_law_848 (by decide) (fun c_ => ?_) (fun c_ => absurd (lc_eq.mpr rfl) c_)
  exact kk _ _ ⟨J1, K2, seF, kF, spF, deF, pF, n, ki, bi, pa, la, cut, least, seG, kG, spG, deG, pG, nG, kj, bj, pb, lb, cuG, leG, t0, tb, if ftf (!isJarB (xs (i + 1))) (!isJarB (xs (i + 3))) (!decide (0 ≤ (xs (i + 2)))) (!decide ((xs (i + 2)) ≤ 40)) = 0 then if svB cut (ndM seF kF spF deF pF (jx (xs (i + 1)))) ki bi n = true then ru else bmp ru (-3) else bmp ru (ftf (!isJarB (xs (i + 1))) (!isJarB (xs (i + 3))) (!decide (0 ≤ (xs (i + 2)))) (!decide ((xs (i + 2)) ≤ 40))), hi, h, hg, ht, hF, hst⟩
set_option maxHeartbeats 4000000 in
set_option maxRecDepth 100000 in
theorem law_c19 (hE : EV p m c cL_law 4 s args RL D cI cJ cZ (fun q : Nat => s.heap.size ≤ q)) (hx : p.tables.exec = Jvm.exec) (hb : c.code = cL_law) (hX : va_X b L xs s s.heap) (hbl : b < s.heap.size) (hi6 : i + 6 ≤ L) (hL : L ≤ 3072) (hl : lv_has ls 4 [(3, .int (nI i)), (0, .ref b), (1, .ref (ad 0)), (2, .ref (bd 0))]) (hS : SW D cI cJ cZ (fun q : Nat => s.heap.size ≤ q) s ad bd H locs) (kk : ∀ (H : Heap) (locs : List Loc), SW D cI cJ cZ (fun q : Nat => s.heap.size ≤ q) s ad bd H locs → W p l e room_1 s m args below meth c H locs 59 6511 Q (F0 m 1115 ls [])) : W p l e room_1 s m args below meth c H locs 59 6511 Q (F0 m 853 ls []) := by
  have hbA : ¬ (fun q : Nat => s.heap.size ≤ q) b := Nat.not_le.mpr hbl
  obtain ⟨J, K, seF, kF, spF, deF, pF, n, ki, bi, pa, la, cut, least, seG, kG, spG, deG, pG, nG, kj, bj, pb, lb, cuG, leG, t0, tb, ru, hi, h, hg, ht, hm, hst⟩ := hS
  refine lv_aload_n hx hb dL_law_853 rfl (lv_at hl 2 rfl) ?_
  refine lv_aload_n hx hb dL_law_854 rfl (lv_at hl 1 rfl) ?_
  refine lv_iload_n hx hb dL_law_855 rfl (lv_at hl 0 rfl) ?_
  refine lv_iconst (v := 1) hx hb dL_law_856 (by decide) ?_
  refine lv_iadd hx hb dL_law_857 ?_
  refine q_top (x' := nI (i + 1)) (nI_add i 1) ?_
  refine va_sld hx hb hX hbl hbA hst.2.2 (vp_in_nI (show i + 1 < L by omega) (by omega)) dL_law_858 ?_
  refine q_top (x' := xs (i + 1)) (by rw [nI_clamp (by omega)]) ?_
  refine lv_aload_n hx hb dL_law_859 rfl (lv_at hl 1 rfl) ?_
  refine lv_iload_n hx hb dL_law_860 rfl (lv_at hl 0 rfl) ?_
  refine lv_iconst (v := 2) hx hb dL_law_861 (by decide) ?_
  refine lv_iadd hx hb dL_law_862 ?_
  refine q_top (x' := nI (i + 2)) (nI_add i 2) ?_
  refine va_sld hx hb hX hbl hbA hst.2.2 (vp_in_nI (show i + 2 < L by omega) (by omega)) dL_law_863 ?_
  refine q_top (x' := xs (i + 2)) (by rw [nI_clamp (by omega)]) ?_
  refine lv_aload_n hx hb dL_law_864 rfl (lv_at hl 1 rfl) ?_
  refine lv_iload_n hx hb dL_law_865 rfl (lv_at hl 0 rfl) ?_
  refine lv_iconst (v := 3) hx hb dL_law_866 (by decide) ?_
  refine lv_iadd hx hb dL_law_867 ?_
  refine q_top (x' := nI (i + 3)) (nI_add i 3) ?_
  refine va_sld hx hb hX hbl hbA hst.2.2 (vp_in_nI (show i + 3 < L by omega) (by omega)) dL_law_868 ?_
  refine q_top (x' := xs (i + 3)) (by rw [nI_clamp (by omega)]) ?_
  refine q_xL hE lk_L_100 (x_truly l D cI cJ cZ ad J seF kF spF deF pF n ki bi pa la cut least seG kG spG deG pG nG kj bj pb lb cuG leG t0 tb ru hi (xs (i + 1)) (xs (i + 2)) (xs (i + 3)) h ht) hst (WX_adr ..) rfl (WX_hd ..) rfl rfl hl.1 (fun _ => WX_adr ..) ⟨(Nat.le_of_ble_eq_true rfl), (Nat.le_of_ble_eq_true rfl)⟩ (rest := []) rfl (Nat.le_of_ble_eq_true rfl) dL_law_869 ⟨(Nat.le_of_ble_eq_true rfl), (Nat.le_of_ble_eq_true rfl)⟩ (fun J1 H locs hF hst => ?_)
  refine lv_aload_n hx hb dL_law_872 rfl (lv_at hl 3 rfl) ?_
  refine lv_aload_n hx hb dL_law_873 rfl (lv_at hl 1 rfl) ?_
  refine lv_iload_n hx hb dL_law_874 rfl (lv_at hl 0 rfl) ?_
  refine lv_iconst (v := 1) hx hb dL_law_875 (by decide) ?_
  refine lv_iadd hx hb dL_law_876 ?_
  refine q_top (x' := nI (i + 1)) (nI_add i 1) ?_
  refine va_sld hx hb hX hbl hbA hst.2.2 (vp_in_nI (show i + 1 < L by omega) (by omega)) dL_law_877 ?_
  refine q_top (x' := xs (i + 1)) (by rw [nI_clamp (by omega)]) ?_
  refine lv_aload_n hx hb dL_law_878 rfl (lv_at hl 1 rfl) ?_
  refine lv_iload_n hx hb dL_law_879 rfl (lv_at hl 0 rfl) ?_
  refine lv_iconst (v := 2) hx hb dL_law_880 (by decide) ?_
  refine lv_iadd hx hb dL_law_881 ?_
  refine q_top (x' := nI (i + 2)) (nI_add i 2) ?_
  refine va_sld hx hb hX hbl hbA hst.2.2 (vp_in_nI (show i + 2 < L by omega) (by omega)) dL_law_882 ?_
  refine q_top (x' := xs (i + 2)) (by rw [nI_clamp (by omega)]) ?_
  refine lv_aload_n hx hb dL_law_883 rfl (lv_at hl 1 rfl) ?_
  refine lv_iload_n hx hb dL_law_884 rfl (lv_at hl 0 rfl) ?_
  refine lv_iconst (v := 3) hx hb dL_law_885 (by decide) ?_
  refine lv_iadd hx hb dL_law_886 ?_
  refine q_top (x' := nI (i + 3)) (nI_add i 3) ?_
  refine va_sld hx hb hX hbl hbA hst.2.2 (vp_in_nI (show i + 3 < L by omega) (by omega)) dL_law_887 ?_
  refine q_top (x' := xs (i + 3)) (by rw [nI_clamp (by omega)]) ?_
  refine q_yL hE lk_L_103 (y_truly l D cI cJ cZ bd K seF kF spF deF pF n ki bi pa la cut least seG kG spG deG pG nG kj bj pb lb cuG leG t0 tb ru hi (xs (i + 1)) (xs (i + 2)) (xs (i + 3)) h ht hm) hst (by rw [← List.length_map (f := fun q : Nat × va_E => q.1), WX_adr]; rfl) (WM_adr ..) rfl (WM_hd ..) rfl rfl hl.1 (fun _ => WM_adr ..) ⟨(Nat.le_of_ble_eq_true rfl), (Nat.le_of_ble_eq_true rfl)⟩ (rest := [.long (if ftf (!isJarB (xs (i + 1))) (!isJarB (xs (i + 3))) (!decide (0 ≤ (xs (i + 2)))) (!decide ((xs (i + 2)) ≤ 40)) = 0 then if exB (fun m => tkB (ki m) (evB (mnum (ndM seF kF spF deF pF (jx (xs (i + 1)))) bi m))) n = true then (if (xs (i + 3)) = 0 then becA (trV la (xs (i + 2))) 1 else becB (trV la (xs (i + 2))) 1) else lgR (-3) else lgR (ftf (!isJarB (xs (i + 1))) (!isJarB (xs (i + 3))) (!decide (0 ≤ (xs (i + 2)))) (!decide ((xs (i + 2)) ≤ 40))))]) rfl (Nat.le_of_ble_eq_true rfl) dL_law_888 ⟨(Nat.le_of_ble_eq_true rfl), (Nat.le_of_ble_eq_true rfl)⟩ (fun K2 H locs hF hst => ?_)
  refine W.lcmp hx hb dL_law_891 ?_
  refine lv_if_eq (tgt := 1115) hx hb dL_law_892 (by decide) (fun c_ => ?_) (fun c_ => absurd (lc_eq.mpr rfl) c_)
  exact kk _ _ ⟨J1, K2, seF, kF, spF, deF, pF, n, ki, bi, pa, la, cut, least, seG, kG, spG, deG, pG, nG, kj, bj, pb, lb, cuG, leG, t0, tb, if ftf (!isJarB (xs (i + 1))) (!isJarB (xs (i + 3))) (!decide (0 ≤ (xs (i + 2)))) (!decide ((xs (i + 2)) ≤ 40)) = 0 then if exB (fun m => tkB (ki m) (evB (mnum (ndM seF kF spF deF pF (jx (xs (i + 1)))) bi m))) n = true then ru else bmp ru (-3) else bmp ru (ftf (!isJarB (xs (i + 1))) (!isJarB (xs (i + 3))) (!decide (0 ≤ (xs (i + 2)))) (!decide ((xs (i + 2)) ≤ 40))), hi, h, hg, ht, hF, hst⟩
set_option maxHeartbeats 4000000 in
set_option maxRecDepth 100000 in
theorem law_c20 (hE : EV p m c cL_law 4 s args RL D cI cJ cZ (fun q : Nat => s.heap.size ≤ q)) (hx : p.tables.exec = Jvm.exec) (hb : c.code = cL_law) (hX : va_X b L xs s s.heap) (hbl : b < s.heap.size) (hi6 : i + 6 ≤ L) (hL : L ≤ 3072) (hl : lv_has ls 4 [(3, .int (nI i)), (0, .ref b), (1, .ref (ad 0)), (2, .ref (bd 0))]) (hS : SW D cI cJ cZ (fun q : Nat => s.heap.size ≤ q) s ad bd H locs) (kk : ∀ (H : Heap) (locs : List Loc), SW D cI cJ cZ (fun q : Nat => s.heap.size ≤ q) s ad bd H locs → W p l e room_1 s m args below meth c H locs 59 6511 Q (F0 m 1115 ls [])) : W p l e room_1 s m args below meth c H locs 59 6511 Q (F0 m 897 ls []) := by
  have hbA : ¬ (fun q : Nat => s.heap.size ≤ q) b := Nat.not_le.mpr hbl
  obtain ⟨J, K, seF, kF, spF, deF, pF, n, ki, bi, pa, la, cut, least, seG, kG, spG, deG, pG, nG, kj, bj, pb, lb, cuG, leG, t0, tb, ru, hi, h, hg, ht, hm, hst⟩ := hS
  refine lv_aload_n hx hb dL_law_897 rfl (lv_at hl 2 rfl) ?_
  refine lv_aload_n hx hb dL_law_898 rfl (lv_at hl 1 rfl) ?_
  refine lv_iload_n hx hb dL_law_899 rfl (lv_at hl 0 rfl) ?_
  refine lv_iconst (v := 1) hx hb dL_law_900 (by decide) ?_
  refine lv_iadd hx hb dL_law_901 ?_
  refine q_top (x' := nI (i + 1)) (nI_add i 1) ?_
  refine va_sld hx hb hX hbl hbA hst.2.2 (vp_in_nI (show i + 1 < L by omega) (by omega)) dL_law_902 ?_
  refine q_top (x' := xs (i + 1)) (by rw [nI_clamp (by omega)]) ?_
  refine lv_aload_n hx hb dL_law_903 rfl (lv_at hl 1 rfl) ?_
  refine lv_iload_n hx hb dL_law_904 rfl (lv_at hl 0 rfl) ?_
  refine lv_iconst (v := 2) hx hb dL_law_905 (by decide) ?_
  refine lv_iadd hx hb dL_law_906 ?_
  refine q_top (x' := nI (i + 2)) (nI_add i 2) ?_
  refine va_sld hx hb hX hbl hbA hst.2.2 (vp_in_nI (show i + 2 < L by omega) (by omega)) dL_law_907 ?_
  refine q_top (x' := xs (i + 2)) (by rw [nI_clamp (by omega)]) ?_
  refine q_xI hE lk_L_104 (x_faded l D cI cJ cZ ad J seF kF spF deF pF n ki bi pa la cut least seG kG spG deG pG nG kj bj pb lb cuG leG t0 tb ru hi (xs (i + 1)) (xs (i + 2)) h ht) hst (WX_adr ..) rfl (WX_hd ..) rfl rfl hl.1 (fun _ => WX_adr ..) ⟨(Nat.le_of_ble_eq_true rfl), (Nat.le_of_ble_eq_true rfl)⟩ (rest := []) rfl (Nat.le_of_ble_eq_true rfl) dL_law_908 ⟨(Nat.le_of_ble_eq_true rfl), (Nat.le_of_ble_eq_true rfl)⟩ (fun J1 H locs hF hst => ?_)
  refine lv_aload_n hx hb dL_law_911 rfl (lv_at hl 3 rfl) ?_
  refine lv_aload_n hx hb dL_law_912 rfl (lv_at hl 1 rfl) ?_
  refine lv_iload_n hx hb dL_law_913 rfl (lv_at hl 0 rfl) ?_
  refine lv_iconst (v := 1) hx hb dL_law_914 (by decide) ?_
  refine lv_iadd hx hb dL_law_915 ?_
  refine q_top (x' := nI (i + 1)) (nI_add i 1) ?_
  refine va_sld hx hb hX hbl hbA hst.2.2 (vp_in_nI (show i + 1 < L by omega) (by omega)) dL_law_916 ?_
  refine q_top (x' := xs (i + 1)) (by rw [nI_clamp (by omega)]) ?_
  refine lv_aload_n hx hb dL_law_917 rfl (lv_at hl 1 rfl) ?_
  refine lv_iload_n hx hb dL_law_918 rfl (lv_at hl 0 rfl) ?_
  refine lv_iconst (v := 2) hx hb dL_law_919 (by decide) ?_
  refine lv_iadd hx hb dL_law_920 ?_
  refine q_top (x' := nI (i + 2)) (nI_add i 2) ?_
  refine va_sld hx hb hX hbl hbA hst.2.2 (vp_in_nI (show i + 2 < L by omega) (by omega)) dL_law_921 ?_
  refine q_top (x' := xs (i + 2)) (by rw [nI_clamp (by omega)]) ?_
  refine q_yI hE lk_L_107 (y_faded l D cI cJ cZ bd K seF kF spF deF pF n ki bi pa la cut least seG kG spG deG pG nG kj bj pb lb cuG leG t0 tb ru hi (xs (i + 1)) (xs (i + 2)) h ht hm) hst (by rw [← List.length_map (f := fun q : Nat × va_E => q.1), WX_adr]; rfl) (WM_adr ..) rfl (WM_hd ..) rfl rfl hl.1 (fun _ => WM_adr ..) ⟨(Nat.le_of_ble_eq_true rfl), (Nat.le_of_ble_eq_true rfl)⟩ (rest := [.int (if ftf (!isJarB (xs (i + 1))) false (!decide (0 ≤ (xs (i + 2)))) (!decide ((xs (i + 2)) ≤ 9999)) = 0 then fadL (fun y => dfB (calF cut (ndM seF kF spF deF pF (jx (xs (i + 1)))) bi) n && decide (absL (dsA cut (ndM seF kF spF deF pF (jx (xs (i + 1)))) ki bi pa la (nI y) n) ≤ (xs (i + 2)).toInt64 * dsB cut (ndM seF kF spF deF pF (jx (xs (i + 1)))) ki bi pa la (nI y) n)) 41 0 else (ftf (!isJarB (xs (i + 1))) false (!decide (0 ≤ (xs (i + 2)))) (!decide ((xs (i + 2)) ≤ 9999))))]) rfl (Nat.le_of_ble_eq_true rfl) dL_law_922 ⟨(Nat.le_of_ble_eq_true rfl), (Nat.le_of_ble_eq_true rfl)⟩ (fun K2 H locs hF hst => ?_)
  refine lv_icmp_eq (tgt := 1115) hx hb dL_law_925 (by decide) (fun c_ => ?_) (fun c_ => absurd rfl c_)
  exact kk _ _ ⟨J1, K2, seF, kF, spF, deF, pF, n, ki, bi, pa, la, cut, least, seG, kG, spG, deG, pG, nG, kj, bj, pb, lb, cuG, leG, t0, tb, if ftf (!isJarB (xs (i + 1))) false (!decide (0 ≤ (xs (i + 2)))) (!decide ((xs (i + 2)) ≤ 9999)) = 0 then ru else bmp ru (ftf (!isJarB (xs (i + 1))) false (!decide (0 ≤ (xs (i + 2)))) (!decide ((xs (i + 2)) ≤ 9999))), hi, h, hg, ht, hF, hst⟩
set_option maxHeartbeats 4000000 in
set_option maxRecDepth 100000 in
theorem law_c21 (hE : EV p m c cL_law 4 s args RL D cI cJ cZ (fun q : Nat => s.heap.size ≤ q)) (hx : p.tables.exec = Jvm.exec) (hb : c.code = cL_law) (hX : va_X b L xs s s.heap) (hbl : b < s.heap.size) (hi6 : i + 6 ≤ L) (hL : L ≤ 3072) (hl : lv_has ls 4 [(3, .int (nI i)), (0, .ref b), (1, .ref (ad 0)), (2, .ref (bd 0))]) (hS : SW D cI cJ cZ (fun q : Nat => s.heap.size ≤ q) s ad bd H locs) (kk : ∀ (H : Heap) (locs : List Loc), SW D cI cJ cZ (fun q : Nat => s.heap.size ≤ q) s ad bd H locs → W p l e room_1 s m args below meth c H locs 59 6511 Q (F0 m 1115 ls [])) : W p l e room_1 s m args below meth c H locs 59 6511 Q (F0 m 930 ls []) := by
  have hbA : ¬ (fun q : Nat => s.heap.size ≤ q) b := Nat.not_le.mpr hbl
  obtain ⟨J, K, seF, kF, spF, deF, pF, n, ki, bi, pa, la, cut, least, seG, kG, spG, deG, pG, nG, kj, bj, pb, lb, cuG, leG, t0, tb, ru, hi, h, hg, ht, hm, hst⟩ := hS
  refine lv_aload_n hx hb dL_law_930 rfl (lv_at hl 2 rfl) ?_
  refine lv_aload_n hx hb dL_law_931 rfl (lv_at hl 1 rfl) ?_
  refine lv_iload_n hx hb dL_law_932 rfl (lv_at hl 0 rfl) ?_
  refine lv_iconst (v := 1) hx hb dL_law_933 (by decide) ?_
  refine lv_iadd hx hb dL_law_934 ?_
  refine q_top (x' := nI (i + 1)) (nI_add i 1) ?_
  refine va_sld hx hb hX hbl hbA hst.2.2 (vp_in_nI (show i + 1 < L by omega) (by omega)) dL_law_935 ?_
  refine q_top (x' := xs (i + 1)) (by rw [nI_clamp (by omega)]) ?_
  refine lv_aload_n hx hb dL_law_936 rfl (lv_at hl 1 rfl) ?_
  refine lv_iload_n hx hb dL_law_937 rfl (lv_at hl 0 rfl) ?_
  refine lv_iconst (v := 2) hx hb dL_law_938 (by decide) ?_
  refine lv_iadd hx hb dL_law_939 ?_
  refine q_top (x' := nI (i + 2)) (nI_add i 2) ?_
  refine va_sld hx hb hX hbl hbA hst.2.2 (vp_in_nI (show i + 2 < L by omega) (by omega)) dL_law_940 ?_
  refine q_top (x' := xs (i + 2)) (by rw [nI_clamp (by omega)]) ?_
  refine lv_aload_n hx hb dL_law_941 rfl (lv_at hl 1 rfl) ?_
  refine lv_iload_n hx hb dL_law_942 rfl (lv_at hl 0 rfl) ?_
  refine lv_iconst (v := 3) hx hb dL_law_943 (by decide) ?_
  refine lv_iadd hx hb dL_law_944 ?_
  refine q_top (x' := nI (i + 3)) (nI_add i 3) ?_
  refine va_sld hx hb hX hbl hbA hst.2.2 (vp_in_nI (show i + 3 < L by omega) (by omega)) dL_law_945 ?_
  refine q_top (x' := xs (i + 3)) (by rw [nI_clamp (by omega)]) ?_
  refine lv_aload_n hx hb dL_law_946 rfl (lv_at hl 1 rfl) ?_
  refine lv_iload_n hx hb dL_law_947 rfl (lv_at hl 0 rfl) ?_
  refine lv_iconst (v := 4) hx hb dL_law_948 (by decide) ?_
  refine lv_iadd hx hb dL_law_949 ?_
  refine q_top (x' := nI (i + 4)) (nI_add i 4) ?_
  refine va_sld hx hb hX hbl hbA hst.2.2 (vp_in_nI (show i + 4 < L by omega) (by omega)) dL_law_950 ?_
  refine q_top (x' := xs (i + 4)) (by rw [nI_clamp (by omega)]) ?_
  refine q_xL hE lk_L_108 (x_group l D cI cJ cZ ad J seF kF spF deF pF n ki bi pa la cut least seG kG spG deG pG nG kj bj pb lb cuG leG t0 tb ru hi (xs (i + 1)) (xs (i + 2)) (xs (i + 3)) (xs (i + 4)) h ht) hst (WX_adr ..) rfl (WX_hd ..) rfl rfl hl.1 (fun _ => WX_adr ..) ⟨(Nat.le_of_ble_eq_true rfl), (Nat.le_of_ble_eq_true rfl)⟩ (rest := []) rfl (Nat.le_of_ble_eq_true rfl) dL_law_951 ⟨(Nat.le_of_ble_eq_true rfl), (Nat.le_of_ble_eq_true rfl)⟩ (fun J1 H locs hF hst => ?_)
  refine lv_aload_n hx hb dL_law_954 rfl (lv_at hl 3 rfl) ?_
  refine lv_aload_n hx hb dL_law_955 rfl (lv_at hl 1 rfl) ?_
  refine lv_iload_n hx hb dL_law_956 rfl (lv_at hl 0 rfl) ?_
  refine lv_iconst (v := 1) hx hb dL_law_957 (by decide) ?_
  refine lv_iadd hx hb dL_law_958 ?_
  refine q_top (x' := nI (i + 1)) (nI_add i 1) ?_
  refine va_sld hx hb hX hbl hbA hst.2.2 (vp_in_nI (show i + 1 < L by omega) (by omega)) dL_law_959 ?_
  refine q_top (x' := xs (i + 1)) (by rw [nI_clamp (by omega)]) ?_
  refine lv_aload_n hx hb dL_law_960 rfl (lv_at hl 1 rfl) ?_
  refine lv_iload_n hx hb dL_law_961 rfl (lv_at hl 0 rfl) ?_
  refine lv_iconst (v := 2) hx hb dL_law_962 (by decide) ?_
  refine lv_iadd hx hb dL_law_963 ?_
  refine q_top (x' := nI (i + 2)) (nI_add i 2) ?_
  refine va_sld hx hb hX hbl hbA hst.2.2 (vp_in_nI (show i + 2 < L by omega) (by omega)) dL_law_964 ?_
  refine q_top (x' := xs (i + 2)) (by rw [nI_clamp (by omega)]) ?_
  refine lv_aload_n hx hb dL_law_965 rfl (lv_at hl 1 rfl) ?_
  refine lv_iload_n hx hb dL_law_966 rfl (lv_at hl 0 rfl) ?_
  refine lv_iconst (v := 3) hx hb dL_law_967 (by decide) ?_
  refine lv_iadd hx hb dL_law_968 ?_
  refine q_top (x' := nI (i + 3)) (nI_add i 3) ?_
  refine va_sld hx hb hX hbl hbA hst.2.2 (vp_in_nI (show i + 3 < L by omega) (by omega)) dL_law_969 ?_
  refine q_top (x' := xs (i + 3)) (by rw [nI_clamp (by omega)]) ?_
  refine lv_aload_n hx hb dL_law_970 rfl (lv_at hl 1 rfl) ?_
  refine lv_iload_n hx hb dL_law_971 rfl (lv_at hl 0 rfl) ?_
  refine lv_iconst (v := 4) hx hb dL_law_972 (by decide) ?_
  refine lv_iadd hx hb dL_law_973 ?_
  refine q_top (x' := nI (i + 4)) (nI_add i 4) ?_
  refine va_sld hx hb hX hbl hbA hst.2.2 (vp_in_nI (show i + 4 < L by omega) (by omega)) dL_law_974 ?_
  refine q_top (x' := xs (i + 4)) (by rw [nI_clamp (by omega)]) ?_
  refine q_yL hE lk_L_112 (y_group l D cI cJ cZ bd K seF kF spF deF pF n ki bi pa la cut least seG kG spG deG pG nG kj bj pb lb cuG leG t0 tb ru hi (xs (i + 1)) (xs (i + 2)) (xs (i + 3)) (xs (i + 4)) h ht hm) hst (by rw [← List.length_map (f := fun q : Nat × va_E => q.1), WX_adr]; rfl) (WM_adr ..) rfl (WM_hd ..) rfl rfl hl.1 (fun _ => WM_adr ..) ⟨(Nat.le_of_ble_eq_true rfl), (Nat.le_of_ble_eq_true rfl)⟩ (rest := [.long (if ftf (!isJarB (xs (i + 1)) || !isMonthB (xs (i + 2))) (!isJarB (xs (i + 4))) (!decide (0 ≤ (xs (i + 3)))) (!decide ((xs (i + 3)) ≤ 40)) = 0 then if decide (least ≤ cntI (fun m => decide (monOf (bi m) = (xs (i + 2)))) n) = true then (if (xs (i + 4)) = 0 then becA (gsL (fun m => decide (monOf (bi m) = (xs (i + 2)))) (wgL cut (ndM seF kF spF deF pF (jx (xs (i + 1)))) ki bi pa la (xs (i + 3))) n) (cntI (fun m => decide (monOf (bi m) = (xs (i + 2)))) n).toInt64 else becB (gsL (fun m => decide (monOf (bi m) = (xs (i + 2)))) (wgL cut (ndM seF kF spF deF pF (jx (xs (i + 1)))) ki bi pa la (xs (i + 3))) n) (cntI (fun m => decide (monOf (bi m) = (xs (i + 2)))) n).toInt64) else (if (xs (i + 4)) = 0 then -9 else 1) else lgR (ftf (!isJarB (xs (i + 1)) || !isMonthB (xs (i + 2))) (!isJarB (xs (i + 4))) (!decide (0 ≤ (xs (i + 3)))) (!decide ((xs (i + 3)) ≤ 40))))]) rfl (Nat.le_of_ble_eq_true rfl) dL_law_975 ⟨(Nat.le_of_ble_eq_true rfl), (Nat.le_of_ble_eq_true rfl)⟩ (fun K2 H locs hF hst => ?_)
  refine W.lcmp hx hb dL_law_978 ?_
  refine lv_if_eq (tgt := 1115) hx hb dL_law_979 (by decide) (fun c_ => ?_) (fun c_ => absurd (lc_eq.mpr rfl) c_)
  exact kk _ _ ⟨J1, K2, seF, kF, spF, deF, pF, n, ki, bi, pa, la, cut, least, seG, kG, spG, deG, pG, nG, kj, bj, pb, lb, cuG, leG, t0, tb, if ftf (!isJarB (xs (i + 1)) || !isMonthB (xs (i + 2))) (!isJarB (xs (i + 4))) (!decide (0 ≤ (xs (i + 3)))) (!decide ((xs (i + 3)) ≤ 40)) = 0 then ru else bmp ru (ftf (!isJarB (xs (i + 1)) || !isMonthB (xs (i + 2))) (!isJarB (xs (i + 4))) (!decide (0 ≤ (xs (i + 3)))) (!decide ((xs (i + 3)) ≤ 40))), hi, h, hg, ht, hF, hst⟩
set_option maxHeartbeats 4000000 in
set_option maxRecDepth 100000 in
theorem law_c22 (hE : EV p m c cL_law 4 s args RL D cI cJ cZ (fun q : Nat => s.heap.size ≤ q)) (hx : p.tables.exec = Jvm.exec) (hb : c.code = cL_law) (hX : va_X b L xs s s.heap) (hbl : b < s.heap.size) (hi6 : i + 6 ≤ L) (hL : L ≤ 3072) (hl : lv_has ls 4 [(3, .int (nI i)), (0, .ref b), (1, .ref (ad 0)), (2, .ref (bd 0))]) (hS : SW D cI cJ cZ (fun q : Nat => s.heap.size ≤ q) s ad bd H locs) (kk : ∀ (H : Heap) (locs : List Loc), SW D cI cJ cZ (fun q : Nat => s.heap.size ≤ q) s ad bd H locs → W p l e room_1 s m args below meth c H locs 59 6511 Q (F0 m 1115 ls [])) : W p l e room_1 s m args below meth c H locs 59 6511 Q (F0 m 984 ls []) := by
  have hbA : ¬ (fun q : Nat => s.heap.size ≤ q) b := Nat.not_le.mpr hbl
  obtain ⟨J, K, seF, kF, spF, deF, pF, n, ki, bi, pa, la, cut, least, seG, kG, spG, deG, pG, nG, kj, bj, pb, lb, cuG, leG, t0, tb, ru, hi, h, hg, ht, hm, hst⟩ := hS
  refine lv_aload_n hx hb dL_law_984 rfl (lv_at hl 2 rfl) ?_
  refine lv_aload_n hx hb dL_law_985 rfl (lv_at hl 1 rfl) ?_
  refine lv_iload_n hx hb dL_law_986 rfl (lv_at hl 0 rfl) ?_
  refine lv_iconst (v := 1) hx hb dL_law_987 (by decide) ?_
  refine lv_iadd hx hb dL_law_988 ?_
  refine q_top (x' := nI (i + 1)) (nI_add i 1) ?_
  refine va_sld hx hb hX hbl hbA hst.2.2 (vp_in_nI (show i + 1 < L by omega) (by omega)) dL_law_989 ?_
  refine q_top (x' := xs (i + 1)) (by rw [nI_clamp (by omega)]) ?_
  refine q_xI hE lk_L_113 (x_least l D cI cJ cZ ad J seF kF spF deF pF n ki bi pa la cut least seG kG spG deG pG nG kj bj pb lb cuG leG t0 tb ru hi (xs (i + 1)) h ht) hst (WX_adr ..) rfl (WX_hd ..) rfl rfl hl.1 (fun _ => WX_adr ..) ⟨(Nat.le_of_ble_eq_true rfl), (Nat.le_of_ble_eq_true rfl)⟩ (rest := []) rfl (Nat.le_of_ble_eq_true rfl) dL_law_990 ⟨(Nat.le_of_ble_eq_true rfl), (Nat.le_of_ble_eq_true rfl)⟩ (fun J1 H locs hF hst => ?_)
  refine lv_aload_n hx hb dL_law_993 rfl (lv_at hl 3 rfl) ?_
  refine lv_aload_n hx hb dL_law_994 rfl (lv_at hl 1 rfl) ?_
  refine lv_iload_n hx hb dL_law_995 rfl (lv_at hl 0 rfl) ?_
  refine lv_iconst (v := 1) hx hb dL_law_996 (by decide) ?_
  refine lv_iadd hx hb dL_law_997 ?_
  refine q_top (x' := nI (i + 1)) (nI_add i 1) ?_
  refine va_sld hx hb hX hbl hbA hst.2.2 (vp_in_nI (show i + 1 < L by omega) (by omega)) dL_law_998 ?_
  refine q_top (x' := xs (i + 1)) (by rw [nI_clamp (by omega)]) ?_
  refine q_yI hE lk_L_116 (y_least l D cI cJ cZ bd K seF kF spF deF pF n ki bi pa la cut least seG kG spG deG pG nG kj bj pb lb cuG leG t0 tb ru hi (xs (i + 1)) h ht hm) hst (by rw [← List.length_map (f := fun q : Nat × va_E => q.1), WX_adr]; rfl) (WM_adr ..) rfl (WM_hd ..) rfl rfl hl.1 (fun _ => WM_adr ..) ⟨(Nat.le_of_ble_eq_true rfl), (Nat.le_of_ble_eq_true rfl)⟩ (rest := [.int (if ftf false false (!decide (1 ≤ (xs (i + 1)))) (!decide ((xs (i + 1)) ≤ 60)) = 0 then least else (ftf false false (!decide (1 ≤ (xs (i + 1)))) (!decide ((xs (i + 1)) ≤ 60))))]) rfl (Nat.le_of_ble_eq_true rfl) dL_law_999 ⟨(Nat.le_of_ble_eq_true rfl), (Nat.le_of_ble_eq_true rfl)⟩ (fun K2 H locs hF hst => ?_)
  refine lv_icmp_eq (tgt := 1115) hx hb dL_law_1002 (by decide) (fun c_ => ?_) (fun c_ => absurd rfl c_)
  exact kk _ _ ⟨J1, K2, seF, kF, spF, deF, pF, n, ki, bi, pa, la, cut, if ftf false false (!decide (1 ≤ (xs (i + 1)))) (!decide ((xs (i + 1)) ≤ 60)) = 0 then (xs (i + 1)) else least, seG, kG, spG, deG, pG, nG, kj, bj, pb, lb, cuG, leG, t0, tb, if ftf false false (!decide (1 ≤ (xs (i + 1)))) (!decide ((xs (i + 1)) ≤ 60)) = 0 then ru else bmp ru (ftf false false (!decide (1 ≤ (xs (i + 1)))) (!decide ((xs (i + 1)) ≤ 60))), hi, st_least h, hg, ht, hF, hst⟩
set_option maxHeartbeats 4000000 in
set_option maxRecDepth 100000 in
theorem law_c23 (hE : EV p m c cL_law 4 s args RL D cI cJ cZ (fun q : Nat => s.heap.size ≤ q)) (hx : p.tables.exec = Jvm.exec) (hb : c.code = cL_law) (hX : va_X b L xs s s.heap) (hbl : b < s.heap.size) (hi6 : i + 6 ≤ L) (hL : L ≤ 3072) (hl : lv_has ls 4 [(3, .int (nI i)), (0, .ref b), (1, .ref (ad 0)), (2, .ref (bd 0))]) (hS : SW D cI cJ cZ (fun q : Nat => s.heap.size ≤ q) s ad bd H locs) (kk : ∀ (H : Heap) (locs : List Loc), SW D cI cJ cZ (fun q : Nat => s.heap.size ≤ q) s ad bd H locs → W p l e room_1 s m args below meth c H locs 59 6511 Q (F0 m 1115 ls [])) : W p l e room_1 s m args below meth c H locs 59 6511 Q (F0 m 1007 ls []) := by
  have hbA : ¬ (fun q : Nat => s.heap.size ≤ q) b := Nat.not_le.mpr hbl
  obtain ⟨J, K, seF, kF, spF, deF, pF, n, ki, bi, pa, la, cut, least, seG, kG, spG, deG, pG, nG, kj, bj, pb, lb, cuG, leG, t0, tb, ru, hi, h, hg, ht, hm, hst⟩ := hS
  refine lv_aload_n hx hb dL_law_1007 rfl (lv_at hl 2 rfl) ?_
  refine q_xI hE lk_L_117 (x_shown l D cI cJ cZ ad J seF kF spF deF pF n ki bi pa la cut least seG kG spG deG pG nG kj bj pb lb cuG leG t0 tb ru hi  h ht) hst (WX_adr ..) rfl (WX_hd ..) rfl rfl hl.1 (fun _ => WX_adr ..) ⟨(Nat.le_of_ble_eq_true rfl), (Nat.le_of_ble_eq_true rfl)⟩ (rest := []) rfl (Nat.le_of_ble_eq_true rfl) dL_law_1008 ⟨(Nat.le_of_ble_eq_true rfl), (Nat.le_of_ble_eq_true rfl)⟩ (fun J1 H locs hF hst => ?_)
  refine lv_aload_n hx hb dL_law_1011 rfl (lv_at hl 3 rfl) ?_
  refine q_yI hE lk_L_120 (y_shown l D cI cJ cZ bd K seF kF spF deF pF n ki bi pa la cut least seG kG spG deG pG nG kj bj pb lb cuG leG t0 tb ru hi  h ht hm) hst (by rw [← List.length_map (f := fun q : Nat × va_E => q.1), WX_adr]; rfl) (WM_adr ..) rfl (WM_hd ..) rfl rfl hl.1 (fun _ => WM_adr ..) ⟨(Nat.le_of_ble_eq_true rfl), (Nat.le_of_ble_eq_true rfl)⟩ (rest := [.int (shwI (fun k => decide (least ≤ cntI (fun m => decide (monOf (bi m) = nI k)) n)) 12)]) rfl (Nat.le_of_ble_eq_true rfl) dL_law_1012 ⟨(Nat.le_of_ble_eq_true rfl), (Nat.le_of_ble_eq_true rfl)⟩ (fun K2 H locs hF hst => ?_)
  refine lv_icmp_eq (tgt := 1115) hx hb dL_law_1015 (by decide) (fun c_ => ?_) (fun c_ => absurd rfl c_)
  exact kk _ _ ⟨J1, K2, seF, kF, spF, deF, pF, n, ki, bi, pa, la, cut, least, seG, kG, spG, deG, pG, nG, kj, bj, pb, lb, cuG, leG, t0, tb, ru, hi, h, hg, ht, hF, hst⟩
set_option maxHeartbeats 4000000 in
set_option maxRecDepth 100000 in
theorem law_c24 (hE : EV p m c cL_law 4 s args RL D cI cJ cZ (fun q : Nat => s.heap.size ≤ q)) (hx : p.tables.exec = Jvm.exec) (hb : c.code = cL_law) (hX : va_X b L xs s s.heap) (hbl : b < s.heap.size) (hi6 : i + 6 ≤ L) (hL : L ≤ 3072) (hl : lv_has ls 4 [(3, .int (nI i)), (0, .ref b), (1, .ref (ad 0)), (2, .ref (bd 0))]) (hS : SW D cI cJ cZ (fun q : Nat => s.heap.size ≤ q) s ad bd H locs) (kk : ∀ (H : Heap) (locs : List Loc), SW D cI cJ cZ (fun q : Nat => s.heap.size ≤ q) s ad bd H locs → W p l e room_1 s m args below meth c H locs 59 6511 Q (F0 m 1115 ls [])) : W p l e room_1 s m args below meth c H locs 59 6511 Q (F0 m 1020 ls []) := by
  have hbA : ¬ (fun q : Nat => s.heap.size ≤ q) b := Nat.not_le.mpr hbl
  obtain ⟨J, K, seF, kF, spF, deF, pF, n, ki, bi, pa, la, cut, least, seG, kG, spG, deG, pG, nG, kj, bj, pb, lb, cuG, leG, t0, tb, ru, hi, h, hg, ht, hm, hst⟩ := hS
  refine lv_aload_n hx hb dL_law_1020 rfl (lv_at hl 2 rfl) ?_
  refine q_xI hE lk_L_121 (x_moved l D cI cJ cZ ad J seF kF spF deF pF n ki bi pa la cut least seG kG spG deG pG nG kj bj pb lb cuG leG t0 tb ru hi  h ht) hst (WX_adr ..) rfl (WX_hd ..) rfl rfl hl.1 (fun _ => WX_adr ..) ⟨(Nat.le_of_ble_eq_true rfl), (Nat.le_of_ble_eq_true rfl)⟩ (rest := []) rfl (Nat.le_of_ble_eq_true rfl) dL_law_1021 ⟨(Nat.le_of_ble_eq_true rfl), (Nat.le_of_ble_eq_true rfl)⟩ (fun J1 H locs hF hst => ?_)
  refine lv_aload_n hx hb dL_law_1024 rfl (lv_at hl 3 rfl) ?_
  refine q_yI hE lk_L_124 (y_moved l D cI cJ cZ bd K seF kF spF deF pF n ki bi pa la cut least seG kG spG deG pG nG kj bj pb lb cuG leG t0 tb ru hi  h ht hm) hst (by rw [← List.length_map (f := fun q : Nat × va_E => q.1), WX_adr]; rfl) (WM_adr ..) rfl (WM_hd ..) rfl rfl hl.1 (fun _ => WM_adr ..) ⟨(Nat.le_of_ble_eq_true rfl), (Nat.le_of_ble_eq_true rfl)⟩ (rest := [.int (cntI (fun m => calF cut (ndM seF kF spF deF pF 0) bi m != calF cut (ndM seF kF spF deF pF 1) bi m) n)]) rfl (Nat.le_of_ble_eq_true rfl) dL_law_1025 ⟨(Nat.le_of_ble_eq_true rfl), (Nat.le_of_ble_eq_true rfl)⟩ (fun K2 H locs hF hst => ?_)
  refine lv_icmp_eq (tgt := 1115) hx hb dL_law_1028 (by decide) (fun c_ => ?_) (fun c_ => absurd rfl c_)
  exact kk _ _ ⟨J1, K2, seF, kF, spF, deF, pF, n, ki, bi, pa, la, cut, least, seG, kG, spG, deG, pG, nG, kj, bj, pb, lb, cuG, leG, t0, tb, ru, hi, h, hg, ht, hF, hst⟩
set_option maxHeartbeats 4000000 in
set_option maxRecDepth 100000 in
theorem law_c25 (hE : EV p m c cL_law 4 s args RL D cI cJ cZ (fun q : Nat => s.heap.size ≤ q)) (hx : p.tables.exec = Jvm.exec) (hb : c.code = cL_law) (hX : va_X b L xs s s.heap) (hbl : b < s.heap.size) (hi6 : i + 6 ≤ L) (hL : L ≤ 3072) (hl : lv_has ls 4 [(3, .int (nI i)), (0, .ref b), (1, .ref (ad 0)), (2, .ref (bd 0))]) (hS : SW D cI cJ cZ (fun q : Nat => s.heap.size ≤ q) s ad bd H locs) (kk : ∀ (H : Heap) (locs : List Loc), SW D cI cJ cZ (fun q : Nat => s.heap.size ≤ q) s ad bd H locs → W p l e room_1 s m args below meth c H locs 59 6511 Q (F0 m 1115 ls [])) : W p l e room_1 s m args below meth c H locs 59 6511 Q (F0 m 1033 ls []) := by
  have hbA : ¬ (fun q : Nat => s.heap.size ≤ q) b := Nat.not_le.mpr hbl
  obtain ⟨J, K, seF, kF, spF, deF, pF, n, ki, bi, pa, la, cut, least, seG, kG, spG, deG, pG, nG, kj, bj, pb, lb, cuG, leG, t0, tb, ru, hi, h, hg, ht, hm, hst⟩ := hS
  refine lv_aload_n hx hb dL_law_1033 rfl (lv_at hl 2 rfl) ?_
  refine lv_aload_n hx hb dL_law_1034 rfl (lv_at hl 1 rfl) ?_
  refine lv_iload_n hx hb dL_law_1035 rfl (lv_at hl 0 rfl) ?_
  refine lv_iconst (v := 1) hx hb dL_law_1036 (by decide) ?_
  refine lv_iadd hx hb dL_law_1037 ?_
  refine q_top (x' := nI (i + 1)) (nI_add i 1) ?_
  refine va_sld hx hb hX hbl hbA hst.2.2 (vp_in_nI (show i + 1 < L by omega) (by omega)) dL_law_1038 ?_
  refine q_top (x' := xs (i + 1)) (by rw [nI_clamp (by omega)]) ?_
  refine lv_aload_n hx hb dL_law_1039 rfl (lv_at hl 1 rfl) ?_
  refine lv_iload_n hx hb dL_law_1040 rfl (lv_at hl 0 rfl) ?_
  refine lv_iconst (v := 2) hx hb dL_law_1041 (by decide) ?_
  refine lv_iadd hx hb dL_law_1042 ?_
  refine q_top (x' := nI (i + 2)) (nI_add i 2) ?_
  refine va_sld hx hb hX hbl hbA hst.2.2 (vp_in_nI (show i + 2 < L by omega) (by omega)) dL_law_1043 ?_
  refine q_top (x' := xs (i + 2)) (by rw [nI_clamp (by omega)]) ?_
  refine q_xI hE lk_L_125 (x_cuts l D cI cJ cZ ad J seF kF spF deF pF n ki bi pa la cut least seG kG spG deG pG nG kj bj pb lb cuG leG t0 tb ru hi (xs (i + 1)) (xs (i + 2)) h ht) hst (WX_adr ..) rfl (WX_hd ..) rfl rfl hl.1 (fun _ => WX_adr ..) ⟨(Nat.le_of_ble_eq_true rfl), (Nat.le_of_ble_eq_true rfl)⟩ (rest := []) rfl (Nat.le_of_ble_eq_true rfl) dL_law_1044 ⟨(Nat.le_of_ble_eq_true rfl), (Nat.le_of_ble_eq_true rfl)⟩ (fun J1 H locs hF hst => ?_)
  refine lv_aload_n hx hb dL_law_1047 rfl (lv_at hl 3 rfl) ?_
  refine lv_aload_n hx hb dL_law_1048 rfl (lv_at hl 1 rfl) ?_
  refine lv_iload_n hx hb dL_law_1049 rfl (lv_at hl 0 rfl) ?_
  refine lv_iconst (v := 1) hx hb dL_law_1050 (by decide) ?_
  refine lv_iadd hx hb dL_law_1051 ?_
  refine q_top (x' := nI (i + 1)) (nI_add i 1) ?_
  refine va_sld hx hb hX hbl hbA hst.2.2 (vp_in_nI (show i + 1 < L by omega) (by omega)) dL_law_1052 ?_
  refine q_top (x' := xs (i + 1)) (by rw [nI_clamp (by omega)]) ?_
  refine lv_aload_n hx hb dL_law_1053 rfl (lv_at hl 1 rfl) ?_
  refine lv_iload_n hx hb dL_law_1054 rfl (lv_at hl 0 rfl) ?_
  refine lv_iconst (v := 2) hx hb dL_law_1055 (by decide) ?_
  refine lv_iadd hx hb dL_law_1056 ?_
  refine q_top (x' := nI (i + 2)) (nI_add i 2) ?_
  refine va_sld hx hb hX hbl hbA hst.2.2 (vp_in_nI (show i + 2 < L by omega) (by omega)) dL_law_1057 ?_
  refine q_top (x' := xs (i + 2)) (by rw [nI_clamp (by omega)]) ?_
  refine q_yI hE lk_L_128 (y_cuts l D cI cJ cZ bd K seF kF spF deF pF n ki bi pa la cut least seG kG spG deG pG nG kj bj pb lb cuG leG t0 tb ru hi (xs (i + 1)) (xs (i + 2)) h ht hm) hst (by rw [← List.length_map (f := fun q : Nat × va_E => q.1), WX_adr]; rfl) (WM_adr ..) rfl (WM_hd ..) rfl rfl hl.1 (fun _ => WM_adr ..) ⟨(Nat.le_of_ble_eq_true rfl), (Nat.le_of_ble_eq_true rfl)⟩ (rest := [.int (if ftf (!isJarB (xs (i + 1))) false (!decide (0 ≤ (xs (i + 2)))) (!decide ((xs (i + 2)) ≤ 60)) = 0 then lcR (ndM seF kF spF deF pF (jx (xs (i + 1)))) bi n (xs (i + 2)) else (ftf (!isJarB (xs (i + 1))) false (!decide (0 ≤ (xs (i + 2)))) (!decide ((xs (i + 2)) ≤ 60))))]) rfl (Nat.le_of_ble_eq_true rfl) dL_law_1058 ⟨(Nat.le_of_ble_eq_true rfl), (Nat.le_of_ble_eq_true rfl)⟩ (fun K2 H locs hF hst => ?_)
  refine lv_icmp_eq (tgt := 1115) hx hb dL_law_1061 (by decide) (fun c_ => ?_) (fun c_ => absurd rfl c_)
  exact kk _ _ ⟨J1, K2, seF, kF, spF, deF, pF, n, ki, bi, pa, la, cut, least, seG, kG, spG, deG, pG, nG, kj, bj, pb, lb, cuG, leG, t0, tb, if ftf (!isJarB (xs (i + 1))) false (!decide (0 ≤ (xs (i + 2)))) (!decide ((xs (i + 2)) ≤ 60)) = 0 then ru else bmp ru (ftf (!isJarB (xs (i + 1))) false (!decide (0 ≤ (xs (i + 2)))) (!decide ((xs (i + 2)) ≤ 60))), hi, h, hg, ht, hF, hst⟩
set_option maxHeartbeats 4000000 in
set_option maxRecDepth 100000 in
theorem law_c26 (hE : EV p m c cL_law 4 s args RL D cI cJ cZ (fun q : Nat => s.heap.size ≤ q)) (hx : p.tables.exec = Jvm.exec) (hb : c.code = cL_law) (hX : va_X b L xs s s.heap) (hbl : b < s.heap.size) (hi6 : i + 6 ≤ L) (hL : L ≤ 3072) (hl : lv_has ls 4 [(3, .int (nI i)), (0, .ref b), (1, .ref (ad 0)), (2, .ref (bd 0))]) (hS : SW D cI cJ cZ (fun q : Nat => s.heap.size ≤ q) s ad bd H locs) (kk : ∀ (H : Heap) (locs : List Loc), SW D cI cJ cZ (fun q : Nat => s.heap.size ≤ q) s ad bd H locs → W p l e room_1 s m args below meth c H locs 59 6511 Q (F0 m 1115 ls [])) : W p l e room_1 s m args below meth c H locs 59 6511 Q (F0 m 1066 ls []) := by
  have hbA : ¬ (fun q : Nat => s.heap.size ≤ q) b := Nat.not_le.mpr hbl
  obtain ⟨J, K, seF, kF, spF, deF, pF, n, ki, bi, pa, la, cut, least, seG, kG, spG, deG, pG, nG, kj, bj, pb, lb, cuG, leG, t0, tb, ru, hi, h, hg, ht, hm, hst⟩ := hS
  refine lv_aload_n hx hb dL_law_1066 rfl (lv_at hl 2 rfl) ?_
  refine q_xI hE lk_L_129 (x_image l D cI cJ cZ ad J seF kF spF deF pF n ki bi pa la cut least seG kG spG deG pG nG kj bj pb lb cuG leG t0 tb ru hi  h ht) hst (WX_adr ..) rfl (WX_hd ..) rfl rfl hl.1 (fun _ => WX_adr ..) ⟨(Nat.le_of_ble_eq_true rfl), (Nat.le_of_ble_eq_true rfl)⟩ (rest := []) rfl (Nat.le_of_ble_eq_true rfl) dL_law_1067 ⟨(Nat.le_of_ble_eq_true rfl), (Nat.le_of_ble_eq_true rfl)⟩ (fun J1 H locs hF hst => ?_)
  refine lv_aload_n hx hb dL_law_1070 rfl (lv_at hl 3 rfl) ?_
  refine q_yI hE lk_L_132 (y_image l D cI cJ cZ bd K seF kF spF deF pF n ki bi pa la cut least seG kG spG deG pG nG kj bj pb lb cuG leG t0 tb ru hi  h ht hm) hst (by rw [← List.length_map (f := fun q : Nat × va_E => q.1), WX_adr]; rfl) (WM_adr ..) rfl (WM_hd ..) rfl rfl hl.1 (fun _ => WM_adr ..) ⟨(Nat.le_of_ble_eq_true rfl), (Nat.le_of_ble_eq_true rfl)⟩ (rest := [.int (nI n)]) rfl (Nat.le_of_ble_eq_true rfl) dL_law_1071 ⟨(Nat.le_of_ble_eq_true rfl), (Nat.le_of_ble_eq_true rfl)⟩ (fun K2 H locs hF hst => ?_)
  refine lv_icmp_eq (tgt := 1115) hx hb dL_law_1074 (by decide) (fun c_ => ?_) (fun c_ => absurd rfl c_)
  exact kk _ _ ⟨J1, K2, seF, kF, spF, deF, pF, n, ki, bi, pa, la, cut, least, seF, kF, spF, deF, pF, n, ki, bi, pa, la, cut, least, t0, tb, ru, true, h, h, ht, hF, hst⟩
set_option maxHeartbeats 4000000 in
set_option maxRecDepth 100000 in
theorem law_c27 (hE : EV p m c cL_law 4 s args RL D cI cJ cZ (fun q : Nat => s.heap.size ≤ q)) (hx : p.tables.exec = Jvm.exec) (hb : c.code = cL_law) (hX : va_X b L xs s s.heap) (hbl : b < s.heap.size) (hi6 : i + 6 ≤ L) (hL : L ≤ 3072) (hl : lv_has ls 4 [(3, .int (nI i)), (0, .ref b), (1, .ref (ad 0)), (2, .ref (bd 0))]) (hS : SW D cI cJ cZ (fun q : Nat => s.heap.size ≤ q) s ad bd H locs) (kk : ∀ (H : Heap) (locs : List Loc), SW D cI cJ cZ (fun q : Nat => s.heap.size ≤ q) s ad bd H locs → W p l e room_1 s m args below meth c H locs 59 6511 Q (F0 m 1115 ls [])) : W p l e room_1 s m args below meth c H locs 59 6511 Q (F0 m 1079 ls []) := by
  have hbA : ¬ (fun q : Nat => s.heap.size ≤ q) b := Nat.not_le.mpr hbl
  obtain ⟨J, K, seF, kF, spF, deF, pF, n, ki, bi, pa, la, cut, least, seG, kG, spG, deG, pG, nG, kj, bj, pb, lb, cuG, leG, t0, tb, ru, hi, h, hg, ht, hm, hst⟩ := hS
  cases hi with
  | false =>
    refine lv_aload_n hx hb dL_law_1079 rfl (lv_at hl 2 rfl) ?_
    refine q_xI hE lk_L_133 (x_on_f l D cI cJ cZ ad J seF kF spF deF pF n ki bi pa la cut least seG kG spG deG pG nG kj bj pb lb cuG leG t0 tb ru false  h ht) hst (WX_adr ..) rfl (WX_hd ..) rfl rfl hl.1 (fun _ => WX_adr ..) ⟨(Nat.le_of_ble_eq_true rfl), (Nat.le_of_ble_eq_true rfl)⟩ (rest := []) rfl (Nat.le_of_ble_eq_true rfl) dL_law_1080 ⟨(Nat.le_of_ble_eq_true rfl), (Nat.le_of_ble_eq_true rfl)⟩ (fun J1 H locs hF hst => ?_)
    refine lv_aload_n hx hb dL_law_1083 rfl (lv_at hl 3 rfl) ?_
    refine q_yI hE lk_L_136 (y_on_f l D cI cJ cZ bd K seF kF spF deF pF n ki bi pa la cut least seG kG spG deG pG nG kj bj pb lb cuG leG t0 tb ru false  h ht hm) hst (by rw [← List.length_map (f := fun q : Nat × va_E => q.1), WX_adr]; rfl) (WM_adr ..) rfl (WM_hd ..) rfl rfl hl.1 (fun _ => WM_adr ..) ⟨(Nat.le_of_ble_eq_true rfl), (Nat.le_of_ble_eq_true rfl)⟩ (rest := [.int (-3)]) rfl (Nat.le_of_ble_eq_true rfl) dL_law_1084 ⟨(Nat.le_of_ble_eq_true rfl), (Nat.le_of_ble_eq_true rfl)⟩ (fun K2 H locs hF hst => ?_)
    refine lv_icmp_eq (tgt := 1115) hx hb dL_law_1087 (by decide) (fun c_ => ?_) (fun c_ => absurd rfl c_)
    exact kk _ _ ⟨J1, K2, seF, kF, spF, deF, pF, n, ki, bi, pa, la, cut, least, seG, kG, spG, deG, pG, nG, kj, bj, pb, lb, cuG, leG, t0, tb, bmp ru (-3), false, h, hg, ht, hF, hst⟩
  | true =>
    refine lv_aload_n hx hb dL_law_1079 rfl (lv_at hl 2 rfl) ?_
    refine q_xI hE lk_L_133 (x_on_t l D cI cJ cZ ad J seF kF spF deF pF n ki bi pa la cut least seG kG spG deG pG nG kj bj pb lb cuG leG t0 tb ru true  h ht) hst (WX_adr ..) rfl (WX_hd ..) rfl rfl hl.1 (fun _ => WX_adr ..) ⟨(Nat.le_of_ble_eq_true rfl), (Nat.le_of_ble_eq_true rfl)⟩ (rest := []) rfl (Nat.le_of_ble_eq_true rfl) dL_law_1080 ⟨(Nat.le_of_ble_eq_true rfl), (Nat.le_of_ble_eq_true rfl)⟩ (fun J1 H locs hF hst => ?_)
    refine lv_aload_n hx hb dL_law_1083 rfl (lv_at hl 3 rfl) ?_
    refine q_yI hE lk_L_136 (y_on_t l D cI cJ cZ bd K seF kF spF deF pF n ki bi pa la cut least seG kG spG deG pG nG kj bj pb lb cuG leG t0 tb ru true  h ht hm) hst (by rw [← List.length_map (f := fun q : Nat × va_E => q.1), WX_adr]; rfl) (WM_adr ..) rfl (WM_hd ..) rfl rfl hl.1 (fun _ => WM_adr ..) ⟨(Nat.le_of_ble_eq_true rfl), (Nat.le_of_ble_eq_true rfl)⟩ (rest := [.int (nI nG)]) rfl (Nat.le_of_ble_eq_true rfl) dL_law_1084 ⟨(Nat.le_of_ble_eq_true rfl), (Nat.le_of_ble_eq_true rfl)⟩ (fun K2 H locs hF hst => ?_)
    refine lv_icmp_eq (tgt := 1115) hx hb dL_law_1087 (by decide) (fun c_ => ?_) (fun c_ => absurd rfl c_)
    exact kk _ _ ⟨J1, K2, seG, kG, spG, deG, pG, nG, kj, bj, pb, lb, cuG, leG, seG, kG, spG, deG, pG, nG, kj, bj, pb, lb, cuG, leG, t0, tb, ru, true, hg, hg, ht, hF, hst⟩
set_option maxHeartbeats 4000000 in
set_option maxRecDepth 100000 in
theorem law_c28 (hE : EV p m c cL_law 4 s args RL D cI cJ cZ (fun q : Nat => s.heap.size ≤ q)) (hx : p.tables.exec = Jvm.exec) (hb : c.code = cL_law) (hX : va_X b L xs s s.heap) (hbl : b < s.heap.size) (hi6 : i + 6 ≤ L) (hL : L ≤ 3072) (hl : lv_has ls 4 [(3, .int (nI i)), (0, .ref b), (1, .ref (ad 0)), (2, .ref (bd 0))]) (hS : SW D cI cJ cZ (fun q : Nat => s.heap.size ≤ q) s ad bd H locs) (kk : ∀ (H : Heap) (locs : List Loc), SW D cI cJ cZ (fun q : Nat => s.heap.size ≤ q) s ad bd H locs → W p l e room_1 s m args below meth c H locs 59 6511 Q (F0 m 1115 ls [])) : W p l e room_1 s m args below meth c H locs 59 6511 Q (F0 m 1092 ls []) := by
  have hbA : ¬ (fun q : Nat => s.heap.size ≤ q) b := Nat.not_le.mpr hbl
  obtain ⟨J, K, seF, kF, spF, deF, pF, n, ki, bi, pa, la, cut, least, seG, kG, spG, deG, pG, nG, kj, bj, pb, lb, cuG, leG, t0, tb, ru, hi, h, hg, ht, hm, hst⟩ := hS
  refine lv_aload_n hx hb dL_law_1092 rfl (lv_at hl 2 rfl) ?_
  refine lv_aload_n hx hb dL_law_1093 rfl (lv_at hl 1 rfl) ?_
  refine lv_iload_n hx hb dL_law_1094 rfl (lv_at hl 0 rfl) ?_
  refine lv_iconst (v := 1) hx hb dL_law_1095 (by decide) ?_
  refine lv_iadd hx hb dL_law_1096 ?_
  refine q_top (x' := nI (i + 1)) (nI_add i 1) ?_
  refine va_sld hx hb hX hbl hbA hst.2.2 (vp_in_nI (show i + 1 < L by omega) (by omega)) dL_law_1097 ?_
  refine q_top (x' := xs (i + 1)) (by rw [nI_clamp (by omega)]) ?_
  refine q_xI hE lk_L_137 (x_count l D cI cJ cZ ad J seF kF spF deF pF n ki bi pa la cut least seG kG spG deG pG nG kj bj pb lb cuG leG t0 tb ru hi (xs (i + 1)) h ht) hst (WX_adr ..) rfl (WX_hd ..) rfl rfl hl.1 (fun _ => WX_adr ..) ⟨(Nat.le_of_ble_eq_true rfl), (Nat.le_of_ble_eq_true rfl)⟩ (rest := []) rfl (Nat.le_of_ble_eq_true rfl) dL_law_1098 ⟨(Nat.le_of_ble_eq_true rfl), (Nat.le_of_ble_eq_true rfl)⟩ (fun J1 H locs hF hst => ?_)
  refine lv_aload_n hx hb dL_law_1101 rfl (lv_at hl 3 rfl) ?_
  refine lv_aload_n hx hb dL_law_1102 rfl (lv_at hl 1 rfl) ?_
  refine lv_iload_n hx hb dL_law_1103 rfl (lv_at hl 0 rfl) ?_
  refine lv_iconst (v := 1) hx hb dL_law_1104 (by decide) ?_
  refine lv_iadd hx hb dL_law_1105 ?_
  refine q_top (x' := nI (i + 1)) (nI_add i 1) ?_
  refine va_sld hx hb hX hbl hbA hst.2.2 (vp_in_nI (show i + 1 < L by omega) (by omega)) dL_law_1106 ?_
  refine q_top (x' := xs (i + 1)) (by rw [nI_clamp (by omega)]) ?_
  refine q_yI hE lk_L_140 (y_count l D cI cJ cZ bd K seF kF spF deF pF n ki bi pa la cut least seG kG spG deG pG nG kj bj pb lb cuG leG t0 tb ru hi (xs (i + 1)) h ht hm) hst (by rw [← List.length_map (f := fun q : Nat × va_E => q.1), WX_adr]; rfl) (WM_adr ..) rfl (WM_hd ..) rfl rfl hl.1 (fun _ => WM_adr ..) ⟨(Nat.le_of_ble_eq_true rfl), (Nat.le_of_ble_eq_true rfl)⟩ (rest := [.int (if (xs (i + 1)) ≤ 10 then couI (nI n) (cntI (fun m => hsB (svF cut (ndM seF kF spF deF pF 0) ki bi m)) n) (cntI (fun m => hsB (svF cut (ndM seF kF spF deF pF 1) ki bi m)) n) (nI t0) (xs (i + 1)) else if 16 < (xs (i + 1)) then couI (nI n) (cntI (fun m => hsB (svF cut (ndM seF kF spF deF pF 0) ki bi m)) n) (cntI (fun m => hsB (svF cut (ndM seF kF spF deF pF 1) ki bi m)) n) (nI t0) (xs (i + 1)) else atI 7 ru ((xs (i + 1)) - 10))]) rfl (Nat.le_of_ble_eq_true rfl) dL_law_1107 ⟨(Nat.le_of_ble_eq_true rfl), (Nat.le_of_ble_eq_true rfl)⟩ (fun K2 H locs hF hst => ?_)
  refine lv_icmp_eq (tgt := 1115) hx hb dL_law_1110 (by decide) (fun c_ => ?_) (fun c_ => absurd rfl c_)
  exact kk _ _ ⟨J1, K2, seF, kF, spF, deF, pF, n, ki, bi, pa, la, cut, least, seG, kG, spG, deG, pG, nG, kj, bj, pb, lb, cuG, leG, t0, tb, ru, hi, h, hg, ht, hF, hst⟩
end LAWC
