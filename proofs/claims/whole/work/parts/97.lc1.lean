theorem sight_g {c nP nD : Nat} {V : Mv} {J : Mj} {R : Mr} (h : rl c nP nD V (u2 V 3 3 (V 3 3 + 1)) J (u2 (u2 J 3 2 0) 3 4 0) R) : J 3 2 = (u2 (u2 J 3 2 0) 3 4 0) 1000 23 ∧ rl c nP nD (u2 V 3 3 (V 3 3 + 1)) (u2 (u2 (u2 (u2 V 3 3 (V 3 3 + 1)) 1000 0 0) 1000 24 ((u2 V 3 3 (V 3 3 + 1)) 1000 21)) 1000 25 ((u2 V 3 3 (V 3 3 + 1)) 1000 25 + 1)) (u2 (u2 J 3 2 0) 3 4 0) (u2 (u2 (u2 J 3 2 0) 3 4 0) 1000 23 0) R := e_sight h
set_option maxHeartbeats 4000000 in
set_option maxRecDepth 100000 in
theorem lc_leak {p : Program} {l : Launch} {e : Env} {s : State} {m : MethodId} {args : Array Value} {below : List Frame} {meth : Method} {c : Code} {b L : Nat} {xs : Nat → Int32} {A : Nat → Prop} {D : va_G} {q : Cq} {ad0 : Nat → Nat} {mi : Nat} {Q : State → Prop} {H : Heap} {locs : List Loc} {cells slots : Nat} {ls : Array Slot} {dm : List Nat} {ln ad : Nat → Nat} {V : Mv} {J : Mj} {R : Mr} {nP nD i cn : Nat} (C : LC p s m args c b L xs A D q ad0 mi) (hi : i + 4 ≤ L) (hcn : cn ≤ 1000) (hI : LI ad0 A D q cn H dm ln ad V J R nP nD) (hS : va_S A s.heap H locs) (hce : cells + 2 ≤ 600000) (hsl : slots + 112 ≤ 7302250) (hl : lv_has ls 4 [(0, .ref b), (1, .ref (ad 0)), (2, .ref (ad 1000)), (3, .int (nI i))]) (kk : ∀ (dm' : List Nat) (ln' ad' : Nat → Nat) (V' : Mv) (J' : Mj) (R' : Mr) (nP' nD' : Nat) (H' : Heap) (locs' : List Loc) (ls' : Array Slot), LI ad0 A D q (cn + 1) H' dm' ln' ad' V' J' R' nP' nD' → va_S A s.heap H' locs' → lv_has ls' 4 [(0, .ref b), (1, .ref (ad' 0)), (2, .ref (ad' 1000)), (3, .int (nI i))] → W p l e room_1 s m args below meth c H' locs' (cells + 2) (slots + 112) Q (F0 m 862 ls' [])) : W p l e room_1 s m args below meth c H locs cells slots Q (F0 m 195 ls []) := by
  obtain ⟨hx, hb, hml, hown, hts, hX, hbl, hbA, hK, hA, hXs, hL⟩ := C
  obtain ⟨hW, oX, oM, oS, hr, hag⟩ := hI
  have h30 := hr.1.1
  have h40 := hr.1.2.1
  have hp : V 1 2 = nI nP := hr.1.2.2.1
  have hq : V 2 2 = nI nD := hr.1.2.2.2.1
  refine lv_aload_n hx hb dL_law_195 rfl (lv_at hl 1 rfl) ?_
  refine lv_aload_n hx hb dL_law_196 rfl (lv_at hl 0 rfl) ?_
  refine lv_iload_n hx hb dL_law_197 rfl (lv_at hl 3 rfl) ?_
  refine lv_iconst (v := 1) hx hb dL_law_198 (by decide) ?_
  refine lv_iadd hx hb dL_law_199 ?_
  refine w_i (show nI i + 1 = nI (i + 1) from nI_add i 1) ?_
  refine w_sc (t := i + 1) hx hb hX hbl hbA hS (by omega) hL dL_law_200 ?_
  refine lv_aload_n hx hb dL_law_201 rfl (lv_at hl 0 rfl) ?_
  refine lv_iload_n hx hb dL_law_202 rfl (lv_at hl 3 rfl) ?_
  refine lv_iconst (v := 2) hx hb dL_law_203 (by decide) ?_
  refine lv_iadd hx hb dL_law_204 ?_
  refine w_i (show nI i + 2 = nI (i + 2) from nI_add i 2) ?_
  refine w_sc (t := i + 2) hx hb hX hbl hbA hS (by omega) hL dL_law_205 ?_
  refine w_ci (w_runV ⟨hx, hb, hml, hown, hts⟩ (c_X7_leak (lawX_ok ad0 mi) l D q V J R nP nD (xs (i + 1)) (xs (i + 2))  oX hp hq ) (lawX_ok ad0 mi) (cwV 2 hts gL_law_X7_leak rfl rfl rfl (by decide +kernel) ⟨Nat.le_of_ble_eq_true rfl, Nat.le_of_ble_eq_true rfl⟩) hK hW hS hA hXs (w_rcv hK hW (oX.1 0 (by decide)).1 (show kdG 0 = 8 from (oX.1 0 (by decide)).2.1) (by decide) rfl) rfl hl.1 rfl (Nat.le_of_ble_eq_true rfl) dL_law_206 ⟨by show cells + 0 ≤ 600000; omega, by show slots + 0 ≤ 7302250; omega⟩) hW hS hA (fun H locs hW hS => ?_)
  have hx1 : ∀ k, 1000 ≤ k → (x_leakV V nP (xs (i + 1)) (xs (i + 2))) k = V k := xf_leak h30
  have h1 : rl cn nP nD V (x_leakV V nP (xs (i + 1)) (xs (i + 2))) J J R := glue1 hr hx1 rfl
  refine lv_aload_n hx hb dL_law_209 rfl (lv_at hl 2 rfl) ?_
  refine lv_aload_n hx hb dL_law_210 rfl (lv_at hl 0 rfl) ?_
  refine lv_iload_n hx hb dL_law_211 rfl (lv_at hl 3 rfl) ?_
  refine lv_iconst (v := 1) hx hb dL_law_212 (by decide) ?_
  refine lv_iadd hx hb dL_law_213 ?_
  refine w_i (show nI i + 1 = nI (i + 1) from nI_add i 1) ?_
  refine w_sc (t := i + 1) hx hb hX hbl hbA hS (by omega) hL dL_law_214 ?_
  refine lv_aload_n hx hb dL_law_215 rfl (lv_at hl 0 rfl) ?_
  refine lv_iload_n hx hb dL_law_216 rfl (lv_at hl 3 rfl) ?_
  refine lv_iconst (v := 2) hx hb dL_law_217 (by decide) ?_
  refine lv_iadd hx hb dL_law_218 ?_
  refine w_i (show nI i + 2 = nI (i + 2) from nI_add i 2) ?_
  refine w_sc (t := i + 2) hx hb hX hbl hbA hS (by omega) hL dL_law_219 ?_
  refine w_ci (w_runV ⟨hx, hb, hml, hown, hts⟩ (c_X8_leak (lawX_ok ad0 mi) l D q (x_leakV V nP (xs (i + 1)) (xs (i + 2))) J R nP nD (xs (i + 1)) (xs (i + 2))  oM h1.1.2.2.2.2.1 h30 h1.1.2.2.2.2.2 h40 ) (lawX_ok ad0 mi) (cwV 2 hts gL_law_X8_leak rfl rfl rfl (by decide +kernel) ⟨Nat.le_of_ble_eq_true rfl, Nat.le_of_ble_eq_true rfl⟩) hK hW hS hA hXs (w_rcv hK hW oM.1.1 oM.1.2 (by decide) rfl) rfl hl.1 rfl (Nat.le_of_ble_eq_true rfl) dL_law_220 ⟨by show cells + 0 ≤ 600000; omega, by show slots + 0 ≤ 7302250; omega⟩) hW hS hA (fun H locs hW hS => ?_)
  obtain ⟨he, h2⟩ := e_leak h1 (xs (i + 1)) (xs (i + 2))
  refine lv_icmp_eq (tgt := 862) hx hb dL_law_223 (by decide) (fun _ => ?_) (fun z => absurd he z)
  refine W.widen (k := cells + 2) (n := slots + 112) (by omega) (by omega) ?_
  exact kk dm ln ad _ _ R nP nD H locs ls ⟨hW, oX, oM, oS, glue2 h2 (mf_leak) rfl (by omega), hag⟩ hS hl
set_option maxHeartbeats 4000000 in
set_option maxRecDepth 100000 in
theorem lc_told {p : Program} {l : Launch} {e : Env} {s : State} {m : MethodId} {args : Array Value} {below : List Frame} {meth : Method} {c : Code} {b L : Nat} {xs : Nat → Int32} {A : Nat → Prop} {D : va_G} {q : Cq} {ad0 : Nat → Nat} {mi : Nat} {Q : State → Prop} {H : Heap} {locs : List Loc} {cells slots : Nat} {ls : Array Slot} {dm : List Nat} {ln ad : Nat → Nat} {V : Mv} {J : Mj} {R : Mr} {nP nD i cn : Nat} (C : LC p s m args c b L xs A D q ad0 mi) (hi : i + 4 ≤ L) (hcn : cn ≤ 1000) (hI : LI ad0 A D q cn H dm ln ad V J R nP nD) (hS : va_S A s.heap H locs) (hce : cells + 2 ≤ 600000) (hsl : slots + 112 ≤ 7302250) (hl : lv_has ls 4 [(0, .ref b), (1, .ref (ad 0)), (2, .ref (ad 1000)), (3, .int (nI i))]) (kk : ∀ (dm' : List Nat) (ln' ad' : Nat → Nat) (V' : Mv) (J' : Mj) (R' : Mr) (nP' nD' : Nat) (H' : Heap) (locs' : List Loc) (ls' : Array Slot), LI ad0 A D q (cn + 1) H' dm' ln' ad' V' J' R' nP' nD' → va_S A s.heap H' locs' → lv_has ls' 4 [(0, .ref b), (1, .ref (ad' 0)), (2, .ref (ad' 1000)), (3, .int (nI i))] → W p l e room_1 s m args below meth c H' locs' (cells + 2) (slots + 112) Q (F0 m 862 ls' [])) : W p l e room_1 s m args below meth c H locs cells slots Q (F0 m 228 ls []) := by
  obtain ⟨hx, hb, hml, hown, hts, hX, hbl, hbA, hK, hA, hXs, hL⟩ := C
  obtain ⟨hW, oX, oM, oS, hr, hag⟩ := hI
  have h30 := hr.1.1
  have h40 := hr.1.2.1
  have hp : V 1 2 = nI nP := hr.1.2.2.1
  have hq : V 2 2 = nI nD := hr.1.2.2.2.1
  refine lv_aload_n hx hb dL_law_228 rfl (lv_at hl 1 rfl) ?_
  refine lv_aload_n hx hb dL_law_229 rfl (lv_at hl 0 rfl) ?_
  refine lv_iload_n hx hb dL_law_230 rfl (lv_at hl 3 rfl) ?_
  refine lv_iconst (v := 1) hx hb dL_law_231 (by decide) ?_
  refine lv_iadd hx hb dL_law_232 ?_
  refine w_i (show nI i + 1 = nI (i + 1) from nI_add i 1) ?_
  refine w_sc (t := i + 1) hx hb hX hbl hbA hS (by omega) hL dL_law_233 ?_
  refine lv_aload_n hx hb dL_law_234 rfl (lv_at hl 0 rfl) ?_
  refine lv_iload_n hx hb dL_law_235 rfl (lv_at hl 3 rfl) ?_
  refine lv_iconst (v := 2) hx hb dL_law_236 (by decide) ?_
  refine lv_iadd hx hb dL_law_237 ?_
  refine w_i (show nI i + 2 = nI (i + 2) from nI_add i 2) ?_
  refine w_sc (t := i + 2) hx hb hX hbl hbA hS (by omega) hL dL_law_238 ?_
  refine w_ci (w_runV ⟨hx, hb, hml, hown, hts⟩ (c_X7_told (lawX_ok ad0 mi) l D q V J R nP nD (xs (i + 1)) (xs (i + 2))  oX hp hq ) (lawX_ok ad0 mi) (cwV 2 hts gL_law_X7_told rfl rfl rfl (by decide +kernel) ⟨Nat.le_of_ble_eq_true rfl, Nat.le_of_ble_eq_true rfl⟩) hK hW hS hA hXs (w_rcv hK hW (oX.1 0 (by decide)).1 (show kdG 0 = 8 from (oX.1 0 (by decide)).2.1) (by decide) rfl) rfl hl.1 rfl (Nat.le_of_ble_eq_true rfl) dL_law_239 ⟨by show cells + 0 ≤ 600000; omega, by show slots + 0 ≤ 7302250; omega⟩) hW hS hA (fun H locs hW hS => ?_)
  have hx1 : ∀ k, 1000 ≤ k → V k = V k := id_hi
  have h1 : rl cn nP nD V V J J R := glue1 hr hx1 rfl
  refine lv_aload_n hx hb dL_law_242 rfl (lv_at hl 2 rfl) ?_
  refine lv_aload_n hx hb dL_law_243 rfl (lv_at hl 0 rfl) ?_
  refine lv_iload_n hx hb dL_law_244 rfl (lv_at hl 3 rfl) ?_
  refine lv_iconst (v := 1) hx hb dL_law_245 (by decide) ?_
  refine lv_iadd hx hb dL_law_246 ?_
  refine w_i (show nI i + 1 = nI (i + 1) from nI_add i 1) ?_
  refine w_sc (t := i + 1) hx hb hX hbl hbA hS (by omega) hL dL_law_247 ?_
  refine lv_aload_n hx hb dL_law_248 rfl (lv_at hl 0 rfl) ?_
  refine lv_iload_n hx hb dL_law_249 rfl (lv_at hl 3 rfl) ?_
  refine lv_iconst (v := 2) hx hb dL_law_250 (by decide) ?_
  refine lv_iadd hx hb dL_law_251 ?_
  refine w_i (show nI i + 2 = nI (i + 2) from nI_add i 2) ?_
  refine w_sc (t := i + 2) hx hb hX hbl hbA hS (by omega) hL dL_law_252 ?_
  refine w_ci (w_runV ⟨hx, hb, hml, hown, hts⟩ (c_X8_told (lawX_ok ad0 mi) l D q V J R nP nD (xs (i + 1)) (xs (i + 2))  oM h1.1.2.2.2.2.1 h30 h1.1.2.2.2.2.2 h40 (rl_way h1)) (lawX_ok ad0 mi) (cwV 2 hts gL_law_X8_told rfl rfl rfl (by decide +kernel) ⟨Nat.le_of_ble_eq_true rfl, Nat.le_of_ble_eq_true rfl⟩) hK hW hS hA hXs (w_rcv hK hW oM.1.1 oM.1.2 (by decide) rfl) rfl hl.1 rfl (Nat.le_of_ble_eq_true rfl) dL_law_253 ⟨by show cells + 0 ≤ 600000; omega, by show slots + 0 ≤ 7302250; omega⟩) hW hS hA (fun H locs hW hS => ?_)
  obtain ⟨he, h2⟩ := e_told h1 (xs (i + 1)) (xs (i + 2))
  refine lv_icmp_eq (tgt := 862) hx hb dL_law_256 (by decide) (fun _ => ?_) (fun z => absurd he z)
  refine W.widen (k := cells + 2) (n := slots + 112) (by omega) (by omega) ?_
  exact kk dm ln ad _ _ R nP nD H locs ls ⟨hW, oX, oM, oS, glue2 h2 (mf_told) rfl (by omega), hag⟩ hS hl
set_option maxHeartbeats 4000000 in
set_option maxRecDepth 100000 in
theorem lc_puff {p : Program} {l : Launch} {e : Env} {s : State} {m : MethodId} {args : Array Value} {below : List Frame} {meth : Method} {c : Code} {b L : Nat} {xs : Nat → Int32} {A : Nat → Prop} {D : va_G} {q : Cq} {ad0 : Nat → Nat} {mi : Nat} {Q : State → Prop} {H : Heap} {locs : List Loc} {cells slots : Nat} {ls : Array Slot} {dm : List Nat} {ln ad : Nat → Nat} {V : Mv} {J : Mj} {R : Mr} {nP nD i cn : Nat} (C : LC p s m args c b L xs A D q ad0 mi) (hi : i + 4 ≤ L) (hcn : cn ≤ 1000) (hI : LI ad0 A D q cn H dm ln ad V J R nP nD) (hS : va_S A s.heap H locs) (hce : cells + 2 ≤ 600000) (hsl : slots + 112 ≤ 7302250) (hl : lv_has ls 4 [(0, .ref b), (1, .ref (ad 0)), (2, .ref (ad 1000)), (3, .int (nI i))]) (kk : ∀ (dm' : List Nat) (ln' ad' : Nat → Nat) (V' : Mv) (J' : Mj) (R' : Mr) (nP' nD' : Nat) (H' : Heap) (locs' : List Loc) (ls' : Array Slot), LI ad0 A D q (cn + 1) H' dm' ln' ad' V' J' R' nP' nD' → va_S A s.heap H' locs' → lv_has ls' 4 [(0, .ref b), (1, .ref (ad' 0)), (2, .ref (ad' 1000)), (3, .int (nI i))] → W p l e room_1 s m args below meth c H' locs' (cells + 2) (slots + 112) Q (F0 m 862 ls' [])) : W p l e room_1 s m args below meth c H locs cells slots Q (F0 m 304 ls []) := by
  obtain ⟨hx, hb, hml, hown, hts, hX, hbl, hbA, hK, hA, hXs, hL⟩ := C
  obtain ⟨hW, oX, oM, oS, hr, hag⟩ := hI
  have h30 := hr.1.1
  have h40 := hr.1.2.1
  have hp : V 1 2 = nI nP := hr.1.2.2.1
  have hq : V 2 2 = nI nD := hr.1.2.2.2.1
  refine lv_aload_n hx hb dL_law_304 rfl (lv_at hl 1 rfl) ?_
  refine w_ci (w_runV ⟨hx, hb, hml, hown, hts⟩ (c_X7_puff (lawX_ok ad0 mi) l D q V J R nP nD   oX hp hq ) (lawX_ok ad0 mi) (cwV 0 hts gL_law_X7_puff rfl rfl rfl (by decide +kernel) ⟨Nat.le_of_ble_eq_true rfl, Nat.le_of_ble_eq_true rfl⟩) hK hW hS hA hXs (w_rcv hK hW (oX.1 0 (by decide)).1 (show kdG 0 = 8 from (oX.1 0 (by decide)).2.1) (by decide) rfl) rfl hl.1 rfl (Nat.le_of_ble_eq_true rfl) dL_law_305 ⟨by show cells + 0 ≤ 600000; omega, by show slots + 0 ≤ 7302250; omega⟩) hW hS hA (fun H locs hW hS => ?_)
  have hx1 : ∀ k, 1000 ≤ k → (x_puffRV V R nD) k = V k := xf_puff h40
  have h1 : rl cn nP nD V (x_puffRV V R nD) J (x_puffRJ V J) R := glue1 hr hx1 xf_puffJ
  refine lv_aload_n hx hb dL_law_308 rfl (lv_at hl 2 rfl) ?_
  refine w_ci (w_runV ⟨hx, hb, hml, hown, hts⟩ (c_X8_puff (lawX_ok ad0 mi) l D q (x_puffRV V R nD) (x_puffRJ V J) R nP nD   oM h1.1.2.2.2.2.1 h30 h1.1.2.2.2.2.2 h40 (rl_way h1) (rl_on h1)) (lawX_ok ad0 mi) (cwV 0 hts gL_law_X8_puff rfl rfl rfl (by decide +kernel) ⟨Nat.le_of_ble_eq_true rfl, Nat.le_of_ble_eq_true rfl⟩) hK hW hS hA hXs (w_rcv hK hW oM.1.1 oM.1.2 (by decide) rfl) rfl hl.1 rfl (Nat.le_of_ble_eq_true rfl) dL_law_309 ⟨by show cells + 0 ≤ 600000; omega, by show slots + 0 ≤ 7302250; omega⟩) hW hS hA (fun H locs hW hS => ?_)
  obtain ⟨he, h2⟩ := e_puff (by omega) h1
  refine lv_icmp_eq (tgt := 862) hx hb dL_law_312 (by decide) (fun _ => ?_) (fun z => absurd he z)
  refine W.widen (k := cells + 2) (n := slots + 112) (by omega) (by omega) ?_
  exact kk dm ln ad _ _ R nP nD H locs ls ⟨hW, oX, oM, oS, glue2 h2 (mf_puff) mf_puffJ (by omega), hag⟩ hS hl
set_option maxHeartbeats 4000000 in
set_option maxRecDepth 100000 in
theorem lc_drift {p : Program} {l : Launch} {e : Env} {s : State} {m : MethodId} {args : Array Value} {below : List Frame} {meth : Method} {c : Code} {b L : Nat} {xs : Nat → Int32} {A : Nat → Prop} {D : va_G} {q : Cq} {ad0 : Nat → Nat} {mi : Nat} {Q : State → Prop} {H : Heap} {locs : List Loc} {cells slots : Nat} {ls : Array Slot} {dm : List Nat} {ln ad : Nat → Nat} {V : Mv} {J : Mj} {R : Mr} {nP nD i cn : Nat} (C : LC p s m args c b L xs A D q ad0 mi) (hi : i + 4 ≤ L) (hcn : cn ≤ 1000) (hI : LI ad0 A D q cn H dm ln ad V J R nP nD) (hS : va_S A s.heap H locs) (hce : cells + 2 ≤ 600000) (hsl : slots + 112 ≤ 7302250) (hl : lv_has ls 4 [(0, .ref b), (1, .ref (ad 0)), (2, .ref (ad 1000)), (3, .int (nI i))]) (kk : ∀ (dm' : List Nat) (ln' ad' : Nat → Nat) (V' : Mv) (J' : Mj) (R' : Mr) (nP' nD' : Nat) (H' : Heap) (locs' : List Loc) (ls' : Array Slot), LI ad0 A D q (cn + 1) H' dm' ln' ad' V' J' R' nP' nD' → va_S A s.heap H' locs' → lv_has ls' 4 [(0, .ref b), (1, .ref (ad' 0)), (2, .ref (ad' 1000)), (3, .int (nI i))] → W p l e room_1 s m args below meth c H' locs' (cells + 2) (slots + 112) Q (F0 m 862 ls' [])) : W p l e room_1 s m args below meth c H locs cells slots Q (F0 m 317 ls []) := by
  obtain ⟨hx, hb, hml, hown, hts, hX, hbl, hbA, hK, hA, hXs, hL⟩ := C
  obtain ⟨hW, oX, oM, oS, hr, hag⟩ := hI
  have h30 := hr.1.1
  have h40 := hr.1.2.1
  have hp : V 1 2 = nI nP := hr.1.2.2.1
  have hq : V 2 2 = nI nD := hr.1.2.2.2.1
  refine lv_aload_n hx hb dL_law_317 rfl (lv_at hl 1 rfl) ?_
  refine lv_aload_n hx hb dL_law_318 rfl (lv_at hl 0 rfl) ?_
  refine lv_iload_n hx hb dL_law_319 rfl (lv_at hl 3 rfl) ?_
  refine lv_iconst (v := 1) hx hb dL_law_320 (by decide) ?_
  refine lv_iadd hx hb dL_law_321 ?_
  refine w_i (show nI i + 1 = nI (i + 1) from nI_add i 1) ?_
  refine w_sc (t := i + 1) hx hb hX hbl hbA hS (by omega) hL dL_law_322 ?_
  refine w_ci (w_runV ⟨hx, hb, hml, hown, hts⟩ (c_X7_drift (lawX_ok ad0 mi) l D q V J R nP nD (xs (i + 1))  oX hp hq ) (lawX_ok ad0 mi) (cwV 1 hts gL_law_X7_drift rfl rfl rfl (by decide +kernel) ⟨Nat.le_of_ble_eq_true rfl, Nat.le_of_ble_eq_true rfl⟩) hK hW hS hA hXs (w_rcv hK hW (oX.1 0 (by decide)).1 (show kdG 0 = 8 from (oX.1 0 (by decide)).2.1) (by decide) rfl) rfl hl.1 rfl (Nat.le_of_ble_eq_true rfl) dL_law_323 ⟨by show cells + 0 ≤ 600000; omega, by show slots + 0 ≤ 7302250; omega⟩) hW hS hA (fun H locs hW hS => ?_)
  have hx1 : ∀ k, 1000 ≤ k → (x_driftV V (xs (i + 1))) k = V k := xf_drift
  have h1 : rl cn nP nD V (x_driftV V (xs (i + 1))) J J R := glue1 hr hx1 rfl
  refine lv_aload_n hx hb dL_law_326 rfl (lv_at hl 2 rfl) ?_
  refine lv_aload_n hx hb dL_law_327 rfl (lv_at hl 0 rfl) ?_
  refine lv_iload_n hx hb dL_law_328 rfl (lv_at hl 3 rfl) ?_
  refine lv_iconst (v := 1) hx hb dL_law_329 (by decide) ?_
  refine lv_iadd hx hb dL_law_330 ?_
  refine w_i (show nI i + 1 = nI (i + 1) from nI_add i 1) ?_
  refine w_sc (t := i + 1) hx hb hX hbl hbA hS (by omega) hL dL_law_331 ?_
  refine w_ci (w_runV ⟨hx, hb, hml, hown, hts⟩ (c_X8_drift (lawX_ok ad0 mi) l D q (x_driftV V (xs (i + 1))) J R nP nD (xs (i + 1))  oM h1.1.2.2.2.2.1 h30 h1.1.2.2.2.2.2 h40 ) (lawX_ok ad0 mi) (cwV 1 hts gL_law_X8_drift rfl rfl rfl (by decide +kernel) ⟨Nat.le_of_ble_eq_true rfl, Nat.le_of_ble_eq_true rfl⟩) hK hW hS hA hXs (w_rcv hK hW oM.1.1 oM.1.2 (by decide) rfl) rfl hl.1 rfl (Nat.le_of_ble_eq_true rfl) dL_law_332 ⟨by show cells + 0 ≤ 600000; omega, by show slots + 0 ≤ 7302250; omega⟩) hW hS hA (fun H locs hW hS => ?_)
  obtain ⟨he, h2⟩ := e_drift h1 (xs (i + 1))
  refine lv_icmp_eq (tgt := 862) hx hb dL_law_335 (by decide) (fun _ => ?_) (fun z => absurd he z)
  refine W.widen (k := cells + 2) (n := slots + 112) (by omega) (by omega) ?_
  exact kk dm ln ad _ _ R nP nD H locs ls ⟨hW, oX, oM, oS, glue2 h2 (mf_drift) rfl (by omega), hag⟩ hS hl
set_option maxHeartbeats 4000000 in
set_option maxRecDepth 100000 in
theorem lc_sight {p : Program} {l : Launch} {e : Env} {s : State} {m : MethodId} {args : Array Value} {below : List Frame} {meth : Method} {c : Code} {b L : Nat} {xs : Nat → Int32} {A : Nat → Prop} {D : va_G} {q : Cq} {ad0 : Nat → Nat} {mi : Nat} {Q : State → Prop} {H : Heap} {locs : List Loc} {cells slots : Nat} {ls : Array Slot} {dm : List Nat} {ln ad : Nat → Nat} {V : Mv} {J : Mj} {R : Mr} {nP nD i cn : Nat} (C : LC p s m args c b L xs A D q ad0 mi) (hi : i + 4 ≤ L) (hcn : cn ≤ 1000) (hI : LI ad0 A D q cn H dm ln ad V J R nP nD) (hS : va_S A s.heap H locs) (hce : cells + 2 ≤ 600000) (hsl : slots + 112 ≤ 7302250) (hl : lv_has ls 4 [(0, .ref b), (1, .ref (ad 0)), (2, .ref (ad 1000)), (3, .int (nI i))]) (kk : ∀ (dm' : List Nat) (ln' ad' : Nat → Nat) (V' : Mv) (J' : Mj) (R' : Mr) (nP' nD' : Nat) (H' : Heap) (locs' : List Loc) (ls' : Array Slot), LI ad0 A D q (cn + 1) H' dm' ln' ad' V' J' R' nP' nD' → va_S A s.heap H' locs' → lv_has ls' 4 [(0, .ref b), (1, .ref (ad' 0)), (2, .ref (ad' 1000)), (3, .int (nI i))] → W p l e room_1 s m args below meth c H' locs' (cells + 2) (slots + 112) Q (F0 m 862 ls' [])) : W p l e room_1 s m args below meth c H locs cells slots Q (F0 m 340 ls []) := by
  obtain ⟨hx, hb, hml, hown, hts, hX, hbl, hbA, hK, hA, hXs, hL⟩ := C
  obtain ⟨hW, oX, oM, oS, hr, hag⟩ := hI
  have h30 := hr.1.1
  have h40 := hr.1.2.1
  have hp : V 1 2 = nI nP := hr.1.2.2.1
  have hq : V 2 2 = nI nD := hr.1.2.2.2.1
  refine lv_aload_n hx hb dL_law_340 rfl (lv_at hl 1 rfl) ?_
  refine w_cl (w_runV ⟨hx, hb, hml, hown, hts⟩ (c_X7_sight (lawX_ok ad0 mi) l D q V J R nP nD   oX hp hq ) (lawX_ok ad0 mi) (cwV 0 hts gL_law_X7_sight rfl rfl rfl (by decide +kernel) ⟨Nat.le_of_ble_eq_true rfl, Nat.le_of_ble_eq_true rfl⟩) hK hW hS hA hXs (w_rcv hK hW (oX.1 0 (by decide)).1 (show kdG 0 = 8 from (oX.1 0 (by decide)).2.1) (by decide) rfl) rfl hl.1 rfl (Nat.le_of_ble_eq_true rfl) dL_law_341 ⟨by show cells + 0 ≤ 600000; omega, by show slots + 0 ≤ 7302250; omega⟩) hW hS hA (fun H locs hW hS => ?_)
  have hx1 : ∀ k, 1000 ≤ k → (u2 V 3 3 (V 3 3 + 1)) k = V k := fun k hk => u2_ne (by omega)
  have h1 : rl cn nP nD V (u2 V 3 3 (V 3 3 + 1)) J (u2 (u2 J 3 2 0) 3 4 0) R := glue1 hr hx1 (by rw [u2_ne (by decide), u2_ne (by decide)])
  refine lv_aload_n hx hb dL_law_344 rfl (lv_at hl 2 rfl) ?_
  refine w_cl (w_runV ⟨hx, hb, hml, hown, hts⟩ (c_X8_sight (lawX_ok ad0 mi) l D q (u2 V 3 3 (V 3 3 + 1)) (u2 (u2 J 3 2 0) 3 4 0) R nP nD   oM h1.1.2.2.2.2.1 h30 h1.1.2.2.2.2.2 h40 ) (lawX_ok ad0 mi) (cwV 0 hts gL_law_X8_sight rfl rfl rfl (by decide +kernel) ⟨Nat.le_of_ble_eq_true rfl, Nat.le_of_ble_eq_true rfl⟩) hK hW hS hA hXs (w_rcv hK hW oM.1.1 oM.1.2 (by decide) rfl) rfl hl.1 rfl (Nat.le_of_ble_eq_true rfl) dL_law_345 ⟨by show cells + 0 ≤ 600000; omega, by show slots + 0 ≤ 7302250; omega⟩) hW hS hA (fun H locs hW hS => ?_)
  obtain ⟨he, h2⟩ := sight_g h1
  refine W.lcmp hx hb dL_law_348 ?_
  refine lv_if_eq (tgt := 862) hx hb dL_law_349 (by decide) (fun _ => ?_) (fun z => absurd (by rw [he]; exact lg_self _) z)
  refine W.widen (k := cells + 2) (n := slots + 112) (by omega) (by omega) ?_
  exact kk dm ln ad _ _ R nP nD H locs ls ⟨hW, oX, oM, oS, glue2 h2 (fun k hk => by rw [u2_ne (by omega), u2_ne (by omega), u2_ne (by omega)]) (u2_ne (by decide)) (by omega), hag⟩ hS hl
set_option maxHeartbeats 4000000 in
set_option maxRecDepth 100000 in
theorem lc_now {p : Program} {l : Launch} {e : Env} {s : State} {m : MethodId} {args : Array Value} {below : List Frame} {meth : Method} {c : Code} {b L : Nat} {xs : Nat → Int32} {A : Nat → Prop} {D : va_G} {q : Cq} {ad0 : Nat → Nat} {mi : Nat} {Q : State → Prop} {H : Heap} {locs : List Loc} {cells slots : Nat} {ls : Array Slot} {dm : List Nat} {ln ad : Nat → Nat} {V : Mv} {J : Mj} {R : Mr} {nP nD i cn : Nat} (C : LC p s m args c b L xs A D q ad0 mi) (hi : i + 4 ≤ L) (hcn : cn ≤ 1000) (hI : LI ad0 A D q cn H dm ln ad V J R nP nD) (hS : va_S A s.heap H locs) (hce : cells + 2 ≤ 600000) (hsl : slots + 112 ≤ 7302250) (hl : lv_has ls 4 [(0, .ref b), (1, .ref (ad 0)), (2, .ref (ad 1000)), (3, .int (nI i))]) (kk : ∀ (dm' : List Nat) (ln' ad' : Nat → Nat) (V' : Mv) (J' : Mj) (R' : Mr) (nP' nD' : Nat) (H' : Heap) (locs' : List Loc) (ls' : Array Slot), LI ad0 A D q (cn + 1) H' dm' ln' ad' V' J' R' nP' nD' → va_S A s.heap H' locs' → lv_has ls' 4 [(0, .ref b), (1, .ref (ad' 0)), (2, .ref (ad' 1000)), (3, .int (nI i))] → W p l e room_1 s m args below meth c H' locs' (cells + 2) (slots + 112) Q (F0 m 862 ls' [])) : W p l e room_1 s m args below meth c H locs cells slots Q (F0 m 354 ls []) := by
  obtain ⟨hx, hb, hml, hown, hts, hX, hbl, hbA, hK, hA, hXs, hL⟩ := C
  obtain ⟨hW, oX, oM, oS, hr, hag⟩ := hI
  have h30 := hr.1.1
  have h40 := hr.1.2.1
  have hp : V 1 2 = nI nP := hr.1.2.2.1
  have hq : V 2 2 = nI nD := hr.1.2.2.2.1
  refine lv_aload_n hx hb dL_law_354 rfl (lv_at hl 1 rfl) ?_
  refine lv_aload_n hx hb dL_law_355 rfl (lv_at hl 0 rfl) ?_
  refine lv_iload_n hx hb dL_law_356 rfl (lv_at hl 3 rfl) ?_
  refine lv_iconst (v := 1) hx hb dL_law_357 (by decide) ?_
  refine lv_iadd hx hb dL_law_358 ?_
  refine w_i (show nI i + 1 = nI (i + 1) from nI_add i 1) ?_
  refine w_sc (t := i + 1) hx hb hX hbl hbA hS (by omega) hL dL_law_359 ?_
  refine w_cl (w_runV ⟨hx, hb, hml, hown, hts⟩ (c_X7_now (lawX_ok ad0 mi) l D q V J R nP nD (xs (i + 1))  oX hp hq ) (lawX_ok ad0 mi) (cwV 1 hts gL_law_X7_now rfl rfl rfl (by decide +kernel) ⟨Nat.le_of_ble_eq_true rfl, Nat.le_of_ble_eq_true rfl⟩) hK hW hS hA hXs (w_rcv hK hW (oX.1 0 (by decide)).1 (show kdG 0 = 8 from (oX.1 0 (by decide)).2.1) (by decide) rfl) rfl hl.1 rfl (Nat.le_of_ble_eq_true rfl) dL_law_360 ⟨by show cells + 0 ≤ 600000; omega, by show slots + 0 ≤ 7302250; omega⟩) hW hS hA (fun H locs hW hS => ?_)
  have hx1 : ∀ k, 1000 ≤ k → V k = V k := id_hi
  have h1 : rl cn nP nD V V J J R := glue1 hr hx1 rfl
  refine lv_aload_n hx hb dL_law_363 rfl (lv_at hl 2 rfl) ?_
  refine lv_aload_n hx hb dL_law_364 rfl (lv_at hl 0 rfl) ?_
  refine lv_iload_n hx hb dL_law_365 rfl (lv_at hl 3 rfl) ?_
  refine lv_iconst (v := 1) hx hb dL_law_366 (by decide) ?_
  refine lv_iadd hx hb dL_law_367 ?_
  refine w_i (show nI i + 1 = nI (i + 1) from nI_add i 1) ?_
  refine w_sc (t := i + 1) hx hb hX hbl hbA hS (by omega) hL dL_law_368 ?_
  refine w_cl (w_runV ⟨hx, hb, hml, hown, hts⟩ (c_X8_now (lawX_ok ad0 mi) l D q V J R nP nD (xs (i + 1))  oM h1.1.2.2.2.2.1 h30 h1.1.2.2.2.2.2 h40 ) (lawX_ok ad0 mi) (cwV 1 hts gL_law_X8_now rfl rfl rfl (by decide +kernel) ⟨Nat.le_of_ble_eq_true rfl, Nat.le_of_ble_eq_true rfl⟩) hK hW hS hA hXs (w_rcv hK hW oM.1.1 oM.1.2 (by decide) rfl) rfl hl.1 rfl (Nat.le_of_ble_eq_true rfl) dL_law_369 ⟨by show cells + 0 ≤ 600000; omega, by show slots + 0 ≤ 7302250; omega⟩) hW hS hA (fun H locs hW hS => ?_)
  obtain ⟨he, h2⟩ := And.intro (e_now h1 (xs (i + 1))) (rl_0 (x := 0) h1)
  refine W.lcmp hx hb dL_law_372 ?_
  refine lv_if_eq (tgt := 862) hx hb dL_law_373 (by decide) (fun _ => ?_) (fun z => absurd (by rw [he]; exact lg_self _) z)
  refine W.widen (k := cells + 2) (n := slots + 112) (by omega) (by omega) ?_
  exact kk dm ln ad _ _ R nP nD H locs ls ⟨hW, oX, oM, oS, glue2 h2 (u0_lo) rfl (by omega), hag⟩ hS hl
set_option maxHeartbeats 4000000 in
set_option maxRecDepth 100000 in
theorem lc_look {p : Program} {l : Launch} {e : Env} {s : State} {m : MethodId} {args : Array Value} {below : List Frame} {meth : Method} {c : Code} {b L : Nat} {xs : Nat → Int32} {A : Nat → Prop} {D : va_G} {q : Cq} {ad0 : Nat → Nat} {mi : Nat} {Q : State → Prop} {H : Heap} {locs : List Loc} {cells slots : Nat} {ls : Array Slot} {dm : List Nat} {ln ad : Nat → Nat} {V : Mv} {J : Mj} {R : Mr} {nP nD i cn : Nat} (C : LC p s m args c b L xs A D q ad0 mi) (hi : i + 4 ≤ L) (hcn : cn ≤ 1000) (hI : LI ad0 A D q cn H dm ln ad V J R nP nD) (hS : va_S A s.heap H locs) (hce : cells + 2 ≤ 600000) (hsl : slots + 112 ≤ 7302250) (hl : lv_has ls 4 [(0, .ref b), (1, .ref (ad 0)), (2, .ref (ad 1000)), (3, .int (nI i))]) (kk : ∀ (dm' : List Nat) (ln' ad' : Nat → Nat) (V' : Mv) (J' : Mj) (R' : Mr) (nP' nD' : Nat) (H' : Heap) (locs' : List Loc) (ls' : Array Slot), LI ad0 A D q (cn + 1) H' dm' ln' ad' V' J' R' nP' nD' → va_S A s.heap H' locs' → lv_has ls' 4 [(0, .ref b), (1, .ref (ad' 0)), (2, .ref (ad' 1000)), (3, .int (nI i))] → W p l e room_1 s m args below meth c H' locs' (cells + 2) (slots + 112) Q (F0 m 862 ls' [])) : W p l e room_1 s m args below meth c H locs cells slots Q (F0 m 378 ls []) := by
  obtain ⟨hx, hb, hml, hown, hts, hX, hbl, hbA, hK, hA, hXs, hL⟩ := C
  obtain ⟨hW, oX, oM, oS, hr, hag⟩ := hI
  have h30 := hr.1.1
  have h40 := hr.1.2.1
  have hp : V 1 2 = nI nP := hr.1.2.2.1
  have hq : V 2 2 = nI nD := hr.1.2.2.2.1
  refine lv_aload_n hx hb dL_law_378 rfl (lv_at hl 1 rfl) ?_
  refine lv_aload_n hx hb dL_law_379 rfl (lv_at hl 0 rfl) ?_
  refine lv_iload_n hx hb dL_law_380 rfl (lv_at hl 3 rfl) ?_
  refine lv_iconst (v := 1) hx hb dL_law_381 (by decide) ?_
  refine lv_iadd hx hb dL_law_382 ?_
  refine w_i (show nI i + 1 = nI (i + 1) from nI_add i 1) ?_
  refine w_sc (t := i + 1) hx hb hX hbl hbA hS (by omega) hL dL_law_383 ?_
  refine w_ci (w_runV ⟨hx, hb, hml, hown, hts⟩ (c_X7_look (lawX_ok ad0 mi) l D q V J R nP nD (xs (i + 1))  oX hp hq ) (lawX_ok ad0 mi) (cwV 1 hts gL_law_X7_look rfl rfl rfl (by decide +kernel) ⟨Nat.le_of_ble_eq_true rfl, Nat.le_of_ble_eq_true rfl⟩) hK hW hS hA hXs (w_rcv hK hW (oX.1 0 (by decide)).1 (show kdG 0 = 8 from (oX.1 0 (by decide)).2.1) (by decide) rfl) rfl hl.1 rfl (Nat.le_of_ble_eq_true rfl) dL_law_384 ⟨by show cells + 0 ≤ 600000; omega, by show slots + 0 ≤ 7302250; omega⟩) hW hS hA (fun H locs hW hS => ?_)
  have hx1 : ∀ k, 1000 ≤ k → (x_lookV V nD (xs (i + 1))) k = V k := xf_look h40
  have h1 : rl cn nP nD V (x_lookV V nD (xs (i + 1))) J J R := glue1 hr hx1 rfl
  refine lv_aload_n hx hb dL_law_387 rfl (lv_at hl 2 rfl) ?_
  refine lv_aload_n hx hb dL_law_388 rfl (lv_at hl 0 rfl) ?_
  refine lv_iload_n hx hb dL_law_389 rfl (lv_at hl 3 rfl) ?_
  refine lv_iconst (v := 1) hx hb dL_law_390 (by decide) ?_
  refine lv_iadd hx hb dL_law_391 ?_
  refine w_i (show nI i + 1 = nI (i + 1) from nI_add i 1) ?_
  refine w_sc (t := i + 1) hx hb hX hbl hbA hS (by omega) hL dL_law_392 ?_
  refine w_ci (w_runV ⟨hx, hb, hml, hown, hts⟩ (c_X8_look (lawX_ok ad0 mi) l D q (x_lookV V nD (xs (i + 1))) J R nP nD (xs (i + 1))  oM h1.1.2.2.2.2.1 h30 h1.1.2.2.2.2.2 h40 ) (lawX_ok ad0 mi) (cwV 1 hts gL_law_X8_look rfl rfl rfl (by decide +kernel) ⟨Nat.le_of_ble_eq_true rfl, Nat.le_of_ble_eq_true rfl⟩) hK hW hS hA hXs (w_rcv hK hW oM.1.1 oM.1.2 (by decide) rfl) rfl hl.1 rfl (Nat.le_of_ble_eq_true rfl) dL_law_393 ⟨by show cells + 0 ≤ 600000; omega, by show slots + 0 ≤ 7302250; omega⟩) hW hS hA (fun H locs hW hS => ?_)
  obtain ⟨he, h2⟩ := e_look h1 (xs (i + 1))
  refine lv_icmp_eq (tgt := 862) hx hb dL_law_396 (by decide) (fun _ => ?_) (fun z => absurd he z)
  refine W.widen (k := cells + 2) (n := slots + 112) (by omega) (by omega) ?_
  exact kk dm ln ad _ _ R nP nD H locs ls ⟨hW, oX, oM, oS, glue2 h2 (mf_look) rfl (by omega), hag⟩ hS hl
set_option maxHeartbeats 4000000 in
set_option maxRecDepth 100000 in
theorem lc_state {p : Program} {l : Launch} {e : Env} {s : State} {m : MethodId} {args : Array Value} {below : List Frame} {meth : Method} {c : Code} {b L : Nat} {xs : Nat → Int32} {A : Nat → Prop} {D : va_G} {q : Cq} {ad0 : Nat → Nat} {mi : Nat} {Q : State → Prop} {H : Heap} {locs : List Loc} {cells slots : Nat} {ls : Array Slot} {dm : List Nat} {ln ad : Nat → Nat} {V : Mv} {J : Mj} {R : Mr} {nP nD i cn : Nat} (C : LC p s m args c b L xs A D q ad0 mi) (hi : i + 4 ≤ L) (hcn : cn ≤ 1000) (hI : LI ad0 A D q cn H dm ln ad V J R nP nD) (hS : va_S A s.heap H locs) (hce : cells + 2 ≤ 600000) (hsl : slots + 112 ≤ 7302250) (hl : lv_has ls 4 [(0, .ref b), (1, .ref (ad 0)), (2, .ref (ad 1000)), (3, .int (nI i))]) (kk : ∀ (dm' : List Nat) (ln' ad' : Nat → Nat) (V' : Mv) (J' : Mj) (R' : Mr) (nP' nD' : Nat) (H' : Heap) (locs' : List Loc) (ls' : Array Slot), LI ad0 A D q (cn + 1) H' dm' ln' ad' V' J' R' nP' nD' → va_S A s.heap H' locs' → lv_has ls' 4 [(0, .ref b), (1, .ref (ad' 0)), (2, .ref (ad' 1000)), (3, .int (nI i))] → W p l e room_1 s m args below meth c H' locs' (cells + 2) (slots + 112) Q (F0 m 862 ls' [])) : W p l e room_1 s m args below meth c H locs cells slots Q (F0 m 401 ls []) := by
  obtain ⟨hx, hb, hml, hown, hts, hX, hbl, hbA, hK, hA, hXs, hL⟩ := C
  obtain ⟨hW, oX, oM, oS, hr, hag⟩ := hI
  have h30 := hr.1.1
  have h40 := hr.1.2.1
  have hp : V 1 2 = nI nP := hr.1.2.2.1
  have hq : V 2 2 = nI nD := hr.1.2.2.2.1
  refine lv_aload_n hx hb dL_law_401 rfl (lv_at hl 1 rfl) ?_
  refine lv_aload_n hx hb dL_law_402 rfl (lv_at hl 0 rfl) ?_
  refine lv_iload_n hx hb dL_law_403 rfl (lv_at hl 3 rfl) ?_
  refine lv_iconst (v := 1) hx hb dL_law_404 (by decide) ?_
  refine lv_iadd hx hb dL_law_405 ?_
  refine w_i (show nI i + 1 = nI (i + 1) from nI_add i 1) ?_
  refine w_sc (t := i + 1) hx hb hX hbl hbA hS (by omega) hL dL_law_406 ?_
  refine lv_aload_n hx hb dL_law_407 rfl (lv_at hl 0 rfl) ?_
  refine lv_iload_n hx hb dL_law_408 rfl (lv_at hl 3 rfl) ?_
  refine lv_iconst (v := 2) hx hb dL_law_409 (by decide) ?_
  refine lv_iadd hx hb dL_law_410 ?_
  refine w_i (show nI i + 2 = nI (i + 2) from nI_add i 2) ?_
  refine w_sc (t := i + 2) hx hb hX hbl hbA hS (by omega) hL dL_law_411 ?_
  refine w_ci (w_runV ⟨hx, hb, hml, hown, hts⟩ (c_X7_state (lawX_ok ad0 mi) l D q V J R nP nD (xs (i + 1)) (xs (i + 2))  oX hp hq ) (lawX_ok ad0 mi) (cwV 2 hts gL_law_X7_state rfl rfl rfl (by decide +kernel) ⟨Nat.le_of_ble_eq_true rfl, Nat.le_of_ble_eq_true rfl⟩) hK hW hS hA hXs (w_rcv hK hW (oX.1 0 (by decide)).1 (show kdG 0 = 8 from (oX.1 0 (by decide)).2.1) (by decide) rfl) rfl hl.1 rfl (Nat.le_of_ble_eq_true rfl) dL_law_412 ⟨by show cells + 0 ≤ 600000; omega, by show slots + 0 ≤ 7302250; omega⟩) hW hS hA (fun H locs hW hS => ?_)
  have hx1 : ∀ k, 1000 ≤ k → V k = V k := id_hi
  have h1 : rl cn nP nD V V J J R := glue1 hr hx1 rfl
  refine lv_aload_n hx hb dL_law_415 rfl (lv_at hl 2 rfl) ?_
  refine lv_aload_n hx hb dL_law_416 rfl (lv_at hl 0 rfl) ?_
  refine lv_iload_n hx hb dL_law_417 rfl (lv_at hl 3 rfl) ?_
  refine lv_iconst (v := 1) hx hb dL_law_418 (by decide) ?_
  refine lv_iadd hx hb dL_law_419 ?_
  refine w_i (show nI i + 1 = nI (i + 1) from nI_add i 1) ?_
  refine w_sc (t := i + 1) hx hb hX hbl hbA hS (by omega) hL dL_law_420 ?_
  refine lv_aload_n hx hb dL_law_421 rfl (lv_at hl 0 rfl) ?_
  refine lv_iload_n hx hb dL_law_422 rfl (lv_at hl 3 rfl) ?_
  refine lv_iconst (v := 2) hx hb dL_law_423 (by decide) ?_
  refine lv_iadd hx hb dL_law_424 ?_
  refine w_i (show nI i + 2 = nI (i + 2) from nI_add i 2) ?_
  refine w_sc (t := i + 2) hx hb hX hbl hbA hS (by omega) hL dL_law_425 ?_
  refine w_ci (w_runV ⟨hx, hb, hml, hown, hts⟩ (c_X8_state (lawX_ok ad0 mi) l D q V J R nP nD (xs (i + 1)) (xs (i + 2))  oM h1.1.2.2.2.2.1 h30 h1.1.2.2.2.2.2 h40 ) (lawX_ok ad0 mi) (cwV 2 hts gL_law_X8_state rfl rfl rfl (by decide +kernel) ⟨Nat.le_of_ble_eq_true rfl, Nat.le_of_ble_eq_true rfl⟩) hK hW hS hA hXs (w_rcv hK hW oM.1.1 oM.1.2 (by decide) rfl) rfl hl.1 rfl (Nat.le_of_ble_eq_true rfl) dL_law_426 ⟨by show cells + 0 ≤ 600000; omega, by show slots + 0 ≤ 7302250; omega⟩) hW hS hA (fun H locs hW hS => ?_)
  obtain ⟨he, h2⟩ := And.intro (e_state h1 (xs (i + 1)) (xs (i + 2))) (rl_0 (x := 0) h1)
  refine lv_icmp_eq (tgt := 862) hx hb dL_law_429 (by decide) (fun _ => ?_) (fun z => absurd he z)
  refine W.widen (k := cells + 2) (n := slots + 112) (by omega) (by omega) ?_
  exact kk dm ln ad _ _ R nP nD H locs ls ⟨hW, oX, oM, oS, glue2 h2 (u0_lo) rfl (by omega), hag⟩ hS hl
