set_option maxHeartbeats 4000000 in
set_option maxRecDepth 100000 in
theorem lc_put {p : Program} {l : Launch} {e : Env} {s : State} {m : MethodId} {args : Array Value} {below : List Frame} {meth : Method} {c : Code} {b L : Nat} {xs : Nat → Int32} {A : Nat → Prop} {D : va_G} {q : Cq} {ad0 : Nat → Nat} {mi : Nat} {Q : State → Prop} {H : Heap} {locs : List Loc} {cells slots : Nat} {ls : Array Slot} {dm : List Nat} {ln ad : Nat → Nat} {V : Mv} {J : Mj} {R : Mr} {nP nD i cn : Nat} (C : LC p s m args c b L xs A D q ad0 mi) (hi : i + 4 ≤ L) (hcn : cn ≤ 1000) (hI : LI ad0 A D q cn H dm ln ad V J R nP nD) (hS : va_S A s.heap H locs) (hce : cells + 2 ≤ 600000) (hsl : slots + 112 ≤ 7302250) (hl : lv_has ls 4 [(0, .ref b), (1, .ref (ad 0)), (2, .ref (ad 1000)), (3, .int (nI i))]) (kk : ∀ (dm' : List Nat) (ln' ad' : Nat → Nat) (V' : Mv) (J' : Mj) (R' : Mr) (nP' nD' : Nat) (H' : Heap) (locs' : List Loc) (ls' : Array Slot), LI ad0 A D q (cn + 1) H' dm' ln' ad' V' J' R' nP' nD' → va_S A s.heap H' locs' → lv_has ls' 4 [(0, .ref b), (1, .ref (ad' 0)), (2, .ref (ad' 1000)), (3, .int (nI i))] → W p l e room_1 s m args below meth c H' locs' (cells + 2) (slots + 112) Q (F0 m 862 ls' [])) : W p l e room_1 s m args below meth c H locs cells slots Q (F0 m 434 ls []) := by
  obtain ⟨hx, hb, hml, hown, hts, hX, hbl, hbA, hK, hA, hXs, hL⟩ := C
  obtain ⟨hW, oX, oM, oS, hr, hag⟩ := hI
  have h30 := hr.1.1
  have h40 := hr.1.2.1
  have hp : V 1 2 = nI nP := hr.1.2.2.1
  have hq : V 2 2 = nI nD := hr.1.2.2.2.1
  refine lv_aload_n hx hb dL_law_434 rfl (lv_at hl 1 rfl) ?_
  refine lv_aload_n hx hb dL_law_435 rfl (lv_at hl 0 rfl) ?_
  refine lv_iload_n hx hb dL_law_436 rfl (lv_at hl 3 rfl) ?_
  refine lv_iconst (v := 1) hx hb dL_law_437 (by decide) ?_
  refine lv_iadd hx hb dL_law_438 ?_
  refine w_i (show nI i + 1 = nI (i + 1) from nI_add i 1) ?_
  refine w_sc (t := i + 1) hx hb hX hbl hbA hS (by omega) hL dL_law_439 ?_
  refine lv_aload_n hx hb dL_law_440 rfl (lv_at hl 0 rfl) ?_
  refine lv_iload_n hx hb dL_law_441 rfl (lv_at hl 3 rfl) ?_
  refine lv_iconst (v := 2) hx hb dL_law_442 (by decide) ?_
  refine lv_iadd hx hb dL_law_443 ?_
  refine w_i (show nI i + 2 = nI (i + 2) from nI_add i 2) ?_
  refine w_sc (t := i + 2) hx hb hX hbl hbA hS (by omega) hL dL_law_444 ?_
  refine w_ci (w_runV ⟨hx, hb, hml, hown, hts⟩ (c_X7_put (lawX_ok ad0 mi) l D q V J R nP nD (xs (i + 1)) (xs (i + 2))  oX hp hq ) (lawX_ok ad0 mi) (cwV 2 hts gL_law_X7_put rfl rfl rfl (by decide +kernel) ⟨Nat.le_of_ble_eq_true rfl, Nat.le_of_ble_eq_true rfl⟩) hK hW hS hA hXs (w_rcv hK hW (oX.1 0 (by decide)).1 (show kdG 0 = 8 from (oX.1 0 (by decide)).2.1) (by decide) rfl) rfl hl.1 rfl (Nat.le_of_ble_eq_true rfl) dL_law_445 ⟨by show cells + 0 ≤ 600000; omega, by show slots + 0 ≤ 7302250; omega⟩) hW hS hA (fun H locs hW hS => ?_)
  have hx1 : ∀ k, 1000 ≤ k → (x_putV V nD (xs (i + 1)) (xs (i + 2))) k = V k := xf_put h40
  have h1 : rl cn nP nD V (x_putV V nD (xs (i + 1)) (xs (i + 2))) J J R := glue1 hr hx1 rfl
  refine lv_aload_n hx hb dL_law_448 rfl (lv_at hl 2 rfl) ?_
  refine lv_aload_n hx hb dL_law_449 rfl (lv_at hl 0 rfl) ?_
  refine lv_iload_n hx hb dL_law_450 rfl (lv_at hl 3 rfl) ?_
  refine lv_iconst (v := 1) hx hb dL_law_451 (by decide) ?_
  refine lv_iadd hx hb dL_law_452 ?_
  refine w_i (show nI i + 1 = nI (i + 1) from nI_add i 1) ?_
  refine w_sc (t := i + 1) hx hb hX hbl hbA hS (by omega) hL dL_law_453 ?_
  refine lv_aload_n hx hb dL_law_454 rfl (lv_at hl 0 rfl) ?_
  refine lv_iload_n hx hb dL_law_455 rfl (lv_at hl 3 rfl) ?_
  refine lv_iconst (v := 2) hx hb dL_law_456 (by decide) ?_
  refine lv_iadd hx hb dL_law_457 ?_
  refine w_i (show nI i + 2 = nI (i + 2) from nI_add i 2) ?_
  refine w_sc (t := i + 2) hx hb hX hbl hbA hS (by omega) hL dL_law_458 ?_
  refine w_ci (w_runV ⟨hx, hb, hml, hown, hts⟩ (c_X8_put (lawX_ok ad0 mi) l D q (x_putV V nD (xs (i + 1)) (xs (i + 2))) J R nP nD (xs (i + 1)) (xs (i + 2))  oM h1.1.2.2.2.2.1 h30 h1.1.2.2.2.2.2 h40 ) (lawX_ok ad0 mi) (cwV 2 hts gL_law_X8_put rfl rfl rfl (by decide +kernel) ⟨Nat.le_of_ble_eq_true rfl, Nat.le_of_ble_eq_true rfl⟩) hK hW hS hA hXs (w_rcv hK hW oM.1.1 oM.1.2 (by decide) rfl) rfl hl.1 rfl (Nat.le_of_ble_eq_true rfl) dL_law_459 ⟨by show cells + 0 ≤ 600000; omega, by show slots + 0 ≤ 7302250; omega⟩) hW hS hA (fun H locs hW hS => ?_)
  obtain ⟨he, h2⟩ := e_put (by omega) h1 (xs (i + 1)) (xs (i + 2))
  refine lv_icmp_eq (tgt := 862) hx hb dL_law_462 (by decide) (fun _ => ?_) (fun z => absurd he z)
  refine W.widen (k := cells + 2) (n := slots + 112) (by omega) (by omega) ?_
  exact kk dm ln ad _ _ R nP nD H locs ls ⟨hW, oX, oM, oS, glue2 h2 (mf_put) rfl (by omega), hag⟩ hS hl
set_option maxHeartbeats 4000000 in
set_option maxRecDepth 100000 in
theorem lc_right {p : Program} {l : Launch} {e : Env} {s : State} {m : MethodId} {args : Array Value} {below : List Frame} {meth : Method} {c : Code} {b L : Nat} {xs : Nat → Int32} {A : Nat → Prop} {D : va_G} {q : Cq} {ad0 : Nat → Nat} {mi : Nat} {Q : State → Prop} {H : Heap} {locs : List Loc} {cells slots : Nat} {ls : Array Slot} {dm : List Nat} {ln ad : Nat → Nat} {V : Mv} {J : Mj} {R : Mr} {nP nD i cn : Nat} (C : LC p s m args c b L xs A D q ad0 mi) (hi : i + 4 ≤ L) (hcn : cn ≤ 1000) (hI : LI ad0 A D q cn H dm ln ad V J R nP nD) (hS : va_S A s.heap H locs) (hce : cells + 2 ≤ 600000) (hsl : slots + 112 ≤ 7302250) (hl : lv_has ls 4 [(0, .ref b), (1, .ref (ad 0)), (2, .ref (ad 1000)), (3, .int (nI i))]) (kk : ∀ (dm' : List Nat) (ln' ad' : Nat → Nat) (V' : Mv) (J' : Mj) (R' : Mr) (nP' nD' : Nat) (H' : Heap) (locs' : List Loc) (ls' : Array Slot), LI ad0 A D q (cn + 1) H' dm' ln' ad' V' J' R' nP' nD' → va_S A s.heap H' locs' → lv_has ls' 4 [(0, .ref b), (1, .ref (ad' 0)), (2, .ref (ad' 1000)), (3, .int (nI i))] → W p l e room_1 s m args below meth c H' locs' (cells + 2) (slots + 112) Q (F0 m 862 ls' [])) : W p l e room_1 s m args below meth c H locs cells slots Q (F0 m 467 ls []) := by
  obtain ⟨hx, hb, hml, hown, hts, hX, hbl, hbA, hK, hA, hXs, hL⟩ := C
  obtain ⟨hW, oX, oM, oS, hr, hag⟩ := hI
  have h30 := hr.1.1
  have h40 := hr.1.2.1
  have hp : V 1 2 = nI nP := hr.1.2.2.1
  have hq : V 2 2 = nI nD := hr.1.2.2.2.1
  refine lv_aload_n hx hb dL_law_467 rfl (lv_at hl 1 rfl) ?_
  refine lv_aload_n hx hb dL_law_468 rfl (lv_at hl 0 rfl) ?_
  refine lv_iload_n hx hb dL_law_469 rfl (lv_at hl 3 rfl) ?_
  refine lv_iconst (v := 1) hx hb dL_law_470 (by decide) ?_
  refine lv_iadd hx hb dL_law_471 ?_
  refine w_i (show nI i + 1 = nI (i + 1) from nI_add i 1) ?_
  refine w_sc (t := i + 1) hx hb hX hbl hbA hS (by omega) hL dL_law_472 ?_
  refine w_ci (w_runV ⟨hx, hb, hml, hown, hts⟩ (c_X7_right (lawX_ok ad0 mi) l D q V J R nP nD (xs (i + 1))  oX hp hq ) (lawX_ok ad0 mi) (cwV 1 hts gL_law_X7_right rfl rfl rfl (by decide +kernel) ⟨Nat.le_of_ble_eq_true rfl, Nat.le_of_ble_eq_true rfl⟩) hK hW hS hA hXs (w_rcv hK hW (oX.1 0 (by decide)).1 (show kdG 0 = 8 from (oX.1 0 (by decide)).2.1) (by decide) rfl) rfl hl.1 rfl (Nat.le_of_ble_eq_true rfl) dL_law_473 ⟨by show cells + 0 ≤ 600000; omega, by show slots + 0 ≤ 7302250; omega⟩) hW hS hA (fun H locs hW hS => ?_)
  have hx1 : ∀ k, 1000 ≤ k → (x_rightV V nD (xs (i + 1))) k = V k := xf_right h40
  have h1 : rl cn nP nD V (x_rightV V nD (xs (i + 1))) J J R := glue1 hr hx1 rfl
  refine lv_aload_n hx hb dL_law_476 rfl (lv_at hl 2 rfl) ?_
  refine lv_aload_n hx hb dL_law_477 rfl (lv_at hl 0 rfl) ?_
  refine lv_iload_n hx hb dL_law_478 rfl (lv_at hl 3 rfl) ?_
  refine lv_iconst (v := 1) hx hb dL_law_479 (by decide) ?_
  refine lv_iadd hx hb dL_law_480 ?_
  refine w_i (show nI i + 1 = nI (i + 1) from nI_add i 1) ?_
  refine w_sc (t := i + 1) hx hb hX hbl hbA hS (by omega) hL dL_law_481 ?_
  refine w_ci (w_runV ⟨hx, hb, hml, hown, hts⟩ (c_X8_right (lawX_ok ad0 mi) l D q (x_rightV V nD (xs (i + 1))) J R nP nD (xs (i + 1))  oM h1.1.2.2.2.2.1 h30 h1.1.2.2.2.2.2 h40 ) (lawX_ok ad0 mi) (cwV 1 hts gL_law_X8_right rfl rfl rfl (by decide +kernel) ⟨Nat.le_of_ble_eq_true rfl, Nat.le_of_ble_eq_true rfl⟩) hK hW hS hA hXs (w_rcv hK hW oM.1.1 oM.1.2 (by decide) rfl) rfl hl.1 rfl (Nat.le_of_ble_eq_true rfl) dL_law_482 ⟨by show cells + 0 ≤ 600000; omega, by show slots + 0 ≤ 7302250; omega⟩) hW hS hA (fun H locs hW hS => ?_)
  obtain ⟨he, h2⟩ := e_right h1 (xs (i + 1))
  refine lv_icmp_eq (tgt := 862) hx hb dL_law_485 (by decide) (fun _ => ?_) (fun z => absurd he z)
  refine W.widen (k := cells + 2) (n := slots + 112) (by omega) (by omega) ?_
  exact kk dm ln ad _ _ R nP nD H locs ls ⟨hW, oX, oM, oS, glue2 h2 (mf_right) rfl (by omega), hag⟩ hS hl
set_option maxHeartbeats 4000000 in
set_option maxRecDepth 100000 in
theorem lc_round {p : Program} {l : Launch} {e : Env} {s : State} {m : MethodId} {args : Array Value} {below : List Frame} {meth : Method} {c : Code} {b L : Nat} {xs : Nat → Int32} {A : Nat → Prop} {D : va_G} {q : Cq} {ad0 : Nat → Nat} {mi : Nat} {Q : State → Prop} {H : Heap} {locs : List Loc} {cells slots : Nat} {ls : Array Slot} {dm : List Nat} {ln ad : Nat → Nat} {V : Mv} {J : Mj} {R : Mr} {nP nD i cn : Nat} (C : LC p s m args c b L xs A D q ad0 mi) (hi : i + 4 ≤ L) (hcn : cn ≤ 1000) (hI : LI ad0 A D q cn H dm ln ad V J R nP nD) (hS : va_S A s.heap H locs) (hce : cells + 2 ≤ 600000) (hsl : slots + 112 ≤ 7302250) (hl : lv_has ls 4 [(0, .ref b), (1, .ref (ad 0)), (2, .ref (ad 1000)), (3, .int (nI i))]) (kk : ∀ (dm' : List Nat) (ln' ad' : Nat → Nat) (V' : Mv) (J' : Mj) (R' : Mr) (nP' nD' : Nat) (H' : Heap) (locs' : List Loc) (ls' : Array Slot), LI ad0 A D q (cn + 1) H' dm' ln' ad' V' J' R' nP' nD' → va_S A s.heap H' locs' → lv_has ls' 4 [(0, .ref b), (1, .ref (ad' 0)), (2, .ref (ad' 1000)), (3, .int (nI i))] → W p l e room_1 s m args below meth c H' locs' (cells + 2) (slots + 112) Q (F0 m 862 ls' [])) : W p l e room_1 s m args below meth c H locs cells slots Q (F0 m 490 ls []) := by
  obtain ⟨hx, hb, hml, hown, hts, hX, hbl, hbA, hK, hA, hXs, hL⟩ := C
  obtain ⟨hW, oX, oM, oS, hr, hag⟩ := hI
  have h30 := hr.1.1
  have h40 := hr.1.2.1
  have hp : V 1 2 = nI nP := hr.1.2.2.1
  have hq : V 2 2 = nI nD := hr.1.2.2.2.1
  refine lv_aload_n hx hb dL_law_490 rfl (lv_at hl 1 rfl) ?_
  refine lv_aload_n hx hb dL_law_491 rfl (lv_at hl 0 rfl) ?_
  refine lv_iload_n hx hb dL_law_492 rfl (lv_at hl 3 rfl) ?_
  refine lv_iconst (v := 1) hx hb dL_law_493 (by decide) ?_
  refine lv_iadd hx hb dL_law_494 ?_
  refine w_i (show nI i + 1 = nI (i + 1) from nI_add i 1) ?_
  refine w_sc (t := i + 1) hx hb hX hbl hbA hS (by omega) hL dL_law_495 ?_
  refine w_ci (w_runV ⟨hx, hb, hml, hown, hts⟩ (c_X7_round (lawX_ok ad0 mi) l D q V J R nP nD (xs (i + 1))  oX hp hq ) (lawX_ok ad0 mi) (cwV 1 hts gL_law_X7_round rfl rfl rfl (by decide +kernel) ⟨Nat.le_of_ble_eq_true rfl, Nat.le_of_ble_eq_true rfl⟩) hK hW hS hA hXs (w_rcv hK hW (oX.1 0 (by decide)).1 (show kdG 0 = 8 from (oX.1 0 (by decide)).2.1) (by decide) rfl) rfl hl.1 rfl (Nat.le_of_ble_eq_true rfl) dL_law_496 ⟨by show cells + 0 ≤ 600000; omega, by show slots + 0 ≤ 7302250; omega⟩) hW hS hA (fun H locs hW hS => ?_)
  have hx1 : ∀ k, 1000 ≤ k → (x_roundV V nD (xs (i + 1))) k = V k := xf_round h40
  have h1 : rl cn nP nD V (x_roundV V nD (xs (i + 1))) J J R := glue1 hr hx1 rfl
  refine lv_aload_n hx hb dL_law_499 rfl (lv_at hl 2 rfl) ?_
  refine lv_aload_n hx hb dL_law_500 rfl (lv_at hl 0 rfl) ?_
  refine lv_iload_n hx hb dL_law_501 rfl (lv_at hl 3 rfl) ?_
  refine lv_iconst (v := 1) hx hb dL_law_502 (by decide) ?_
  refine lv_iadd hx hb dL_law_503 ?_
  refine w_i (show nI i + 1 = nI (i + 1) from nI_add i 1) ?_
  refine w_sc (t := i + 1) hx hb hX hbl hbA hS (by omega) hL dL_law_504 ?_
  refine w_ci (w_runV ⟨hx, hb, hml, hown, hts⟩ (c_X8_round (lawX_ok ad0 mi) l D q (x_roundV V nD (xs (i + 1))) J R nP nD (xs (i + 1))  oM h1.1.2.2.2.2.1 h30 h1.1.2.2.2.2.2 h40 ) (lawX_ok ad0 mi) (cwV 1 hts gL_law_X8_round rfl rfl rfl (by decide +kernel) ⟨Nat.le_of_ble_eq_true rfl, Nat.le_of_ble_eq_true rfl⟩) hK hW hS hA hXs (w_rcv hK hW oM.1.1 oM.1.2 (by decide) rfl) rfl hl.1 rfl (Nat.le_of_ble_eq_true rfl) dL_law_505 ⟨by show cells + 0 ≤ 600000; omega, by show slots + 0 ≤ 7302250; omega⟩) hW hS hA (fun H locs hW hS => ?_)
  obtain ⟨he, h2⟩ := e_round (by omega) h1 (xs (i + 1))
  refine lv_icmp_eq (tgt := 862) hx hb dL_law_508 (by decide) (fun _ => ?_) (fun z => absurd he z)
  refine W.widen (k := cells + 2) (n := slots + 112) (by omega) (by omega) ?_
  exact kk dm ln ad _ _ R nP nD H locs ls ⟨hW, oX, oM, oS, glue2 h2 (mf_round) rfl (by omega), hag⟩ hS hl
set_option maxHeartbeats 4000000 in
set_option maxRecDepth 100000 in
theorem lc_ahead {p : Program} {l : Launch} {e : Env} {s : State} {m : MethodId} {args : Array Value} {below : List Frame} {meth : Method} {c : Code} {b L : Nat} {xs : Nat → Int32} {A : Nat → Prop} {D : va_G} {q : Cq} {ad0 : Nat → Nat} {mi : Nat} {Q : State → Prop} {H : Heap} {locs : List Loc} {cells slots : Nat} {ls : Array Slot} {dm : List Nat} {ln ad : Nat → Nat} {V : Mv} {J : Mj} {R : Mr} {nP nD i cn : Nat} (C : LC p s m args c b L xs A D q ad0 mi) (hi : i + 4 ≤ L) (hcn : cn ≤ 1000) (hI : LI ad0 A D q cn H dm ln ad V J R nP nD) (hS : va_S A s.heap H locs) (hce : cells + 2 ≤ 600000) (hsl : slots + 112 ≤ 7302250) (hl : lv_has ls 4 [(0, .ref b), (1, .ref (ad 0)), (2, .ref (ad 1000)), (3, .int (nI i))]) (kk : ∀ (dm' : List Nat) (ln' ad' : Nat → Nat) (V' : Mv) (J' : Mj) (R' : Mr) (nP' nD' : Nat) (H' : Heap) (locs' : List Loc) (ls' : Array Slot), LI ad0 A D q (cn + 1) H' dm' ln' ad' V' J' R' nP' nD' → va_S A s.heap H' locs' → lv_has ls' 4 [(0, .ref b), (1, .ref (ad' 0)), (2, .ref (ad' 1000)), (3, .int (nI i))] → W p l e room_1 s m args below meth c H' locs' (cells + 2) (slots + 112) Q (F0 m 862 ls' [])) : W p l e room_1 s m args below meth c H locs cells slots Q (F0 m 513 ls []) := by
  obtain ⟨hx, hb, hml, hown, hts, hX, hbl, hbA, hK, hA, hXs, hL⟩ := C
  obtain ⟨hW, oX, oM, oS, hr, hag⟩ := hI
  have h30 := hr.1.1
  have h40 := hr.1.2.1
  have hp : V 1 2 = nI nP := hr.1.2.2.1
  have hq : V 2 2 = nI nD := hr.1.2.2.2.1
  refine lv_aload_n hx hb dL_law_513 rfl (lv_at hl 1 rfl) ?_
  refine lv_aload_n hx hb dL_law_514 rfl (lv_at hl 0 rfl) ?_
  refine lv_iload_n hx hb dL_law_515 rfl (lv_at hl 3 rfl) ?_
  refine lv_iconst (v := 1) hx hb dL_law_516 (by decide) ?_
  refine lv_iadd hx hb dL_law_517 ?_
  refine w_i (show nI i + 1 = nI (i + 1) from nI_add i 1) ?_
  refine w_sc (t := i + 1) hx hb hX hbl hbA hS (by omega) hL dL_law_518 ?_
  refine w_ci (w_runV ⟨hx, hb, hml, hown, hts⟩ (c_X7_ahead (lawX_ok ad0 mi) l D q V J R nP nD (xs (i + 1))  oX hp hq ) (lawX_ok ad0 mi) (cwV 1 hts gL_law_X7_ahead rfl rfl rfl (by decide +kernel) ⟨Nat.le_of_ble_eq_true rfl, Nat.le_of_ble_eq_true rfl⟩) hK hW hS hA hXs (w_rcv hK hW (oX.1 0 (by decide)).1 (show kdG 0 = 8 from (oX.1 0 (by decide)).2.1) (by decide) rfl) rfl hl.1 rfl (Nat.le_of_ble_eq_true rfl) dL_law_519 ⟨by show cells + 0 ≤ 600000; omega, by show slots + 0 ≤ 7302250; omega⟩) hW hS hA (fun H locs hW hS => ?_)
  have hx1 : ∀ k, 1000 ≤ k → V k = V k := id_hi
  have h1 : rl cn nP nD V V J J R := glue1 hr hx1 rfl
  refine lv_aload_n hx hb dL_law_522 rfl (lv_at hl 2 rfl) ?_
  refine lv_aload_n hx hb dL_law_523 rfl (lv_at hl 0 rfl) ?_
  refine lv_iload_n hx hb dL_law_524 rfl (lv_at hl 3 rfl) ?_
  refine lv_iconst (v := 1) hx hb dL_law_525 (by decide) ?_
  refine lv_iadd hx hb dL_law_526 ?_
  refine w_i (show nI i + 1 = nI (i + 1) from nI_add i 1) ?_
  refine w_sc (t := i + 1) hx hb hX hbl hbA hS (by omega) hL dL_law_527 ?_
  refine w_ci (w_runV ⟨hx, hb, hml, hown, hts⟩ (c_X8_ahead (lawX_ok ad0 mi) l D q V J R nP nD (xs (i + 1))  oM h1.1.2.2.2.2.1 h30 h1.1.2.2.2.2.2 h40 (rl_way h1) (rl_on h1)) (lawX_ok ad0 mi) (cwV 1 hts gL_law_X8_ahead rfl rfl rfl (by decide +kernel) ⟨Nat.le_of_ble_eq_true rfl, Nat.le_of_ble_eq_true rfl⟩) hK hW hS hA hXs (w_rcv hK hW oM.1.1 oM.1.2 (by decide) rfl) rfl hl.1 rfl (Nat.le_of_ble_eq_true rfl) dL_law_528 ⟨by show cells + 0 ≤ 600000; omega, by show slots + 0 ≤ 7302250; omega⟩) hW hS hA (fun H locs hW hS => ?_)
  obtain ⟨he, h2⟩ := And.intro (e_ahead h1 (xs (i + 1))) (rl_0 (x := 0) h1)
  refine lv_icmp_eq (tgt := 862) hx hb dL_law_531 (by decide) (fun _ => ?_) (fun z => absurd he z)
  refine W.widen (k := cells + 2) (n := slots + 112) (by omega) (by omega) ?_
  exact kk dm ln ad _ _ R nP nD H locs ls ⟨hW, oX, oM, oS, glue2 h2 (u0_lo) rfl (by omega), hag⟩ hS hl
set_option maxHeartbeats 4000000 in
set_option maxRecDepth 100000 in
theorem lc_mark {p : Program} {l : Launch} {e : Env} {s : State} {m : MethodId} {args : Array Value} {below : List Frame} {meth : Method} {c : Code} {b L : Nat} {xs : Nat → Int32} {A : Nat → Prop} {D : va_G} {q : Cq} {ad0 : Nat → Nat} {mi : Nat} {Q : State → Prop} {H : Heap} {locs : List Loc} {cells slots : Nat} {ls : Array Slot} {dm : List Nat} {ln ad : Nat → Nat} {V : Mv} {J : Mj} {R : Mr} {nP nD i cn : Nat} (C : LC p s m args c b L xs A D q ad0 mi) (hi : i + 4 ≤ L) (hcn : cn ≤ 1000) (hI : LI ad0 A D q cn H dm ln ad V J R nP nD) (hS : va_S A s.heap H locs) (hce : cells + 2 ≤ 600000) (hsl : slots + 112 ≤ 7302250) (hl : lv_has ls 4 [(0, .ref b), (1, .ref (ad 0)), (2, .ref (ad 1000)), (3, .int (nI i))]) (kk : ∀ (dm' : List Nat) (ln' ad' : Nat → Nat) (V' : Mv) (J' : Mj) (R' : Mr) (nP' nD' : Nat) (H' : Heap) (locs' : List Loc) (ls' : Array Slot), LI ad0 A D q (cn + 1) H' dm' ln' ad' V' J' R' nP' nD' → va_S A s.heap H' locs' → lv_has ls' 4 [(0, .ref b), (1, .ref (ad' 0)), (2, .ref (ad' 1000)), (3, .int (nI i))] → W p l e room_1 s m args below meth c H' locs' (cells + 2) (slots + 112) Q (F0 m 862 ls' [])) : W p l e room_1 s m args below meth c H locs cells slots Q (F0 m 536 ls []) := by
  obtain ⟨hx, hb, hml, hown, hts, hX, hbl, hbA, hK, hA, hXs, hL⟩ := C
  obtain ⟨hW, oX, oM, oS, hr, hag⟩ := hI
  have h30 := hr.1.1
  have h40 := hr.1.2.1
  have hp : V 1 2 = nI nP := hr.1.2.2.1
  have hq : V 2 2 = nI nD := hr.1.2.2.2.1
  refine lv_aload_n hx hb dL_law_536 rfl (lv_at hl 1 rfl) ?_
  refine lv_aload_n hx hb dL_law_537 rfl (lv_at hl 0 rfl) ?_
  refine lv_iload_n hx hb dL_law_538 rfl (lv_at hl 3 rfl) ?_
  refine lv_iconst (v := 1) hx hb dL_law_539 (by decide) ?_
  refine lv_iadd hx hb dL_law_540 ?_
  refine w_i (show nI i + 1 = nI (i + 1) from nI_add i 1) ?_
  refine w_sc (t := i + 1) hx hb hX hbl hbA hS (by omega) hL dL_law_541 ?_
  refine lv_aload_n hx hb dL_law_542 rfl (lv_at hl 0 rfl) ?_
  refine lv_iload_n hx hb dL_law_543 rfl (lv_at hl 3 rfl) ?_
  refine lv_iconst (v := 2) hx hb dL_law_544 (by decide) ?_
  refine lv_iadd hx hb dL_law_545 ?_
  refine w_i (show nI i + 2 = nI (i + 2) from nI_add i 2) ?_
  refine w_sc (t := i + 2) hx hb hX hbl hbA hS (by omega) hL dL_law_546 ?_
  refine w_ci (w_runV ⟨hx, hb, hml, hown, hts⟩ (c_X7_mark (lawX_ok ad0 mi) l D q V J R nP nD (xs (i + 1)) (xs (i + 2))  oX hp hq ) (lawX_ok ad0 mi) (cwV 2 hts gL_law_X7_mark rfl rfl rfl (by decide +kernel) ⟨Nat.le_of_ble_eq_true rfl, Nat.le_of_ble_eq_true rfl⟩) hK hW hS hA hXs (w_rcv hK hW (oX.1 0 (by decide)).1 (show kdG 0 = 8 from (oX.1 0 (by decide)).2.1) (by decide) rfl) rfl hl.1 rfl (Nat.le_of_ble_eq_true rfl) dL_law_547 ⟨by show cells + 0 ≤ 600000; omega, by show slots + 0 ≤ 7302250; omega⟩) hW hS hA (fun H locs hW hS => ?_)
  have hx1 : ∀ k, 1000 ≤ k → (x_markV V nD (xs (i + 1)) (xs (i + 2))) k = V k := xf_mark h40
  have h1 : rl cn nP nD V (x_markV V nD (xs (i + 1)) (xs (i + 2))) J J R := glue1 hr hx1 rfl
  refine lv_aload_n hx hb dL_law_550 rfl (lv_at hl 2 rfl) ?_
  refine lv_aload_n hx hb dL_law_551 rfl (lv_at hl 0 rfl) ?_
  refine lv_iload_n hx hb dL_law_552 rfl (lv_at hl 3 rfl) ?_
  refine lv_iconst (v := 1) hx hb dL_law_553 (by decide) ?_
  refine lv_iadd hx hb dL_law_554 ?_
  refine w_i (show nI i + 1 = nI (i + 1) from nI_add i 1) ?_
  refine w_sc (t := i + 1) hx hb hX hbl hbA hS (by omega) hL dL_law_555 ?_
  refine lv_aload_n hx hb dL_law_556 rfl (lv_at hl 0 rfl) ?_
  refine lv_iload_n hx hb dL_law_557 rfl (lv_at hl 3 rfl) ?_
  refine lv_iconst (v := 2) hx hb dL_law_558 (by decide) ?_
  refine lv_iadd hx hb dL_law_559 ?_
  refine w_i (show nI i + 2 = nI (i + 2) from nI_add i 2) ?_
  refine w_sc (t := i + 2) hx hb hX hbl hbA hS (by omega) hL dL_law_560 ?_
  refine w_ci (w_runV ⟨hx, hb, hml, hown, hts⟩ (c_X8_mark (lawX_ok ad0 mi) l D q (x_markV V nD (xs (i + 1)) (xs (i + 2))) J R nP nD (xs (i + 1)) (xs (i + 2))  oM h1.1.2.2.2.2.1 h30 h1.1.2.2.2.2.2 h40 ) (lawX_ok ad0 mi) (cwV 2 hts gL_law_X8_mark rfl rfl rfl (by decide +kernel) ⟨Nat.le_of_ble_eq_true rfl, Nat.le_of_ble_eq_true rfl⟩) hK hW hS hA hXs (w_rcv hK hW oM.1.1 oM.1.2 (by decide) rfl) rfl hl.1 rfl (Nat.le_of_ble_eq_true rfl) dL_law_561 ⟨by show cells + 0 ≤ 600000; omega, by show slots + 0 ≤ 7302250; omega⟩) hW hS hA (fun H locs hW hS => ?_)
  obtain ⟨he, h2⟩ := e_mark h1 (xs (i + 1)) (xs (i + 2))
  refine lv_icmp_eq (tgt := 862) hx hb dL_law_564 (by decide) (fun _ => ?_) (fun z => absurd he z)
  refine W.widen (k := cells + 2) (n := slots + 112) (by omega) (by omega) ?_
  exact kk dm ln ad _ _ R nP nD H locs ls ⟨hW, oX, oM, oS, glue2 h2 (mf_mark) rfl (by omega), hag⟩ hS hl
set_option maxHeartbeats 4000000 in
set_option maxRecDepth 100000 in
theorem lc_explains {p : Program} {l : Launch} {e : Env} {s : State} {m : MethodId} {args : Array Value} {below : List Frame} {meth : Method} {c : Code} {b L : Nat} {xs : Nat → Int32} {A : Nat → Prop} {D : va_G} {q : Cq} {ad0 : Nat → Nat} {mi : Nat} {Q : State → Prop} {H : Heap} {locs : List Loc} {cells slots : Nat} {ls : Array Slot} {dm : List Nat} {ln ad : Nat → Nat} {V : Mv} {J : Mj} {R : Mr} {nP nD i cn : Nat} (C : LC p s m args c b L xs A D q ad0 mi) (hi : i + 4 ≤ L) (hcn : cn ≤ 1000) (hI : LI ad0 A D q cn H dm ln ad V J R nP nD) (hS : va_S A s.heap H locs) (hce : cells + 2 ≤ 600000) (hsl : slots + 112 ≤ 7302250) (hl : lv_has ls 4 [(0, .ref b), (1, .ref (ad 0)), (2, .ref (ad 1000)), (3, .int (nI i))]) (kk : ∀ (dm' : List Nat) (ln' ad' : Nat → Nat) (V' : Mv) (J' : Mj) (R' : Mr) (nP' nD' : Nat) (H' : Heap) (locs' : List Loc) (ls' : Array Slot), LI ad0 A D q (cn + 1) H' dm' ln' ad' V' J' R' nP' nD' → va_S A s.heap H' locs' → lv_has ls' 4 [(0, .ref b), (1, .ref (ad' 0)), (2, .ref (ad' 1000)), (3, .int (nI i))] → W p l e room_1 s m args below meth c H' locs' (cells + 2) (slots + 112) Q (F0 m 862 ls' [])) : W p l e room_1 s m args below meth c H locs cells slots Q (F0 m 569 ls []) := by
  obtain ⟨hx, hb, hml, hown, hts, hX, hbl, hbA, hK, hA, hXs, hL⟩ := C
  obtain ⟨hW, oX, oM, oS, hr, hag⟩ := hI
  have h30 := hr.1.1
  have h40 := hr.1.2.1
  have hp : V 1 2 = nI nP := hr.1.2.2.1
  have hq : V 2 2 = nI nD := hr.1.2.2.2.1
  refine lv_aload_n hx hb dL_law_569 rfl (lv_at hl 1 rfl) ?_
  refine lv_aload_n hx hb dL_law_570 rfl (lv_at hl 0 rfl) ?_
  refine lv_iload_n hx hb dL_law_571 rfl (lv_at hl 3 rfl) ?_
  refine lv_iconst (v := 1) hx hb dL_law_572 (by decide) ?_
  refine lv_iadd hx hb dL_law_573 ?_
  refine w_i (show nI i + 1 = nI (i + 1) from nI_add i 1) ?_
  refine w_sc (t := i + 1) hx hb hX hbl hbA hS (by omega) hL dL_law_574 ?_
  refine lv_aload_n hx hb dL_law_575 rfl (lv_at hl 0 rfl) ?_
  refine lv_iload_n hx hb dL_law_576 rfl (lv_at hl 3 rfl) ?_
  refine lv_iconst (v := 2) hx hb dL_law_577 (by decide) ?_
  refine lv_iadd hx hb dL_law_578 ?_
  refine w_i (show nI i + 2 = nI (i + 2) from nI_add i 2) ?_
  refine w_sc (t := i + 2) hx hb hX hbl hbA hS (by omega) hL dL_law_579 ?_
  refine w_ci (w_runV ⟨hx, hb, hml, hown, hts⟩ (c_X7_explains (lawX_ok ad0 mi) l D q V J R nP nD (xs (i + 1)) (xs (i + 2))  oX hp hq ) (lawX_ok ad0 mi) (cwV 2 hts gL_law_X7_explains rfl rfl rfl (by decide +kernel) ⟨Nat.le_of_ble_eq_true rfl, Nat.le_of_ble_eq_true rfl⟩) hK hW hS hA hXs (w_rcv hK hW (oX.1 0 (by decide)).1 (show kdG 0 = 8 from (oX.1 0 (by decide)).2.1) (by decide) rfl) rfl hl.1 rfl (Nat.le_of_ble_eq_true rfl) dL_law_580 ⟨by show cells + 0 ≤ 600000; omega, by show slots + 0 ≤ 7302250; omega⟩) hW hS hA (fun H locs hW hS => ?_)
  have hx1 : ∀ k, 1000 ≤ k → (x_explV V R nP nD (xs (i + 2))) k = V k := xf_expl
  have h1 : rl cn nP nD V (x_explV V R nP nD (xs (i + 2))) J J R := glue1 hr hx1 rfl
  refine lv_aload_n hx hb dL_law_583 rfl (lv_at hl 2 rfl) ?_
  refine lv_aload_n hx hb dL_law_584 rfl (lv_at hl 0 rfl) ?_
  refine lv_iload_n hx hb dL_law_585 rfl (lv_at hl 3 rfl) ?_
  refine lv_iconst (v := 1) hx hb dL_law_586 (by decide) ?_
  refine lv_iadd hx hb dL_law_587 ?_
  refine w_i (show nI i + 1 = nI (i + 1) from nI_add i 1) ?_
  refine w_sc (t := i + 1) hx hb hX hbl hbA hS (by omega) hL dL_law_588 ?_
  refine lv_aload_n hx hb dL_law_589 rfl (lv_at hl 0 rfl) ?_
  refine lv_iload_n hx hb dL_law_590 rfl (lv_at hl 3 rfl) ?_
  refine lv_iconst (v := 2) hx hb dL_law_591 (by decide) ?_
  refine lv_iadd hx hb dL_law_592 ?_
  refine w_i (show nI i + 2 = nI (i + 2) from nI_add i 2) ?_
  refine w_sc (t := i + 2) hx hb hX hbl hbA hS (by omega) hL dL_law_593 ?_
  refine w_ci (w_runV ⟨hx, hb, hml, hown, hts⟩ (c_X8_explains (lawX_ok ad0 mi) l D q (x_explV V R nP nD (xs (i + 2))) J R nP nD (xs (i + 1)) (xs (i + 2))  oM h1.1.2.2.2.2.1 h30 h1.1.2.2.2.2.2 h40 (rl_way h1) (rl_on h1)) (lawX_ok ad0 mi) (cwV 2 hts gL_law_X8_explains rfl rfl rfl (by decide +kernel) ⟨Nat.le_of_ble_eq_true rfl, Nat.le_of_ble_eq_true rfl⟩) hK hW hS hA hXs (w_rcv hK hW oM.1.1 oM.1.2 (by decide) rfl) rfl hl.1 rfl (Nat.le_of_ble_eq_true rfl) dL_law_594 ⟨by show cells + 0 ≤ 600000; omega, by show slots + 0 ≤ 7302250; omega⟩) hW hS hA (fun H locs hW hS => ?_)
  obtain ⟨he, h2⟩ := e_expl h1 (xs (i + 1)) (xs (i + 2))
  refine lv_icmp_eq (tgt := 862) hx hb dL_law_597 (by decide) (fun _ => ?_) (fun z => absurd he z)
  refine W.widen (k := cells + 2) (n := slots + 112) (by omega) (by omega) ?_
  exact kk dm ln ad _ _ R nP nD H locs ls ⟨hW, oX, oM, oS, glue2 h2 (mf_expl) rfl (by omega), hag⟩ hS hl
set_option maxHeartbeats 4000000 in
set_option maxRecDepth 100000 in
theorem lc_next {p : Program} {l : Launch} {e : Env} {s : State} {m : MethodId} {args : Array Value} {below : List Frame} {meth : Method} {c : Code} {b L : Nat} {xs : Nat → Int32} {A : Nat → Prop} {D : va_G} {q : Cq} {ad0 : Nat → Nat} {mi : Nat} {Q : State → Prop} {H : Heap} {locs : List Loc} {cells slots : Nat} {ls : Array Slot} {dm : List Nat} {ln ad : Nat → Nat} {V : Mv} {J : Mj} {R : Mr} {nP nD i cn : Nat} (C : LC p s m args c b L xs A D q ad0 mi) (hi : i + 4 ≤ L) (hcn : cn ≤ 1000) (hI : LI ad0 A D q cn H dm ln ad V J R nP nD) (hS : va_S A s.heap H locs) (hce : cells + 2 ≤ 600000) (hsl : slots + 112 ≤ 7302250) (hl : lv_has ls 4 [(0, .ref b), (1, .ref (ad 0)), (2, .ref (ad 1000)), (3, .int (nI i))]) (kk : ∀ (dm' : List Nat) (ln' ad' : Nat → Nat) (V' : Mv) (J' : Mj) (R' : Mr) (nP' nD' : Nat) (H' : Heap) (locs' : List Loc) (ls' : Array Slot), LI ad0 A D q (cn + 1) H' dm' ln' ad' V' J' R' nP' nD' → va_S A s.heap H' locs' → lv_has ls' 4 [(0, .ref b), (1, .ref (ad' 0)), (2, .ref (ad' 1000)), (3, .int (nI i))] → W p l e room_1 s m args below meth c H' locs' (cells + 2) (slots + 112) Q (F0 m 862 ls' [])) : W p l e room_1 s m args below meth c H locs cells slots Q (F0 m 602 ls []) := by
  obtain ⟨hx, hb, hml, hown, hts, hX, hbl, hbA, hK, hA, hXs, hL⟩ := C
  obtain ⟨hW, oX, oM, oS, hr, hag⟩ := hI
  have h30 := hr.1.1
  have h40 := hr.1.2.1
  have hp : V 1 2 = nI nP := hr.1.2.2.1
  have hq : V 2 2 = nI nD := hr.1.2.2.2.1
  refine lv_aload_n hx hb dL_law_602 rfl (lv_at hl 1 rfl) ?_
  refine w_ci (w_runV ⟨hx, hb, hml, hown, hts⟩ (c_X7_next (lawX_ok ad0 mi) l D q V J R nP nD   oX hp hq (e_hair hr)) (lawX_ok ad0 mi) (cwV 0 hts gL_law_X7_next rfl rfl rfl (by decide +kernel) ⟨Nat.le_of_ble_eq_true rfl, Nat.le_of_ble_eq_true rfl⟩) hK hW hS hA hXs (w_rcv hK hW (oX.1 0 (by decide)).1 (show kdG 0 = 8 from (oX.1 0 (by decide)).2.1) (by decide) rfl) rfl hl.1 rfl (Nat.le_of_ble_eq_true rfl) dL_law_603 ⟨by show cells + 0 ≤ 600000; omega, by show slots + 0 ≤ 7302250; omega⟩) hW hS hA (fun H locs hW hS => ?_)
  have hx1 : ∀ k, 1000 ≤ k → (x_nextV V R nP nD) k = V k := xf_next
  have h1 : rl cn nP nD V (x_nextV V R nP nD) J J R := glue1 hr hx1 rfl
  refine lv_aload_n hx hb dL_law_606 rfl (lv_at hl 2 rfl) ?_
  refine w_ci (w_runV ⟨hx, hb, hml, hown, hts⟩ (c_X8_next (lawX_ok ad0 mi) l D q (x_nextV V R nP nD) J R nP nD   oM h1.1.2.2.2.2.1 h30 h1.1.2.2.2.2.2 h40 (rl_way h1) (rl_on h1)) (lawX_ok ad0 mi) (cwV 0 hts gL_law_X8_next rfl rfl rfl (by decide +kernel) ⟨Nat.le_of_ble_eq_true rfl, Nat.le_of_ble_eq_true rfl⟩) hK hW hS hA hXs (w_rcv hK hW oM.1.1 oM.1.2 (by decide) rfl) rfl hl.1 rfl (Nat.le_of_ble_eq_true rfl) dL_law_607 ⟨by show cells + 0 ≤ 600000; omega, by show slots + 0 ≤ 7302250; omega⟩) hW hS hA (fun H locs hW hS => ?_)
  obtain ⟨he, h2⟩ := e_next h1
  refine lv_icmp_eq (tgt := 862) hx hb dL_law_610 (by decide) (fun _ => ?_) (fun z => absurd he z)
  refine W.widen (k := cells + 2) (n := slots + 112) (by omega) (by omega) ?_
  exact kk dm ln ad _ _ R nP nD H locs ls ⟨hW, oX, oM, oS, glue2 h2 (mf_next) rfl (by omega), hag⟩ hS hl
set_option maxHeartbeats 4000000 in
set_option maxRecDepth 100000 in
theorem lc_feed {p : Program} {l : Launch} {e : Env} {s : State} {m : MethodId} {args : Array Value} {below : List Frame} {meth : Method} {c : Code} {b L : Nat} {xs : Nat → Int32} {A : Nat → Prop} {D : va_G} {q : Cq} {ad0 : Nat → Nat} {mi : Nat} {Q : State → Prop} {H : Heap} {locs : List Loc} {cells slots : Nat} {ls : Array Slot} {dm : List Nat} {ln ad : Nat → Nat} {V : Mv} {J : Mj} {R : Mr} {nP nD i cn : Nat} (C : LC p s m args c b L xs A D q ad0 mi) (hi : i + 4 ≤ L) (hcn : cn ≤ 1000) (hI : LI ad0 A D q cn H dm ln ad V J R nP nD) (hS : va_S A s.heap H locs) (hce : cells + 2 ≤ 600000) (hsl : slots + 112 ≤ 7302250) (hl : lv_has ls 4 [(0, .ref b), (1, .ref (ad 0)), (2, .ref (ad 1000)), (3, .int (nI i))]) (kk : ∀ (dm' : List Nat) (ln' ad' : Nat → Nat) (V' : Mv) (J' : Mj) (R' : Mr) (nP' nD' : Nat) (H' : Heap) (locs' : List Loc) (ls' : Array Slot), LI ad0 A D q (cn + 1) H' dm' ln' ad' V' J' R' nP' nD' → va_S A s.heap H' locs' → lv_has ls' 4 [(0, .ref b), (1, .ref (ad' 0)), (2, .ref (ad' 1000)), (3, .int (nI i))] → W p l e room_1 s m args below meth c H' locs' (cells + 2) (slots + 112) Q (F0 m 862 ls' [])) : W p l e room_1 s m args below meth c H locs cells slots Q (F0 m 615 ls []) := by
  obtain ⟨hx, hb, hml, hown, hts, hX, hbl, hbA, hK, hA, hXs, hL⟩ := C
  obtain ⟨hW, oX, oM, oS, hr, hag⟩ := hI
  have h30 := hr.1.1
  have h40 := hr.1.2.1
  have hp : V 1 2 = nI nP := hr.1.2.2.1
  have hq : V 2 2 = nI nD := hr.1.2.2.2.1
  obtain ⟨T, hT3, hT⟩ := rl_len hr
  refine lv_aload_n hx hb dL_law_615 rfl (lv_at hl 1 rfl) ?_
  refine lv_aload_n hx hb dL_law_616 rfl (lv_at hl 0 rfl) ?_
  refine lv_iload_n hx hb dL_law_617 rfl (lv_at hl 3 rfl) ?_
  refine lv_iconst (v := 1) hx hb dL_law_618 (by decide) ?_
  refine lv_iadd hx hb dL_law_619 ?_
  refine w_i (show nI i + 1 = nI (i + 1) from nI_add i 1) ?_
  refine w_sc (t := i + 1) hx hb hX hbl hbA hS (by omega) hL dL_law_620 ?_
  refine lv_i2l hx hb dL_law_621 rfl ?_
  refine lv_bipush (v := 32) hx hb dL_law_622 (by decide) ?_
  refine lv_lshl hx hb dL_law_624 rfl ?_
  refine lv_aload_n hx hb dL_law_625 rfl (lv_at hl 0 rfl) ?_
  refine lv_iload_n hx hb dL_law_626 rfl (lv_at hl 3 rfl) ?_
  refine lv_iconst (v := 2) hx hb dL_law_627 (by decide) ?_
  refine lv_iadd hx hb dL_law_628 ?_
  refine w_i (show nI i + 2 = nI (i + 2) from nI_add i 2) ?_
  refine w_sc (t := i + 2) hx hb hX hbl hbA hS (by omega) hL dL_law_629 ?_
  refine lv_i2l hx hb dL_law_630 rfl ?_
  refine lv_ldc2 (v := 4294967295) hx hb hown (hts (.constantLong RL 87 (4294967295)) (by decide +kernel)) dL_law_631 ?_
  refine lv_land hx hb dL_law_634 ?_
  refine lv_lor hx hb dL_law_635 ?_
  refine lv_aload_n hx hb dL_law_636 rfl (lv_at hl 0 rfl) ?_
  refine lv_iload_n hx hb dL_law_637 rfl (lv_at hl 3 rfl) ?_
  refine lv_iconst (v := 3) hx hb dL_law_638 (by decide) ?_
  refine lv_iadd hx hb dL_law_639 ?_
  refine w_i (show nI i + 3 = nI (i + 3) from nI_add i 3) ?_
  refine w_sc (t := i + 3) hx hb hX hbl hbA hS (by omega) hL dL_law_640 ?_
  refine w_ci (w_runV ⟨hx, hb, hml, hown, hts⟩ (c_X7_feed (lawX_ok ad0 mi) l D q V J R nP nD ((((xs (i + 1)).toInt64) <<< ((32 : Int32).toInt64 &&& 63)) ||| (((xs (i + 2)).toInt64) &&& 4294967295)) (xs (i + 3)) T oX hp hq hT hT3) (lawX_ok ad0 mi) (cwV 2 hts gL_law_X7_feed rfl rfl rfl (by decide +kernel) ⟨Nat.le_of_ble_eq_true rfl, Nat.le_of_ble_eq_true rfl⟩) hK hW hS hA hXs (w_rcv hK hW (oX.1 0 (by decide)).1 (show kdG 0 = 8 from (oX.1 0 (by decide)).2.1) (by decide) rfl) rfl hl.1 rfl (Nat.le_of_ble_eq_true rfl) dL_law_641 ⟨by show cells + 0 ≤ 600000; omega, by show slots + 0 ≤ 7302250; omega⟩) hW hS hA (fun H locs hW hS => ?_)
  have hx1 : ∀ k, 1000 ≤ k → (x_feedV V (xs (i + 3)) ((((xs (i + 1)).toInt64) <<< ((32 : Int32).toInt64 &&& 63)) ||| (((xs (i + 2)).toInt64) &&& 4294967295)) T) k = V k := xf_feed
  have h1 : rl cn nP nD V (x_feedV V (xs (i + 3)) ((((xs (i + 1)).toInt64) <<< ((32 : Int32).toInt64 &&& 63)) ||| (((xs (i + 2)).toInt64) &&& 4294967295)) T) J J R := glue1 hr hx1 rfl
  refine lv_aload_n hx hb dL_law_644 rfl (lv_at hl 2 rfl) ?_
  refine lv_aload_n hx hb dL_law_645 rfl (lv_at hl 0 rfl) ?_
  refine lv_iload_n hx hb dL_law_646 rfl (lv_at hl 3 rfl) ?_
  refine lv_iconst (v := 1) hx hb dL_law_647 (by decide) ?_
  refine lv_iadd hx hb dL_law_648 ?_
  refine w_i (show nI i + 1 = nI (i + 1) from nI_add i 1) ?_
  refine w_sc (t := i + 1) hx hb hX hbl hbA hS (by omega) hL dL_law_649 ?_
  refine lv_i2l hx hb dL_law_650 rfl ?_
  refine lv_bipush (v := 32) hx hb dL_law_651 (by decide) ?_
  refine lv_lshl hx hb dL_law_653 rfl ?_
  refine lv_aload_n hx hb dL_law_654 rfl (lv_at hl 0 rfl) ?_
  refine lv_iload_n hx hb dL_law_655 rfl (lv_at hl 3 rfl) ?_
  refine lv_iconst (v := 2) hx hb dL_law_656 (by decide) ?_
  refine lv_iadd hx hb dL_law_657 ?_
  refine w_i (show nI i + 2 = nI (i + 2) from nI_add i 2) ?_
  refine w_sc (t := i + 2) hx hb hX hbl hbA hS (by omega) hL dL_law_658 ?_
  refine lv_i2l hx hb dL_law_659 rfl ?_
  refine lv_ldc2 (v := 4294967295) hx hb hown (hts (.constantLong RL 87 (4294967295)) (by decide +kernel)) dL_law_660 ?_
  refine lv_land hx hb dL_law_663 ?_
  refine lv_lor hx hb dL_law_664 ?_
  refine lv_aload_n hx hb dL_law_665 rfl (lv_at hl 0 rfl) ?_
  refine lv_iload_n hx hb dL_law_666 rfl (lv_at hl 3 rfl) ?_
  refine lv_iconst (v := 3) hx hb dL_law_667 (by decide) ?_
  refine lv_iadd hx hb dL_law_668 ?_
  refine w_i (show nI i + 3 = nI (i + 3) from nI_add i 3) ?_
  refine w_sc (t := i + 3) hx hb hX hbl hbA hS (by omega) hL dL_law_669 ?_
  refine w_ci (w_runV ⟨hx, hb, hml, hown, hts⟩ (c_X8_feed (lawX_ok ad0 mi) l D q (x_feedV V (xs (i + 3)) ((((xs (i + 1)).toInt64) <<< ((32 : Int32).toInt64 &&& 63)) ||| (((xs (i + 2)).toInt64) &&& 4294967295)) T) J R nP nD ((((xs (i + 1)).toInt64) <<< ((32 : Int32).toInt64 &&& 63)) ||| (((xs (i + 2)).toInt64) &&& 4294967295)) (xs (i + 3)) T oM h1.1.2.2.2.2.1 h30 h1.1.2.2.2.2.2 h40 (e_feed h1 hT hT3 (xs (i + 3)) ((((xs (i + 1)).toInt64) <<< ((32 : Int32).toInt64 &&& 63)) ||| (((xs (i + 2)).toInt64) &&& 4294967295))).1 hT3) (lawX_ok ad0 mi) (cwV 2 hts gL_law_X8_feed rfl rfl rfl (by decide +kernel) ⟨Nat.le_of_ble_eq_true rfl, Nat.le_of_ble_eq_true rfl⟩) hK hW hS hA hXs (w_rcv hK hW oM.1.1 oM.1.2 (by decide) rfl) rfl hl.1 rfl (Nat.le_of_ble_eq_true rfl) dL_law_670 ⟨by show cells + 0 ≤ 600000; omega, by show slots + 0 ≤ 7302250; omega⟩) hW hS hA (fun H locs hW hS => ?_)
  obtain ⟨he, h2⟩ := (e_feed h1 hT hT3 (xs (i + 3)) ((((xs (i + 1)).toInt64) <<< ((32 : Int32).toInt64 &&& 63)) ||| (((xs (i + 2)).toInt64) &&& 4294967295))).2
  refine lv_icmp_eq (tgt := 862) hx hb dL_law_673 (by decide) (fun _ => ?_) (fun z => absurd he z)
  refine W.widen (k := cells + 2) (n := slots + 112) (by omega) (by omega) ?_
  exact kk dm ln ad _ _ R nP nD H locs ls ⟨hW, oX, oM, oS, glue2 h2 (mf_feed) rfl (by omega), hag⟩ hS hl
