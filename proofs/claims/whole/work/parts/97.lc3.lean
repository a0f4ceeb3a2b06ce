set_option maxHeartbeats 4000000 in
set_option maxRecDepth 100000 in
theorem lc_contracts {p : Program} {l : Launch} {e : Env} {s : State} {m : MethodId} {args : Array Value} {below : List Frame} {meth : Method} {c : Code} {b L : Nat} {xs : Nat → Int32} {A : Nat → Prop} {D : va_G} {q : Cq} {ad0 : Nat → Nat} {mi : Nat} {Q : State → Prop} {H : Heap} {locs : List Loc} {cells slots : Nat} {ls : Array Slot} {dm : List Nat} {ln ad : Nat → Nat} {V : Mv} {J : Mj} {R : Mr} {nP nD i cn : Nat} (C : LC p s m args c b L xs A D q ad0 mi) (hi : i + 4 ≤ L) (hcn : cn ≤ 1000) (hI : LI ad0 A D q cn H dm ln ad V J R nP nD) (hS : va_S A s.heap H locs) (hce : cells + 2 ≤ 600000) (hsl : slots + 112 ≤ 7302250) (hl : lv_has ls 4 [(0, .ref b), (1, .ref (ad 0)), (2, .ref (ad 1000)), (3, .int (nI i))]) (kk : ∀ (dm' : List Nat) (ln' ad' : Nat → Nat) (V' : Mv) (J' : Mj) (R' : Mr) (nP' nD' : Nat) (H' : Heap) (locs' : List Loc) (ls' : Array Slot), LI ad0 A D q (cn + 1) H' dm' ln' ad' V' J' R' nP' nD' → va_S A s.heap H' locs' → lv_has ls' 4 [(0, .ref b), (1, .ref (ad' 0)), (2, .ref (ad' 1000)), (3, .int (nI i))] → W p l e room_1 s m args below meth c H' locs' (cells + 2) (slots + 112) Q (F0 m 862 ls' [])) : W p l e room_1 s m args below meth c H locs cells slots Q (F0 m 678 ls []) := by
  obtain ⟨hx, hb, hml, hown, hts, hX, hbl, hbA, hK, hA, hXs, hL⟩ := C
  obtain ⟨hW, oX, oM, oS, hr, hag⟩ := hI
  have h30 := hr.1.1
  have h40 := hr.1.2.1
  have hp : V 1 2 = nI nP := hr.1.2.2.1
  have hq : V 2 2 = nI nD := hr.1.2.2.2.1
  obtain ⟨T, hT3, hT⟩ := rl_len hr
  obtain ⟨F, hFe⟩ : ∃ F, F = x_tape V nD := ⟨_, rfl⟩
  refine lv_aload_n hx hb dL_law_678 rfl (lv_at hl 1 rfl) ?_
  refine w_ci (w_runV ⟨hx, hb, hml, hown, hts⟩ (c_X7_contracts (lawX_ok ad0 mi) l D q V J R nP nD  T F oX hp hq hFe hT hT3 (st_ag hag)) (lawX_ok ad0 mi) (cwV 0 hts gL_law_X7_contracts rfl rfl rfl (by decide +kernel) ⟨Nat.le_of_ble_eq_true rfl, Nat.le_of_ble_eq_true rfl⟩) hK hW hS hA hXs (w_rcv hK hW (oX.1 0 (by decide)).1 (show kdG 0 = 8 from (oX.1 0 (by decide)).2.1) (by decide) rfl) rfl hl.1 rfl (Nat.le_of_ble_eq_true rfl) dL_law_679 ⟨by show cells + 0 ≤ 600000; omega, by show slots + 0 ≤ 7302250; omega⟩) hW hS hA (fun H locs hW hS => ?_)
  have hx1 : ∀ k, 1000 ≤ k → (x_ctV F nD) k = V k := xf_ct hFe h40
  have h1 : rl cn nP nD V (x_ctV F nD) J J R := glue1 hr hx1 rfl
  obtain ⟨k1, k2, k3, k4, k5, k6⟩ := e_ct h1 hT hT3 hFe
  refine lv_aload_n hx hb dL_law_682 rfl (lv_at hl 2 rfl) ?_
  refine w_ci (w_runV ⟨hx, hb, hml, hown, hts⟩ (c_X8_contracts (lawX_ok ad0 mi) l D q (x_ctV F nD) J R nP nD  T oM h1.1.2.2.2.2.1 h30 h1.1.2.2.2.2.2 h40 k1 hT3 k2 k3 k4) (lawX_ok ad0 mi) (cwV 0 hts gL_law_X8_contracts rfl rfl rfl (by decide +kernel) ⟨Nat.le_of_ble_eq_true rfl, Nat.le_of_ble_eq_true rfl⟩) hK hW hS hA hXs (w_rcv hK hW oM.1.1 oM.1.2 (by decide) rfl) rfl hl.1 rfl (Nat.le_of_ble_eq_true rfl) dL_law_683 ⟨by show cells + 0 ≤ 600000; omega, by show slots + 0 ≤ 7302250; omega⟩) hW hS hA (fun H locs hW hS => ?_)
  obtain ⟨he, h2⟩ := And.intro k5 k6
  refine lv_icmp_eq (tgt := 862) hx hb dL_law_686 (by decide) (fun _ => ?_) (fun z => absurd he z)
  refine W.widen (k := cells + 2) (n := slots + 112) (by omega) (by omega) ?_
  exact kk dm ln ad _ _ R nP nD H locs ls ⟨hW, oX, oM, oS, glue2 h2 (mf_ct) rfl (by omega), hag⟩ hS hl
set_option maxHeartbeats 4000000 in
set_option maxRecDepth 100000 in
theorem lc_fault {p : Program} {l : Launch} {e : Env} {s : State} {m : MethodId} {args : Array Value} {below : List Frame} {meth : Method} {c : Code} {b L : Nat} {xs : Nat → Int32} {A : Nat → Prop} {D : va_G} {q : Cq} {ad0 : Nat → Nat} {mi : Nat} {Q : State → Prop} {H : Heap} {locs : List Loc} {cells slots : Nat} {ls : Array Slot} {dm : List Nat} {ln ad : Nat → Nat} {V : Mv} {J : Mj} {R : Mr} {nP nD i cn : Nat} (C : LC p s m args c b L xs A D q ad0 mi) (hi : i + 4 ≤ L) (hcn : cn ≤ 1000) (hI : LI ad0 A D q cn H dm ln ad V J R nP nD) (hS : va_S A s.heap H locs) (hce : cells + 2 ≤ 600000) (hsl : slots + 112 ≤ 7302250) (hl : lv_has ls 4 [(0, .ref b), (1, .ref (ad 0)), (2, .ref (ad 1000)), (3, .int (nI i))]) (kk : ∀ (dm' : List Nat) (ln' ad' : Nat → Nat) (V' : Mv) (J' : Mj) (R' : Mr) (nP' nD' : Nat) (H' : Heap) (locs' : List Loc) (ls' : Array Slot), LI ad0 A D q (cn + 1) H' dm' ln' ad' V' J' R' nP' nD' → va_S A s.heap H' locs' → lv_has ls' 4 [(0, .ref b), (1, .ref (ad' 0)), (2, .ref (ad' 1000)), (3, .int (nI i))] → W p l e room_1 s m args below meth c H' locs' (cells + 2) (slots + 112) Q (F0 m 862 ls' [])) : W p l e room_1 s m args below meth c H locs cells slots Q (F0 m 691 ls []) := by
  obtain ⟨hx, hb, hml, hown, hts, hX, hbl, hbA, hK, hA, hXs, hL⟩ := C
  obtain ⟨hW, oX, oM, oS, hr, hag⟩ := hI
  have h30 := hr.1.1
  have h40 := hr.1.2.1
  have hp : V 1 2 = nI nP := hr.1.2.2.1
  have hq : V 2 2 = nI nD := hr.1.2.2.2.1
  refine lv_aload_n hx hb dL_law_691 rfl (lv_at hl 1 rfl) ?_
  refine w_ci (w_runV ⟨hx, hb, hml, hown, hts⟩ (c_X7_fault (lawX_ok ad0 mi) l D q V J R nP nD   oX hp hq ) (lawX_ok ad0 mi) (cwV 0 hts gL_law_X7_fault rfl rfl rfl (by decide +kernel) ⟨Nat.le_of_ble_eq_true rfl, Nat.le_of_ble_eq_true rfl⟩) hK hW hS hA hXs (w_rcv hK hW (oX.1 0 (by decide)).1 (show kdG 0 = 8 from (oX.1 0 (by decide)).2.1) (by decide) rfl) rfl hl.1 rfl (Nat.le_of_ble_eq_true rfl) dL_law_692 ⟨by show cells + 0 ≤ 600000; omega, by show slots + 0 ≤ 7302250; omega⟩) hW hS hA (fun H locs hW hS => ?_)
  have hx1 : ∀ k, 1000 ≤ k → V k = V k := id_hi
  have h1 : rl cn nP nD V V J J R := glue1 hr hx1 rfl
  refine lv_aload_n hx hb dL_law_695 rfl (lv_at hl 2 rfl) ?_
  refine w_ci (w_runV ⟨hx, hb, hml, hown, hts⟩ (c_X8_fault (lawX_ok ad0 mi) l D q V J R nP nD   oM h1.1.2.2.2.2.1 h30 h1.1.2.2.2.2.2 h40 ) (lawX_ok ad0 mi) (cwV 0 hts gL_law_X8_fault rfl rfl rfl (by decide +kernel) ⟨Nat.le_of_ble_eq_true rfl, Nat.le_of_ble_eq_true rfl⟩) hK hW hS hA hXs (w_rcv hK hW oM.1.1 oM.1.2 (by decide) rfl) rfl hl.1 rfl (Nat.le_of_ble_eq_true rfl) dL_law_696 ⟨by show cells + 0 ≤ 600000; omega, by show slots + 0 ≤ 7302250; omega⟩) hW hS hA (fun H locs hW hS => ?_)
  obtain ⟨he, h2⟩ := And.intro (e_fault h1) (rl_0 (x := 0) h1)
  refine lv_icmp_eq (tgt := 862) hx hb dL_law_699 (by decide) (fun _ => ?_) (fun z => absurd he z)
  refine W.widen (k := cells + 2) (n := slots + 112) (by omega) (by omega) ?_
  exact kk dm ln ad _ _ R nP nD H locs ls ⟨hW, oX, oM, oS, glue2 h2 (u0_lo) rfl (by omega), hag⟩ hS hl
set_option maxHeartbeats 4000000 in
set_option maxRecDepth 100000 in
theorem lc_owes {p : Program} {l : Launch} {e : Env} {s : State} {m : MethodId} {args : Array Value} {below : List Frame} {meth : Method} {c : Code} {b L : Nat} {xs : Nat → Int32} {A : Nat → Prop} {D : va_G} {q : Cq} {ad0 : Nat → Nat} {mi : Nat} {Q : State → Prop} {H : Heap} {locs : List Loc} {cells slots : Nat} {ls : Array Slot} {dm : List Nat} {ln ad : Nat → Nat} {V : Mv} {J : Mj} {R : Mr} {nP nD i cn : Nat} (C : LC p s m args c b L xs A D q ad0 mi) (hi : i + 4 ≤ L) (hcn : cn ≤ 1000) (hI : LI ad0 A D q cn H dm ln ad V J R nP nD) (hS : va_S A s.heap H locs) (hce : cells + 2 ≤ 600000) (hsl : slots + 112 ≤ 7302250) (hl : lv_has ls 4 [(0, .ref b), (1, .ref (ad 0)), (2, .ref (ad 1000)), (3, .int (nI i))]) (kk : ∀ (dm' : List Nat) (ln' ad' : Nat → Nat) (V' : Mv) (J' : Mj) (R' : Mr) (nP' nD' : Nat) (H' : Heap) (locs' : List Loc) (ls' : Array Slot), LI ad0 A D q (cn + 1) H' dm' ln' ad' V' J' R' nP' nD' → va_S A s.heap H' locs' → lv_has ls' 4 [(0, .ref b), (1, .ref (ad' 0)), (2, .ref (ad' 1000)), (3, .int (nI i))] → W p l e room_1 s m args below meth c H' locs' (cells + 2) (slots + 112) Q (F0 m 862 ls' [])) : W p l e room_1 s m args below meth c H locs cells slots Q (F0 m 704 ls []) := by
  obtain ⟨hx, hb, hml, hown, hts, hX, hbl, hbA, hK, hA, hXs, hL⟩ := C
  obtain ⟨hW, oX, oM, oS, hr, hag⟩ := hI
  have h30 := hr.1.1
  have h40 := hr.1.2.1
  have hp : V 1 2 = nI nP := hr.1.2.2.1
  have hq : V 2 2 = nI nD := hr.1.2.2.2.1
  refine lv_aload_n hx hb dL_law_704 rfl (lv_at hl 1 rfl) ?_
  refine lv_aload_n hx hb dL_law_705 rfl (lv_at hl 0 rfl) ?_
  refine lv_iload_n hx hb dL_law_706 rfl (lv_at hl 3 rfl) ?_
  refine lv_iconst (v := 1) hx hb dL_law_707 (by decide) ?_
  refine lv_iadd hx hb dL_law_708 ?_
  refine w_i (show nI i + 1 = nI (i + 1) from nI_add i 1) ?_
  refine w_sc (t := i + 1) hx hb hX hbl hbA hS (by omega) hL dL_law_709 ?_
  refine w_ci (w_runV ⟨hx, hb, hml, hown, hts⟩ (c_X7_owes (lawX_ok ad0 mi) l D q V J R nP nD (xs (i + 1))  oX hp hq ) (lawX_ok ad0 mi) (cwV 1 hts gL_law_X7_owes rfl rfl rfl (by decide +kernel) ⟨Nat.le_of_ble_eq_true rfl, Nat.le_of_ble_eq_true rfl⟩) hK hW hS hA hXs (w_rcv hK hW (oX.1 0 (by decide)).1 (show kdG 0 = 8 from (oX.1 0 (by decide)).2.1) (by decide) rfl) rfl hl.1 rfl (Nat.le_of_ble_eq_true rfl) dL_law_710 ⟨by show cells + 0 ≤ 600000; omega, by show slots + 0 ≤ 7302250; omega⟩) hW hS hA (fun H locs hW hS => ?_)
  have hx1 : ∀ k, 1000 ≤ k → V k = V k := id_hi
  have h1 : rl cn nP nD V V J J R := glue1 hr hx1 rfl
  refine lv_aload_n hx hb dL_law_713 rfl (lv_at hl 2 rfl) ?_
  refine lv_aload_n hx hb dL_law_714 rfl (lv_at hl 0 rfl) ?_
  refine lv_iload_n hx hb dL_law_715 rfl (lv_at hl 3 rfl) ?_
  refine lv_iconst (v := 1) hx hb dL_law_716 (by decide) ?_
  refine lv_iadd hx hb dL_law_717 ?_
  refine w_i (show nI i + 1 = nI (i + 1) from nI_add i 1) ?_
  refine w_sc (t := i + 1) hx hb hX hbl hbA hS (by omega) hL dL_law_718 ?_
  refine w_ci (w_runV ⟨hx, hb, hml, hown, hts⟩ (c_X8_owes (lawX_ok ad0 mi) l D q V J R nP nD (xs (i + 1))  oM h1.1.2.2.2.2.1 h30 h1.1.2.2.2.2.2 h40 ) (lawX_ok ad0 mi) (cwV 1 hts gL_law_X8_owes rfl rfl rfl (by decide +kernel) ⟨Nat.le_of_ble_eq_true rfl, Nat.le_of_ble_eq_true rfl⟩) hK hW hS hA hXs (w_rcv hK hW oM.1.1 oM.1.2 (by decide) rfl) rfl hl.1 rfl (Nat.le_of_ble_eq_true rfl) dL_law_719 ⟨by show cells + 0 ≤ 600000; omega, by show slots + 0 ≤ 7302250; omega⟩) hW hS hA (fun H locs hW hS => ?_)
  obtain ⟨he, h2⟩ := And.intro (e_owes h1 (xs (i + 1))) (rl_0 (x := 0) h1)
  refine lv_icmp_eq (tgt := 862) hx hb dL_law_722 (by decide) (fun _ => ?_) (fun z => absurd he z)
  refine W.widen (k := cells + 2) (n := slots + 112) (by omega) (by omega) ?_
  exact kk dm ln ad _ _ R nP nD H locs ls ⟨hW, oX, oM, oS, glue2 h2 (u0_lo) rfl (by omega), hag⟩ hS hl
set_option maxHeartbeats 4000000 in
set_option maxRecDepth 100000 in
theorem lc_kind {p : Program} {l : Launch} {e : Env} {s : State} {m : MethodId} {args : Array Value} {below : List Frame} {meth : Method} {c : Code} {b L : Nat} {xs : Nat → Int32} {A : Nat → Prop} {D : va_G} {q : Cq} {ad0 : Nat → Nat} {mi : Nat} {Q : State → Prop} {H : Heap} {locs : List Loc} {cells slots : Nat} {ls : Array Slot} {dm : List Nat} {ln ad : Nat → Nat} {V : Mv} {J : Mj} {R : Mr} {nP nD i cn : Nat} (C : LC p s m args c b L xs A D q ad0 mi) (hi : i + 4 ≤ L) (hcn : cn ≤ 1000) (hI : LI ad0 A D q cn H dm ln ad V J R nP nD) (hS : va_S A s.heap H locs) (hce : cells + 2 ≤ 600000) (hsl : slots + 112 ≤ 7302250) (hl : lv_has ls 4 [(0, .ref b), (1, .ref (ad 0)), (2, .ref (ad 1000)), (3, .int (nI i))]) (kk : ∀ (dm' : List Nat) (ln' ad' : Nat → Nat) (V' : Mv) (J' : Mj) (R' : Mr) (nP' nD' : Nat) (H' : Heap) (locs' : List Loc) (ls' : Array Slot), LI ad0 A D q (cn + 1) H' dm' ln' ad' V' J' R' nP' nD' → va_S A s.heap H' locs' → lv_has ls' 4 [(0, .ref b), (1, .ref (ad' 0)), (2, .ref (ad' 1000)), (3, .int (nI i))] → W p l e room_1 s m args below meth c H' locs' (cells + 2) (slots + 112) Q (F0 m 862 ls' [])) : W p l e room_1 s m args below meth c H locs cells slots Q (F0 m 727 ls []) := by
  obtain ⟨hx, hb, hml, hown, hts, hX, hbl, hbA, hK, hA, hXs, hL⟩ := C
  obtain ⟨hW, oX, oM, oS, hr, hag⟩ := hI
  have h30 := hr.1.1
  have h40 := hr.1.2.1
  have hp : V 1 2 = nI nP := hr.1.2.2.1
  have hq : V 2 2 = nI nD := hr.1.2.2.2.1
  refine lv_aload_n hx hb dL_law_727 rfl (lv_at hl 1 rfl) ?_
  refine lv_aload_n hx hb dL_law_728 rfl (lv_at hl 0 rfl) ?_
  refine lv_iload_n hx hb dL_law_729 rfl (lv_at hl 3 rfl) ?_
  refine lv_iconst (v := 1) hx hb dL_law_730 (by decide) ?_
  refine lv_iadd hx hb dL_law_731 ?_
  refine w_i (show nI i + 1 = nI (i + 1) from nI_add i 1) ?_
  refine w_sc (t := i + 1) hx hb hX hbl hbA hS (by omega) hL dL_law_732 ?_
  refine w_ci (w_runV ⟨hx, hb, hml, hown, hts⟩ (c_X7_kind (lawX_ok ad0 mi) l D q V J R nP nD (xs (i + 1))  oX hp hq ) (lawX_ok ad0 mi) (cwV 1 hts gL_law_X7_kind rfl rfl rfl (by decide +kernel) ⟨Nat.le_of_ble_eq_true rfl, Nat.le_of_ble_eq_true rfl⟩) hK hW hS hA hXs (w_rcv hK hW (oX.1 0 (by decide)).1 (show kdG 0 = 8 from (oX.1 0 (by decide)).2.1) (by decide) rfl) rfl hl.1 rfl (Nat.le_of_ble_eq_true rfl) dL_law_733 ⟨by show cells + 0 ≤ 600000; omega, by show slots + 0 ≤ 7302250; omega⟩) hW hS hA (fun H locs hW hS => ?_)
  have hx1 : ∀ k, 1000 ≤ k → V k = V k := id_hi
  have h1 : rl cn nP nD V V J J R := glue1 hr hx1 rfl
  refine lv_aload_n hx hb dL_law_736 rfl (lv_at hl 2 rfl) ?_
  refine lv_aload_n hx hb dL_law_737 rfl (lv_at hl 0 rfl) ?_
  refine lv_iload_n hx hb dL_law_738 rfl (lv_at hl 3 rfl) ?_
  refine lv_iconst (v := 1) hx hb dL_law_739 (by decide) ?_
  refine lv_iadd hx hb dL_law_740 ?_
  refine w_i (show nI i + 1 = nI (i + 1) from nI_add i 1) ?_
  refine w_sc (t := i + 1) hx hb hX hbl hbA hS (by omega) hL dL_law_741 ?_
  refine w_ci (w_runV ⟨hx, hb, hml, hown, hts⟩ (c_X8_kind (lawX_ok ad0 mi) l D q V J R nP nD (xs (i + 1))  oM h1.1.2.2.2.2.1 h30 h1.1.2.2.2.2.2 h40 ) (lawX_ok ad0 mi) (cwV 1 hts gL_law_X8_kind rfl rfl rfl (by decide +kernel) ⟨Nat.le_of_ble_eq_true rfl, Nat.le_of_ble_eq_true rfl⟩) hK hW hS hA hXs (w_rcv hK hW oM.1.1 oM.1.2 (by decide) rfl) rfl hl.1 rfl (Nat.le_of_ble_eq_true rfl) dL_law_742 ⟨by show cells + 0 ≤ 600000; omega, by show slots + 0 ≤ 7302250; omega⟩) hW hS hA (fun H locs hW hS => ?_)
  obtain ⟨he, h2⟩ := And.intro (e_kind h1 (xs (i + 1))) (rl_0 (x := 0) h1)
  refine lv_icmp_eq (tgt := 862) hx hb dL_law_745 (by decide) (fun _ => ?_) (fun z => absurd he z)
  refine W.widen (k := cells + 2) (n := slots + 112) (by omega) (by omega) ?_
  exact kk dm ln ad _ _ R nP nD H locs ls ⟨hW, oX, oM, oS, glue2 h2 (u0_lo) rfl (by omega), hag⟩ hS hl
set_option maxHeartbeats 4000000 in
set_option maxRecDepth 100000 in
theorem lc_as {p : Program} {l : Launch} {e : Env} {s : State} {m : MethodId} {args : Array Value} {below : List Frame} {meth : Method} {c : Code} {b L : Nat} {xs : Nat → Int32} {A : Nat → Prop} {D : va_G} {q : Cq} {ad0 : Nat → Nat} {mi : Nat} {Q : State → Prop} {H : Heap} {locs : List Loc} {cells slots : Nat} {ls : Array Slot} {dm : List Nat} {ln ad : Nat → Nat} {V : Mv} {J : Mj} {R : Mr} {nP nD i cn : Nat} (C : LC p s m args c b L xs A D q ad0 mi) (hi : i + 4 ≤ L) (hcn : cn ≤ 1000) (hI : LI ad0 A D q cn H dm ln ad V J R nP nD) (hS : va_S A s.heap H locs) (hce : cells + 2 ≤ 600000) (hsl : slots + 112 ≤ 7302250) (hl : lv_has ls 4 [(0, .ref b), (1, .ref (ad 0)), (2, .ref (ad 1000)), (3, .int (nI i))]) (kk : ∀ (dm' : List Nat) (ln' ad' : Nat → Nat) (V' : Mv) (J' : Mj) (R' : Mr) (nP' nD' : Nat) (H' : Heap) (locs' : List Loc) (ls' : Array Slot), LI ad0 A D q (cn + 1) H' dm' ln' ad' V' J' R' nP' nD' → va_S A s.heap H' locs' → lv_has ls' 4 [(0, .ref b), (1, .ref (ad' 0)), (2, .ref (ad' 1000)), (3, .int (nI i))] → W p l e room_1 s m args below meth c H' locs' (cells + 2) (slots + 112) Q (F0 m 862 ls' [])) : W p l e room_1 s m args below meth c H locs cells slots Q (F0 m 750 ls []) := by
  obtain ⟨hx, hb, hml, hown, hts, hX, hbl, hbA, hK, hA, hXs, hL⟩ := C
  obtain ⟨hW, oX, oM, oS, hr, hag⟩ := hI
  have h30 := hr.1.1
  have h40 := hr.1.2.1
  have hp : V 1 2 = nI nP := hr.1.2.2.1
  have hq : V 2 2 = nI nD := hr.1.2.2.2.1
  refine lv_aload_n hx hb dL_law_750 rfl (lv_at hl 1 rfl) ?_
  refine lv_aload_n hx hb dL_law_751 rfl (lv_at hl 0 rfl) ?_
  refine lv_iload_n hx hb dL_law_752 rfl (lv_at hl 3 rfl) ?_
  refine lv_iconst (v := 1) hx hb dL_law_753 (by decide) ?_
  refine lv_iadd hx hb dL_law_754 ?_
  refine w_i (show nI i + 1 = nI (i + 1) from nI_add i 1) ?_
  refine w_sc (t := i + 1) hx hb hX hbl hbA hS (by omega) hL dL_law_755 ?_
  refine lv_aload_n hx hb dL_law_756 rfl (lv_at hl 0 rfl) ?_
  refine lv_iload_n hx hb dL_law_757 rfl (lv_at hl 3 rfl) ?_
  refine lv_iconst (v := 2) hx hb dL_law_758 (by decide) ?_
  refine lv_iadd hx hb dL_law_759 ?_
  refine w_i (show nI i + 2 = nI (i + 2) from nI_add i 2) ?_
  refine w_sc (t := i + 2) hx hb hX hbl hbA hS (by omega) hL dL_law_760 ?_
  refine w_ci (w_runV ⟨hx, hb, hml, hown, hts⟩ (c_X7_as (lawX_ok ad0 mi) l D q V J R nP nD (xs (i + 1)) (xs (i + 2))  oX hp hq ) (lawX_ok ad0 mi) (cwV 2 hts gL_law_X7_as rfl rfl rfl (by decide +kernel) ⟨Nat.le_of_ble_eq_true rfl, Nat.le_of_ble_eq_true rfl⟩) hK hW hS hA hXs (w_rcv hK hW (oX.1 0 (by decide)).1 (show kdG 0 = 8 from (oX.1 0 (by decide)).2.1) (by decide) rfl) rfl hl.1 rfl (Nat.le_of_ble_eq_true rfl) dL_law_761 ⟨by show cells + 0 ≤ 600000; omega, by show slots + 0 ≤ 7302250; omega⟩) hW hS hA (fun H locs hW hS => ?_)
  have hx1 : ∀ k, 1000 ≤ k → V k = V k := id_hi
  have h1 : rl cn nP nD V V J J R := glue1 hr hx1 rfl
  refine lv_aload_n hx hb dL_law_764 rfl (lv_at hl 2 rfl) ?_
  refine lv_aload_n hx hb dL_law_765 rfl (lv_at hl 0 rfl) ?_
  refine lv_iload_n hx hb dL_law_766 rfl (lv_at hl 3 rfl) ?_
  refine lv_iconst (v := 1) hx hb dL_law_767 (by decide) ?_
  refine lv_iadd hx hb dL_law_768 ?_
  refine w_i (show nI i + 1 = nI (i + 1) from nI_add i 1) ?_
  refine w_sc (t := i + 1) hx hb hX hbl hbA hS (by omega) hL dL_law_769 ?_
  refine lv_aload_n hx hb dL_law_770 rfl (lv_at hl 0 rfl) ?_
  refine lv_iload_n hx hb dL_law_771 rfl (lv_at hl 3 rfl) ?_
  refine lv_iconst (v := 2) hx hb dL_law_772 (by decide) ?_
  refine lv_iadd hx hb dL_law_773 ?_
  refine w_i (show nI i + 2 = nI (i + 2) from nI_add i 2) ?_
  refine w_sc (t := i + 2) hx hb hX hbl hbA hS (by omega) hL dL_law_774 ?_
  refine w_ci (w_runV ⟨hx, hb, hml, hown, hts⟩ (c_X8_as (lawX_ok ad0 mi) l D q V J R nP nD (xs (i + 1)) (xs (i + 2))  oM h1.1.2.2.2.2.1 h30 h1.1.2.2.2.2.2 h40 ) (lawX_ok ad0 mi) (cwV 2 hts gL_law_X8_as rfl rfl rfl (by decide +kernel) ⟨Nat.le_of_ble_eq_true rfl, Nat.le_of_ble_eq_true rfl⟩) hK hW hS hA hXs (w_rcv hK hW oM.1.1 oM.1.2 (by decide) rfl) rfl hl.1 rfl (Nat.le_of_ble_eq_true rfl) dL_law_775 ⟨by show cells + 0 ≤ 600000; omega, by show slots + 0 ≤ 7302250; omega⟩) hW hS hA (fun H locs hW hS => ?_)
  obtain ⟨he, h2⟩ := And.intro (e_as h1 (xs (i + 1)) (xs (i + 2))) (rl_0 (x := 0) h1)
  refine lv_icmp_eq (tgt := 862) hx hb dL_law_778 (by decide) (fun _ => ?_) (fun z => absurd he z)
  refine W.widen (k := cells + 2) (n := slots + 112) (by omega) (by omega) ?_
  exact kk dm ln ad _ _ R nP nD H locs ls ⟨hW, oX, oM, oS, glue2 h2 (u0_lo) rfl (by omega), hag⟩ hS hl
set_option maxHeartbeats 4000000 in
set_option maxRecDepth 100000 in
theorem lc_ask {p : Program} {l : Launch} {e : Env} {s : State} {m : MethodId} {args : Array Value} {below : List Frame} {meth : Method} {c : Code} {b L : Nat} {xs : Nat → Int32} {A : Nat → Prop} {D : va_G} {q : Cq} {ad0 : Nat → Nat} {mi : Nat} {Q : State → Prop} {H : Heap} {locs : List Loc} {cells slots : Nat} {ls : Array Slot} {dm : List Nat} {ln ad : Nat → Nat} {V : Mv} {J : Mj} {R : Mr} {nP nD i cn : Nat} (C : LC p s m args c b L xs A D q ad0 mi) (hi : i + 4 ≤ L) (hcn : cn ≤ 1000) (hI : LI ad0 A D q cn H dm ln ad V J R nP nD) (hS : va_S A s.heap H locs) (hce : cells + 2 ≤ 600000) (hsl : slots + 112 ≤ 7302250) (hl : lv_has ls 4 [(0, .ref b), (1, .ref (ad 0)), (2, .ref (ad 1000)), (3, .int (nI i))]) (kk : ∀ (dm' : List Nat) (ln' ad' : Nat → Nat) (V' : Mv) (J' : Mj) (R' : Mr) (nP' nD' : Nat) (H' : Heap) (locs' : List Loc) (ls' : Array Slot), LI ad0 A D q (cn + 1) H' dm' ln' ad' V' J' R' nP' nD' → va_S A s.heap H' locs' → lv_has ls' 4 [(0, .ref b), (1, .ref (ad' 0)), (2, .ref (ad' 1000)), (3, .int (nI i))] → W p l e room_1 s m args below meth c H' locs' (cells + 2) (slots + 112) Q (F0 m 862 ls' [])) : W p l e room_1 s m args below meth c H locs cells slots Q (F0 m 783 ls []) := by
  obtain ⟨hx, hb, hml, hown, hts, hX, hbl, hbA, hK, hA, hXs, hL⟩ := C
  obtain ⟨hW, oX, oM, oS, hr, hag⟩ := hI
  have h30 := hr.1.1
  have h40 := hr.1.2.1
  have hp : V 1 2 = nI nP := hr.1.2.2.1
  have hq : V 2 2 = nI nD := hr.1.2.2.2.1
  refine lv_aload_n hx hb dL_law_783 rfl (lv_at hl 1 rfl) ?_
  refine lv_aload_n hx hb dL_law_784 rfl (lv_at hl 0 rfl) ?_
  refine lv_iload_n hx hb dL_law_785 rfl (lv_at hl 3 rfl) ?_
  refine lv_iconst (v := 1) hx hb dL_law_786 (by decide) ?_
  refine lv_iadd hx hb dL_law_787 ?_
  refine w_i (show nI i + 1 = nI (i + 1) from nI_add i 1) ?_
  refine w_sc (t := i + 1) hx hb hX hbl hbA hS (by omega) hL dL_law_788 ?_
  refine lv_aload_n hx hb dL_law_789 rfl (lv_at hl 0 rfl) ?_
  refine lv_iload_n hx hb dL_law_790 rfl (lv_at hl 3 rfl) ?_
  refine lv_iconst (v := 2) hx hb dL_law_791 (by decide) ?_
  refine lv_iadd hx hb dL_law_792 ?_
  refine w_i (show nI i + 2 = nI (i + 2) from nI_add i 2) ?_
  refine w_sc (t := i + 2) hx hb hX hbl hbA hS (by omega) hL dL_law_793 ?_
  refine w_ci (w_runV ⟨hx, hb, hml, hown, hts⟩ (c_X7_ask (lawX_ok ad0 mi) l D q V J R nP nD (xs (i + 1)) (xs (i + 2))  oX hp hq ) (lawX_ok ad0 mi) (cwV 2 hts gL_law_X7_ask rfl rfl rfl (by decide +kernel) ⟨Nat.le_of_ble_eq_true rfl, Nat.le_of_ble_eq_true rfl⟩) hK hW hS hA hXs (w_rcv hK hW (oX.1 0 (by decide)).1 (show kdG 0 = 8 from (oX.1 0 (by decide)).2.1) (by decide) rfl) rfl hl.1 rfl (Nat.le_of_ble_eq_true rfl) dL_law_794 ⟨by show cells + 0 ≤ 600000; omega, by show slots + 0 ≤ 7302250; omega⟩) hW hS hA (fun H locs hW hS => ?_)
  have hx1 : ∀ k, 1000 ≤ k → (x_askV V nD (xs (i + 1)) (xs (i + 2))) k = V k := xf_ask
  have h1 : rl cn nP nD V (x_askV V nD (xs (i + 1)) (xs (i + 2))) J J R := glue1 hr hx1 rfl
  refine lv_aload_n hx hb dL_law_797 rfl (lv_at hl 2 rfl) ?_
  refine lv_aload_n hx hb dL_law_798 rfl (lv_at hl 0 rfl) ?_
  refine lv_iload_n hx hb dL_law_799 rfl (lv_at hl 3 rfl) ?_
  refine lv_iconst (v := 1) hx hb dL_law_800 (by decide) ?_
  refine lv_iadd hx hb dL_law_801 ?_
  refine w_i (show nI i + 1 = nI (i + 1) from nI_add i 1) ?_
  refine w_sc (t := i + 1) hx hb hX hbl hbA hS (by omega) hL dL_law_802 ?_
  refine lv_aload_n hx hb dL_law_803 rfl (lv_at hl 0 rfl) ?_
  refine lv_iload_n hx hb dL_law_804 rfl (lv_at hl 3 rfl) ?_
  refine lv_iconst (v := 2) hx hb dL_law_805 (by decide) ?_
  refine lv_iadd hx hb dL_law_806 ?_
  refine w_i (show nI i + 2 = nI (i + 2) from nI_add i 2) ?_
  refine w_sc (t := i + 2) hx hb hX hbl hbA hS (by omega) hL dL_law_807 ?_
  refine w_ci (w_runV ⟨hx, hb, hml, hown, hts⟩ (c_X8_ask (lawX_ok ad0 mi) l D q (x_askV V nD (xs (i + 1)) (xs (i + 2))) J R nP nD (xs (i + 1)) (xs (i + 2))  oM h1.1.2.2.2.2.1 h30 h1.1.2.2.2.2.2 h40 ) (lawX_ok ad0 mi) (cwV 2 hts gL_law_X8_ask rfl rfl rfl (by decide +kernel) ⟨Nat.le_of_ble_eq_true rfl, Nat.le_of_ble_eq_true rfl⟩) hK hW hS hA hXs (w_rcv hK hW oM.1.1 oM.1.2 (by decide) rfl) rfl hl.1 rfl (Nat.le_of_ble_eq_true rfl) dL_law_808 ⟨by show cells + 0 ≤ 600000; omega, by show slots + 0 ≤ 7302250; omega⟩) hW hS hA (fun H locs hW hS => ?_)
  obtain ⟨he, h2⟩ := e_ask h1 (xs (i + 1)) (xs (i + 2))
  refine lv_icmp_eq (tgt := 862) hx hb dL_law_811 (by decide) (fun _ => ?_) (fun z => absurd he z)
  refine W.widen (k := cells + 2) (n := slots + 112) (by omega) (by omega) ?_
  exact kk dm ln ad _ _ R nP nD H locs ls ⟨hW, oX, oM, oS, glue2 h2 (mf_ask) rfl (by omega), hag⟩ hS hl
set_option maxHeartbeats 4000000 in
set_option maxRecDepth 100000 in
theorem lc_trace {p : Program} {l : Launch} {e : Env} {s : State} {m : MethodId} {args : Array Value} {below : List Frame} {meth : Method} {c : Code} {b L : Nat} {xs : Nat → Int32} {A : Nat → Prop} {D : va_G} {q : Cq} {ad0 : Nat → Nat} {mi : Nat} {Q : State → Prop} {H : Heap} {locs : List Loc} {cells slots : Nat} {ls : Array Slot} {dm : List Nat} {ln ad : Nat → Nat} {V : Mv} {J : Mj} {R : Mr} {nP nD i cn : Nat} (C : LC p s m args c b L xs A D q ad0 mi) (hi : i + 4 ≤ L) (hcn : cn ≤ 1000) (hI : LI ad0 A D q cn H dm ln ad V J R nP nD) (hS : va_S A s.heap H locs) (hce : cells + 2 ≤ 600000) (hsl : slots + 112 ≤ 7302250) (hl : lv_has ls 4 [(0, .ref b), (1, .ref (ad 0)), (2, .ref (ad 1000)), (3, .int (nI i))]) (kk : ∀ (dm' : List Nat) (ln' ad' : Nat → Nat) (V' : Mv) (J' : Mj) (R' : Mr) (nP' nD' : Nat) (H' : Heap) (locs' : List Loc) (ls' : Array Slot), LI ad0 A D q (cn + 1) H' dm' ln' ad' V' J' R' nP' nD' → va_S A s.heap H' locs' → lv_has ls' 4 [(0, .ref b), (1, .ref (ad' 0)), (2, .ref (ad' 1000)), (3, .int (nI i))] → W p l e room_1 s m args below meth c H' locs' (cells + 2) (slots + 112) Q (F0 m 862 ls' [])) : W p l e room_1 s m args below meth c H locs cells slots Q (F0 m 816 ls []) := by
  obtain ⟨hx, hb, hml, hown, hts, hX, hbl, hbA, hK, hA, hXs, hL⟩ := C
  obtain ⟨hW, oX, oM, oS, hr, hag⟩ := hI
  have h30 := hr.1.1
  have h40 := hr.1.2.1
  have hp : V 1 2 = nI nP := hr.1.2.2.1
  have hq : V 2 2 = nI nD := hr.1.2.2.2.1
  obtain ⟨nT, hnT, hT⟩ := rl_bod hr
  refine lv_aload_n hx hb dL_law_816 rfl (lv_at hl 1 rfl) ?_
  refine lv_aload_n hx hb dL_law_817 rfl (lv_at hl 0 rfl) ?_
  refine lv_iload_n hx hb dL_law_818 rfl (lv_at hl 3 rfl) ?_
  refine lv_iconst (v := 1) hx hb dL_law_819 (by decide) ?_
  refine lv_iadd hx hb dL_law_820 ?_
  refine w_i (show nI i + 1 = nI (i + 1) from nI_add i 1) ?_
  refine w_sc (t := i + 1) hx hb hX hbl hbA hS (by omega) hL dL_law_821 ?_
  refine w_ci (w_runV ⟨hx, hb, hml, hown, hts⟩ (c_X7_trace (lawX_ok ad0 mi) l D q V J R nP nD (xs (i + 1)) nT oX hp hq hT hnT) (lawX_ok ad0 mi) (cwV 1 hts gL_law_X7_trace rfl rfl rfl (by decide +kernel) ⟨Nat.le_of_ble_eq_true rfl, Nat.le_of_ble_eq_true rfl⟩) hK hW hS hA hXs (w_rcv hK hW (oX.1 0 (by decide)).1 (show kdG 0 = 8 from (oX.1 0 (by decide)).2.1) (by decide) rfl) rfl hl.1 rfl (Nat.le_of_ble_eq_true rfl) dL_law_822 ⟨by show cells + 0 ≤ 600000; omega, by show slots + 0 ≤ 7302250; omega⟩) hW hS hA (fun H locs hW hS => ?_)
  have hx1 : ∀ k, 1000 ≤ k → V k = V k := id_hi
  have h1 : rl cn nP nD V V J J R := glue1 hr hx1 rfl
  refine lv_aload_n hx hb dL_law_825 rfl (lv_at hl 2 rfl) ?_
  refine lv_aload_n hx hb dL_law_826 rfl (lv_at hl 0 rfl) ?_
  refine lv_iload_n hx hb dL_law_827 rfl (lv_at hl 3 rfl) ?_
  refine lv_iconst (v := 1) hx hb dL_law_828 (by decide) ?_
  refine lv_iadd hx hb dL_law_829 ?_
  refine w_i (show nI i + 1 = nI (i + 1) from nI_add i 1) ?_
  refine w_sc (t := i + 1) hx hb hX hbl hbA hS (by omega) hL dL_law_830 ?_
  refine w_ci (w_runV ⟨hx, hb, hml, hown, hts⟩ (c_X8_trace (lawX_ok ad0 mi) l D q V J R nP nD (xs (i + 1)) nT oM h1.1.2.2.2.2.1 h30 h1.1.2.2.2.2.2 h40 (e_trace h1 hT hnT (xs (i + 1))).1 hnT) (lawX_ok ad0 mi) (cwV 1 hts gL_law_X8_trace rfl rfl rfl (by decide +kernel) ⟨Nat.le_of_ble_eq_true rfl, Nat.le_of_ble_eq_true rfl⟩) hK hW hS hA hXs (w_rcv hK hW oM.1.1 oM.1.2 (by decide) rfl) rfl hl.1 rfl (Nat.le_of_ble_eq_true rfl) dL_law_831 ⟨by show cells + 0 ≤ 600000; omega, by show slots + 0 ≤ 7302250; omega⟩) hW hS hA (fun H locs hW hS => ?_)
  obtain ⟨he, h2⟩ := And.intro (e_trace h1 hT hnT (xs (i + 1))).2 (rl_0 (x := 0) h1)
  refine lv_icmp_eq (tgt := 862) hx hb dL_law_834 (by decide) (fun _ => ?_) (fun z => absurd he z)
  refine W.widen (k := cells + 2) (n := slots + 112) (by omega) (by omega) ?_
  exact kk dm ln ad _ _ R nP nD H locs ls ⟨hW, oX, oM, oS, glue2 h2 (u0_lo) rfl (by omega), hag⟩ hS hl
set_option maxHeartbeats 4000000 in
set_option maxRecDepth 100000 in
theorem lc_count {p : Program} {l : Launch} {e : Env} {s : State} {m : MethodId} {args : Array Value} {below : List Frame} {meth : Method} {c : Code} {b L : Nat} {xs : Nat → Int32} {A : Nat → Prop} {D : va_G} {q : Cq} {ad0 : Nat → Nat} {mi : Nat} {Q : State → Prop} {H : Heap} {locs : List Loc} {cells slots : Nat} {ls : Array Slot} {dm : List Nat} {ln ad : Nat → Nat} {V : Mv} {J : Mj} {R : Mr} {nP nD i cn : Nat} (C : LC p s m args c b L xs A D q ad0 mi) (hi : i + 4 ≤ L) (hcn : cn ≤ 1000) (hI : LI ad0 A D q cn H dm ln ad V J R nP nD) (hS : va_S A s.heap H locs) (hce : cells + 2 ≤ 600000) (hsl : slots + 112 ≤ 7302250) (hl : lv_has ls 4 [(0, .ref b), (1, .ref (ad 0)), (2, .ref (ad 1000)), (3, .int (nI i))]) (kk : ∀ (dm' : List Nat) (ln' ad' : Nat → Nat) (V' : Mv) (J' : Mj) (R' : Mr) (nP' nD' : Nat) (H' : Heap) (locs' : List Loc) (ls' : Array Slot), LI ad0 A D q (cn + 1) H' dm' ln' ad' V' J' R' nP' nD' → va_S A s.heap H' locs' → lv_has ls' 4 [(0, .ref b), (1, .ref (ad' 0)), (2, .ref (ad' 1000)), (3, .int (nI i))] → W p l e room_1 s m args below meth c H' locs' (cells + 2) (slots + 112) Q (F0 m 862 ls' [])) : W p l e room_1 s m args below meth c H locs cells slots Q (F0 m 839 ls []) := by
  obtain ⟨hx, hb, hml, hown, hts, hX, hbl, hbA, hK, hA, hXs, hL⟩ := C
  obtain ⟨hW, oX, oM, oS, hr, hag⟩ := hI
  have h30 := hr.1.1
  have h40 := hr.1.2.1
  have hp : V 1 2 = nI nP := hr.1.2.2.1
  have hq : V 2 2 = nI nD := hr.1.2.2.2.1
  refine lv_aload_n hx hb dL_law_839 rfl (lv_at hl 1 rfl) ?_
  refine lv_aload_n hx hb dL_law_840 rfl (lv_at hl 0 rfl) ?_
  refine lv_iload_n hx hb dL_law_841 rfl (lv_at hl 3 rfl) ?_
  refine lv_iconst (v := 1) hx hb dL_law_842 (by decide) ?_
  refine lv_iadd hx hb dL_law_843 ?_
  refine w_i (show nI i + 1 = nI (i + 1) from nI_add i 1) ?_
  refine w_sc (t := i + 1) hx hb hX hbl hbA hS (by omega) hL dL_law_844 ?_
  refine w_ci (w_runV ⟨hx, hb, hml, hown, hts⟩ (c_X7_count (lawX_ok ad0 mi) l D q V J R nP nD (xs (i + 1))  oX hp hq ) (lawX_ok ad0 mi) (cwV 1 hts gL_law_X7_count rfl rfl rfl (by decide +kernel) ⟨Nat.le_of_ble_eq_true rfl, Nat.le_of_ble_eq_true rfl⟩) hK hW hS hA hXs (w_rcv hK hW (oX.1 0 (by decide)).1 (show kdG 0 = 8 from (oX.1 0 (by decide)).2.1) (by decide) rfl) rfl hl.1 rfl (Nat.le_of_ble_eq_true rfl) dL_law_845 ⟨by show cells + 0 ≤ 600000; omega, by show slots + 0 ≤ 7302250; omega⟩) hW hS hA (fun H locs hW hS => ?_)
  have hx1 : ∀ k, 1000 ≤ k → V k = V k := id_hi
  have h1 : rl cn nP nD V V J J R := glue1 hr hx1 rfl
  refine lv_aload_n hx hb dL_law_848 rfl (lv_at hl 2 rfl) ?_
  refine lv_aload_n hx hb dL_law_849 rfl (lv_at hl 0 rfl) ?_
  refine lv_iload_n hx hb dL_law_850 rfl (lv_at hl 3 rfl) ?_
  refine lv_iconst (v := 1) hx hb dL_law_851 (by decide) ?_
  refine lv_iadd hx hb dL_law_852 ?_
  refine w_i (show nI i + 1 = nI (i + 1) from nI_add i 1) ?_
  refine w_sc (t := i + 1) hx hb hX hbl hbA hS (by omega) hL dL_law_853 ?_
  refine w_ci (w_runV ⟨hx, hb, hml, hown, hts⟩ (c_X8_count (lawX_ok ad0 mi) l D q V J R nP nD (xs (i + 1))  oM h1.1.2.2.2.2.1 h30 h1.1.2.2.2.2.2 h40 ) (lawX_ok ad0 mi) (cwV 1 hts gL_law_X8_count rfl rfl rfl (by decide +kernel) ⟨Nat.le_of_ble_eq_true rfl, Nat.le_of_ble_eq_true rfl⟩) hK hW hS hA hXs (w_rcv hK hW oM.1.1 oM.1.2 (by decide) rfl) rfl hl.1 rfl (Nat.le_of_ble_eq_true rfl) dL_law_854 ⟨by show cells + 0 ≤ 600000; omega, by show slots + 0 ≤ 7302250; omega⟩) hW hS hA (fun H locs hW hS => ?_)
  obtain ⟨he, h2⟩ := And.intro (e_count h1 (xs (i + 1))) (rl_0 (x := 0) h1)
  refine lv_icmp_eq (tgt := 862) hx hb dL_law_857 (by decide) (fun _ => ?_) (fun z => absurd he z)
  refine W.widen (k := cells + 2) (n := slots + 112) (by omega) (by omega) ?_
  exact kk dm ln ad _ _ R nP nD H locs ls ⟨hW, oX, oM, oS, glue2 h2 (u0_lo) rfl (by omega), hag⟩ hS hl
