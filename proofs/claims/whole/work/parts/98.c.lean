theorem lw_gt {i L : Nat} (hL : L ≤ 2048) (hi : i < 5000) (h : L < i + 4) : Int32.ofNat L - 4 < nI i := by
  have e : (Int32.ofNat L - 4).toInt = (L : Int) - 4 := pk_sub_toInt (a := L) (b := 4) (by omega) (by omega)
  exact Int32.lt_iff_toInt_lt.mpr (by rw [e, nI_toInt (by omega)]; omega)
set_option maxHeartbeats 4000000 in
set_option maxRecDepth 100000 in
/-- THE LAW'S LOOP -/
theorem law_loop {p : Program} {l : Launch} {e : Env} {s : State} {m : MethodId} {below : List Frame} {meth : Method} {c : Code} {b L : Nat} {xs : Nat → Int32} {D : va_G} {q : Cq} {ad0 : Nat → Nat} {mi : Nat} (hrt : meth.sig.returnType = ret) (hlk : meth.locks = false) (C : LC p s m #[Value.ref b] c b L xs (fun q : Nat => s.heap.size ≤ q) D q ad0 mi) : ∀ (n i cn cells slots : Nat) (H : Heap) (locs : List Loc) (ls : Array Slot) (dm : List Nat) (ln ad : Nat → Nat) (V : Mv) (J : Mj) (R : Mr) (nP nD : Nat), i < 4000 → L < i + 4 + 4 * n → cn + n ≤ 1000 → cells + 2 * (n + 1) ≤ 600000 → slots + 112 * (n + 1) ≤ 7302250 → LI ad0 (fun q : Nat => s.heap.size ≤ q) D q cn H dm ln ad V J R nP nD → va_S (fun q : Nat => s.heap.size ≤ q) s.heap H locs → lv_has ls 4 [(0, .ref b), (1, .ref (ad 0)), (2, .ref (ad 1000)), (3, .int (nI i))] → W p l e room_1 s m #[Value.ref b] below meth c H locs cells slots (lw_Z below #[Value.ref b] s) (F0 m 18 ls []) := by
  intro n
  induction n with
  | zero =>
    intro i cn cells slots H locs ls dm ln ad V J R nP nD hi4 hfu hcn hce hsl hI hS hl
    obtain ⟨hx, hb, hml, hown, hts, hX, hbl, hbA, hK, hA, hXs, hL⟩ := id C
    refine lv_iload_n hx hb dL_law_18 rfl (lv_at hl 3 rfl) ?_
    refine lv_aload_n hx hb dL_law_19 rfl (lv_at hl 0 rfl) ?_
    refine va_slen hx hb hX hbl hbA hS dL_law_20 ?_
    refine lv_iconst (v := 4) hx hb dL_law_21 (by decide) ?_
    refine lv_isub hx hb dL_law_22 ?_
    refine lv_icmp_gt (tgt := 868) hx hb dL_law_23 (by decide) (fun _ => ?_) (fun z => absurd (lw_gt hL (by omega) (by omega)) z)
    refine lv_iconst (v := 1) hx hb dL_law_868 (by decide) ?_
    refine va_forget (fun q hq => hS.2.2 q hq) ?_
    refine W.widen (k := 600000) (n := 7302250) (by omega) (by omega) ?_
    exact lw_ret hx hb hrt hlk dL_law_869
  | succ n ih =>
    intro i cn cells slots H locs ls dm ln ad V J R nP nD hi4 hfu hcn hce hsl hI hS hl
    obtain ⟨hx, hb, hml, hown, hts, hX, hbl, hbA, hK, hA, hXs, hL⟩ := id C
    refine lv_iload_n hx hb dL_law_18 rfl (lv_at hl 3 rfl) ?_
    refine lv_aload_n hx hb dL_law_19 rfl (lv_at hl 0 rfl) ?_
    refine va_slen hx hb hX hbl hbA hS dL_law_20 ?_
    refine lv_iconst (v := 4) hx hb dL_law_21 (by decide) ?_
    refine lv_isub hx hb dL_law_22 ?_
    refine lv_icmp_gt (tgt := 868) hx hb dL_law_23 (by decide) (fun _ => ?_) (fun z => ?_)
    · refine lv_iconst (v := 1) hx hb dL_law_868 (by decide) ?_
      refine va_forget (fun q hq => hS.2.2 q hq) ?_
      refine W.widen (k := 600000) (n := 7302250) (by omega) (by omega) ?_
      exact lw_ret hx hb hrt hlk dL_law_869
    have hi : i + 4 ≤ L := by
      rcases Nat.lt_or_ge L (i + 4) with y | y
      · exact absurd (lw_gt hL (by omega) (by omega)) z
      · exact y
    have kk : ∀ (dm' : List Nat) (ln' ad' : Nat → Nat) (V' : Mv) (J' : Mj) (R' : Mr) (nP' nD' : Nat) (H' : Heap) (locs' : List Loc) (ls' : Array Slot), LI ad0 (fun q : Nat => s.heap.size ≤ q) D q (cn + 1) H' dm' ln' ad' V' J' R' nP' nD' → va_S (fun q : Nat => s.heap.size ≤ q) s.heap H' locs' → lv_has ls' 4 [(0, .ref b), (1, .ref (ad' 0)), (2, .ref (ad' 1000)), (3, .int (nI i))] → W p l e room_1 s m #[Value.ref b] below meth c H' locs' (cells + 2) (slots + 112) (lw_Z below #[Value.ref b] s) (F0 m 862 ls' []) := by
      intro dm' ln' ad' V' J' R' nP' nD' H' locs' ls' hI' hS' hl'
      refine lv_iinc (v := nI (i + 4)) (lv' := [(3, .int (nI (i + 4))), (0, .ref b), (1, .ref (ad' 0)), (2, .ref (ad' 1000))]) hx hb dL_law_862 hl' (k := 3) rfl (nI_add i 4) (by decide) rfl (fun ls2 hl2 => ?_)
      refine lv_goto (tgt := 18) hx hb dL_law_865 (by decide) ?_
      exact ih (i + 4) (cn + 1) (cells + 2) (slots + 112) H' locs' ls2 dm' ln' ad' V' J' R' nP' nD' (by omega) (by omega) (by omega) (by omega) (by omega) hI' hS' (lv_sub hl2 [1, 2, 3, 0] rfl)
    refine lv_aload_n hx hb dL_law_26 rfl (lv_at hl 0 rfl) ?_
    refine lv_iload_n hx hb dL_law_27 rfl (lv_at hl 3 rfl) ?_
    refine w_sc (t := i) hx hb hX hbl hbA hS (by omega) hL dL_law_28 ?_
    refine lv_bipush (v := 31) hx hb dL_law_29 (by decide) ?_
    refine lv_iand hx hb dL_law_31 ?_
    by_cases s_0 : xs i &&& 31 = 0
    · refine w_i s_0 ?_
      refine lv_tableIn (tgt := 152) hx hb dL_law_32 (by decide) (by decide) (off := 120) (by decide) (by decide) ?_
      exact lc_pipe C hi (by omega) hI hS (by omega) (by omega) hl kk
    by_cases s_1 : xs i &&& 31 = 1
    · refine w_i s_1 ?_
      refine lv_tableIn (tgt := 195) hx hb dL_law_32 (by decide) (by decide) (off := 163) (by decide) (by decide) ?_
      exact lc_leak C hi (by omega) hI hS (by omega) (by omega) hl kk
    by_cases s_2 : xs i &&& 31 = 2
    · refine w_i s_2 ?_
      refine lv_tableIn (tgt := 228) hx hb dL_law_32 (by decide) (by decide) (off := 196) (by decide) (by decide) ?_
      exact lc_told C hi (by omega) hI hS (by omega) (by omega) hl kk
    by_cases s_3 : xs i &&& 31 = 3
    · refine w_i s_3 ?_
      refine lv_tableIn (tgt := 261) hx hb dL_law_32 (by decide) (by decide) (off := 229) (by decide) (by decide) ?_
      exact lc_dial C hi (by omega) hI hS (by omega) (by omega) hl kk
    by_cases s_4 : xs i &&& 31 = 4
    · refine w_i s_4 ?_
      refine lv_tableIn (tgt := 304) hx hb dL_law_32 (by decide) (by decide) (off := 272) (by decide) (by decide) ?_
      exact lc_puff C hi (by omega) hI hS (by omega) (by omega) hl kk
    by_cases s_5 : xs i &&& 31 = 5
    · refine w_i s_5 ?_
      refine lv_tableIn (tgt := 317) hx hb dL_law_32 (by decide) (by decide) (off := 285) (by decide) (by decide) ?_
      exact lc_drift C hi (by omega) hI hS (by omega) (by omega) hl kk
    by_cases s_6 : xs i &&& 31 = 6
    · refine w_i s_6 ?_
      refine lv_tableIn (tgt := 340) hx hb dL_law_32 (by decide) (by decide) (off := 308) (by decide) (by decide) ?_
      exact lc_sight C hi (by omega) hI hS (by omega) (by omega) hl kk
    by_cases s_7 : xs i &&& 31 = 7
    · refine w_i s_7 ?_
      refine lv_tableIn (tgt := 354) hx hb dL_law_32 (by decide) (by decide) (off := 322) (by decide) (by decide) ?_
      exact lc_now C hi (by omega) hI hS (by omega) (by omega) hl kk
    by_cases s_8 : xs i &&& 31 = 8
    · refine w_i s_8 ?_
      refine lv_tableIn (tgt := 378) hx hb dL_law_32 (by decide) (by decide) (off := 346) (by decide) (by decide) ?_
      exact lc_look C hi (by omega) hI hS (by omega) (by omega) hl kk
    by_cases s_9 : xs i &&& 31 = 9
    · refine w_i s_9 ?_
      refine lv_tableIn (tgt := 401) hx hb dL_law_32 (by decide) (by decide) (off := 369) (by decide) (by decide) ?_
      exact lc_state C hi (by omega) hI hS (by omega) (by omega) hl kk
    by_cases s_10 : xs i &&& 31 = 10
    · refine w_i s_10 ?_
      refine lv_tableIn (tgt := 434) hx hb dL_law_32 (by decide) (by decide) (off := 402) (by decide) (by decide) ?_
      exact lc_put C hi (by omega) hI hS (by omega) (by omega) hl kk
    by_cases s_11 : xs i &&& 31 = 11
    · refine w_i s_11 ?_
      refine lv_tableIn (tgt := 467) hx hb dL_law_32 (by decide) (by decide) (off := 435) (by decide) (by decide) ?_
      exact lc_right C hi (by omega) hI hS (by omega) (by omega) hl kk
    by_cases s_12 : xs i &&& 31 = 12
    · refine w_i s_12 ?_
      refine lv_tableIn (tgt := 490) hx hb dL_law_32 (by decide) (by decide) (off := 458) (by decide) (by decide) ?_
      exact lc_round C hi (by omega) hI hS (by omega) (by omega) hl kk
    by_cases s_13 : xs i &&& 31 = 13
    · refine w_i s_13 ?_
      refine lv_tableIn (tgt := 513) hx hb dL_law_32 (by decide) (by decide) (off := 481) (by decide) (by decide) ?_
      exact lc_ahead C hi (by omega) hI hS (by omega) (by omega) hl kk
    by_cases s_14 : xs i &&& 31 = 14
    · refine w_i s_14 ?_
      refine lv_tableIn (tgt := 536) hx hb dL_law_32 (by decide) (by decide) (off := 504) (by decide) (by decide) ?_
      exact lc_mark C hi (by omega) hI hS (by omega) (by omega) hl kk
    by_cases s_15 : xs i &&& 31 = 15
    · refine w_i s_15 ?_
      refine lv_tableIn (tgt := 569) hx hb dL_law_32 (by decide) (by decide) (off := 537) (by decide) (by decide) ?_
      exact lc_explains C hi (by omega) hI hS (by omega) (by omega) hl kk
    by_cases s_16 : xs i &&& 31 = 16
    · refine w_i s_16 ?_
      refine lv_tableIn (tgt := 602) hx hb dL_law_32 (by decide) (by decide) (off := 570) (by decide) (by decide) ?_
      exact lc_next C hi (by omega) hI hS (by omega) (by omega) hl kk
    by_cases s_17 : xs i &&& 31 = 17
    · refine w_i s_17 ?_
      refine lv_tableIn (tgt := 615) hx hb dL_law_32 (by decide) (by decide) (off := 583) (by decide) (by decide) ?_
      exact lc_feed C hi (by omega) hI hS (by omega) (by omega) hl kk
    by_cases s_18 : xs i &&& 31 = 18
    · refine w_i s_18 ?_
      refine lv_tableIn (tgt := 678) hx hb dL_law_32 (by decide) (by decide) (off := 646) (by decide) (by decide) ?_
      exact lc_contracts C hi (by omega) hI hS (by omega) (by omega) hl kk
    by_cases s_19 : xs i &&& 31 = 19
    · refine w_i s_19 ?_
      refine lv_tableIn (tgt := 691) hx hb dL_law_32 (by decide) (by decide) (off := 659) (by decide) (by decide) ?_
      exact lc_fault C hi (by omega) hI hS (by omega) (by omega) hl kk
    by_cases s_20 : xs i &&& 31 = 20
    · refine w_i s_20 ?_
      refine lv_tableIn (tgt := 704) hx hb dL_law_32 (by decide) (by decide) (off := 672) (by decide) (by decide) ?_
      exact lc_owes C hi (by omega) hI hS (by omega) (by omega) hl kk
    by_cases s_21 : xs i &&& 31 = 21
    · refine w_i s_21 ?_
      refine lv_tableIn (tgt := 727) hx hb dL_law_32 (by decide) (by decide) (off := 695) (by decide) (by decide) ?_
      exact lc_kind C hi (by omega) hI hS (by omega) (by omega) hl kk
    by_cases s_22 : xs i &&& 31 = 22
    · refine w_i s_22 ?_
      refine lv_tableIn (tgt := 750) hx hb dL_law_32 (by decide) (by decide) (off := 718) (by decide) (by decide) ?_
      exact lc_as C hi (by omega) hI hS (by omega) (by omega) hl kk
    by_cases s_23 : xs i &&& 31 = 23
    · refine w_i s_23 ?_
      refine lv_tableIn (tgt := 783) hx hb dL_law_32 (by decide) (by decide) (off := 751) (by decide) (by decide) ?_
      exact lc_ask C hi (by omega) hI hS (by omega) (by omega) hl kk
    by_cases s_24 : xs i &&& 31 = 24
    · refine w_i s_24 ?_
      refine lv_tableIn (tgt := 816) hx hb dL_law_32 (by decide) (by decide) (off := 784) (by decide) (by decide) ?_
      exact lc_trace C hi (by omega) hI hS (by omega) (by omega) hl kk
    by_cases s_25 : xs i &&& 31 = 25
    · refine w_i s_25 ?_
      refine lv_tableIn (tgt := 839) hx hb dL_law_32 (by decide) (by decide) (off := 807) (by decide) (by decide) ?_
      exact lc_count C hi (by omega) hI hS (by omega) (by omega) hl kk
    refine lv_tableOut (tgt := 862) hx hb dL_law_32 (by have h0 := i32_neL s_0 (k := 0) (by decide); have h1 := i32_neL s_1 (k := 1) (by decide); have h2 := i32_neL s_2 (k := 2) (by decide); have h3 := i32_neL s_3 (k := 3) (by decide); have h4 := i32_neL s_4 (k := 4) (by decide); have h5 := i32_neL s_5 (k := 5) (by decide); have h6 := i32_neL s_6 (k := 6) (by decide); have h7 := i32_neL s_7 (k := 7) (by decide); have h8 := i32_neL s_8 (k := 8) (by decide); have h9 := i32_neL s_9 (k := 9) (by decide); have h10 := i32_neL s_10 (k := 10) (by decide); have h11 := i32_neL s_11 (k := 11) (by decide); have h12 := i32_neL s_12 (k := 12) (by decide); have h13 := i32_neL s_13 (k := 13) (by decide); have h14 := i32_neL s_14 (k := 14) (by decide); have h15 := i32_neL s_15 (k := 15) (by decide); have h16 := i32_neL s_16 (k := 16) (by decide); have h17 := i32_neL s_17 (k := 17) (by decide); have h18 := i32_neL s_18 (k := 18) (by decide); have h19 := i32_neL s_19 (k := 19) (by decide); have h20 := i32_neL s_20 (k := 20) (by decide); have h21 := i32_neL s_21 (k := 21) (by decide); have h22 := i32_neL s_22 (k := 22) (by decide); have h23 := i32_neL s_23 (k := 23) (by decide); have h24 := i32_neL s_24 (k := 24) (by decide); have h25 := i32_neL s_25 (k := 25) (by decide); omega) (by decide) ?_
    refine W.widen (k := cells + 2) (n := slots + 112) (by omega) (by omega) ?_
    exact kk dm ln ad V J R nP nD H locs ls ⟨hI.1, hI.2.1, hI.2.2.1, hI.2.2.2.1, rl_up (by omega) hI.2.2.2.2.1, hI.2.2.2.2.2⟩ hS hl
