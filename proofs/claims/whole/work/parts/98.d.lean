/-! ===== the law's start: two objects made, then the loop ===== -/
def lnG (k : Nat) : Nat := if k < 1000 then xln k else mln (k - 1000)
def V0 : Mv := fun _ _ => 0
def J0 : Mj := fun _ _ => 0
def R0 : Mr := fun _ _ => none
def RS1 : Mr := u2 (u2 (u2 (u2 (u2 (u2 (u2 (u2 (u2 (u2 (u2 (u2 (u2 (u2 (u2 (u2 (u2 (u2 R0 1 1 (some 18)) 0 0 (some 1)) 2 1 (some 18)) 0 1 (some 2)) 0 2 (some 3)) 4 0 (some 5)) 4 1 (some 6)) 4 2 (some 7)) 0 3 (some 4)) 8 0 (some 9)) 10 0 (some 8)) 10 1 (some 11)) 10 2 (some 12)) 10 3 (some 13)) 0 4 (some 10)) 0 5 (some 8)) 14 0 (some 15)) 0 6 (some 14)
def RS3 : Mr := u2 (u2 (u2 (u2 (u2 (u2 (u2 (u2 (u2 (u2 (u2 (u2 (u2 (u2 (u2 (u2 (u2 (u2 (u2 (u2 (u2 (u2 (u2 (u2 (u2 (u2 (u2 (u2 RS1 1000 2 (some 1002)) 1000 3 (some 1003)) 1000 4 (some 1004)) 1000 5 (some 1005)) 1000 6 (some 1006)) 1000 8 (some 1008)) 1000 9 (some 1009)) 1000 10 (some 1010)) 1000 11 (some 1011)) 1000 12 (some 1012)) 1000 13 (some 1013)) 1000 14 (some 1014)) 1000 15 (some 1015)) 1000 16 (some 1016)) 1000 17 (some 1017)) 1000 18 (some 1018)) 1000 19 (some 1019)) 1000 20 (some 1020)) 1000 27 (some 1027)) 1000 28 (some 1028)) 1000 29 (some 1029)) 1000 30 (some 1030)) 1000 31 (some 1031)) 1000 42 (some 1042)) 1000 43 (some 1043)) 1000 44 (some 1044)) 1000 45 (some 1045)) 1000 46 (some 1046)
def dmS1 : List Nat := [0, 1, 2, 3, 4, 5, 6, 7, 10, 8, 9, 11, 12, 13, 14, 15]
def dmS2 : List Nat := [0, 1, 2, 3, 4, 5, 6, 7, 10, 8, 9, 11, 12, 13, 14, 15, 1000]
def dmS3 : List Nat := [0, 1, 2, 3, 4, 5, 6, 7, 10, 8, 9, 11, 12, 13, 14, 15, 1000, 1002, 1003, 1004, 1005, 1006, 1008, 1009, 1010, 1011, 1012, 1013, 1014, 1015, 1016, 1017, 1018, 1019, 1020, 1027, 1028, 1029, 1030, 1031, 1042, 1043, 1044, 1045, 1046]
theorem rclS0 (dm : List Nat) : rcl dm R0 := fun k _ j t h => by cases h
theorem iv_S0 : iv [0] V0 J0 R0 0 := ⟨rfl, rfl, by decide, fun _ _ => rfl, rclS0 _⟩
set_option maxRecDepth 100000 in
theorem iv_S2 : iv dmS2 V0 J0 RS1 1000 := by
  refine ⟨rfl, rfl, by decide +kernel, fun k hk => ?_, ?_⟩
  · have hk := iv_rk_b hk
    unfold RS1
    rw [u2_ne (by omega), u2_ne (by omega), u2_ne (by omega), u2_ne (by omega), u2_ne (by omega), u2_ne (by omega), u2_ne (by omega), u2_ne (by omega), u2_ne (by omega), u2_ne (by omega), u2_ne (by omega), u2_ne (by omega), u2_ne (by omega), u2_ne (by omega), u2_ne (by omega), u2_ne (by omega), u2_ne (by omega), u2_ne (by omega)]
    rfl
  · exact rcl_put (k := 0) (j := 6) (o := some 14) (rcl_put (k := 14) (j := 0) (o := some 15) (rcl_put (k := 0) (j := 5) (o := some 8) (rcl_put (k := 0) (j := 4) (o := some 10) (rcl_put (k := 10) (j := 3) (o := some 13) (rcl_put (k := 10) (j := 2) (o := some 12) (rcl_put (k := 10) (j := 1) (o := some 11) (rcl_put (k := 10) (j := 0) (o := some 8) (rcl_put (k := 8) (j := 0) (o := some 9) (rcl_put (k := 0) (j := 3) (o := some 4) (rcl_put (k := 4) (j := 2) (o := some 7) (rcl_put (k := 4) (j := 1) (o := some 6) (rcl_put (k := 4) (j := 0) (o := some 5) (rcl_put (k := 0) (j := 2) (o := some 3) (rcl_put (k := 0) (j := 1) (o := some 2) (rcl_put (k := 2) (j := 1) (o := some 18) (rcl_put (k := 0) (j := 0) (o := some 1) (rcl_put (k := 1) (j := 1) (o := some 18) (rclS0 _) (fun t ht => by cases ht; decide +kernel)) (fun t ht => by cases ht; decide +kernel)) (fun t ht => by cases ht; decide +kernel)) (fun t ht => by cases ht; decide +kernel)) (fun t ht => by cases ht; decide +kernel)) (fun t ht => by cases ht; decide +kernel)) (fun t ht => by cases ht; decide +kernel)) (fun t ht => by cases ht; decide +kernel)) (fun t ht => by cases ht; decide +kernel)) (fun t ht => by cases ht; decide +kernel)) (fun t ht => by cases ht; decide +kernel)) (fun t ht => by cases ht; decide +kernel)) (fun t ht => by cases ht; decide +kernel)) (fun t ht => by cases ht; decide +kernel)) (fun t ht => by cases ht; decide +kernel)) (fun t ht => by cases ht; decide +kernel)) (fun t ht => by cases ht; decide +kernel)) (fun t ht => by cases ht; decide +kernel)
set_option maxRecDepth 100000 in
theorem rclS3 : rcl dmS3 RS3 := rcl_put (k := 1000) (j := 46) (o := some 1046) (rcl_put (k := 1000) (j := 45) (o := some 1045) (rcl_put (k := 1000) (j := 44) (o := some 1044) (rcl_put (k := 1000) (j := 43) (o := some 1043) (rcl_put (k := 1000) (j := 42) (o := some 1042) (rcl_put (k := 1000) (j := 31) (o := some 1031) (rcl_put (k := 1000) (j := 30) (o := some 1030) (rcl_put (k := 1000) (j := 29) (o := some 1029) (rcl_put (k := 1000) (j := 28) (o := some 1028) (rcl_put (k := 1000) (j := 27) (o := some 1027) (rcl_put (k := 1000) (j := 20) (o := some 1020) (rcl_put (k := 1000) (j := 19) (o := some 1019) (rcl_put (k := 1000) (j := 18) (o := some 1018) (rcl_put (k := 1000) (j := 17) (o := some 1017) (rcl_put (k := 1000) (j := 16) (o := some 1016) (rcl_put (k := 1000) (j := 15) (o := some 1015) (rcl_put (k := 1000) (j := 14) (o := some 1014) (rcl_put (k := 1000) (j := 13) (o := some 1013) (rcl_put (k := 1000) (j := 12) (o := some 1012) (rcl_put (k := 1000) (j := 11) (o := some 1011) (rcl_put (k := 1000) (j := 10) (o := some 1010) (rcl_put (k := 1000) (j := 9) (o := some 1009) (rcl_put (k := 1000) (j := 8) (o := some 1008) (rcl_put (k := 1000) (j := 6) (o := some 1006) (rcl_put (k := 1000) (j := 5) (o := some 1005) (rcl_put (k := 1000) (j := 4) (o := some 1004) (rcl_put (k := 1000) (j := 3) (o := some 1003) (rcl_put (k := 1000) (j := 2) (o := some 1002) (rcl_put (k := 0) (j := 6) (o := some 14) (rcl_put (k := 14) (j := 0) (o := some 15) (rcl_put (k := 0) (j := 5) (o := some 8) (rcl_put (k := 0) (j := 4) (o := some 10) (rcl_put (k := 10) (j := 3) (o := some 13) (rcl_put (k := 10) (j := 2) (o := some 12) (rcl_put (k := 10) (j := 1) (o := some 11) (rcl_put (k := 10) (j := 0) (o := some 8) (rcl_put (k := 8) (j := 0) (o := some 9) (rcl_put (k := 0) (j := 3) (o := some 4) (rcl_put (k := 4) (j := 2) (o := some 7) (rcl_put (k := 4) (j := 1) (o := some 6) (rcl_put (k := 4) (j := 0) (o := some 5) (rcl_put (k := 0) (j := 2) (o := some 3) (rcl_put (k := 0) (j := 1) (o := some 2) (rcl_put (k := 2) (j := 1) (o := some 18) (rcl_put (k := 0) (j := 0) (o := some 1) (rcl_put (k := 1) (j := 1) (o := some 18) (rclS0 _) (fun t ht => by cases ht; decide +kernel)) (fun t ht => by cases ht; decide +kernel)) (fun t ht => by cases ht; decide +kernel)) (fun t ht => by cases ht; decide +kernel)) (fun t ht => by cases ht; decide +kernel)) (fun t ht => by cases ht; decide +kernel)) (fun t ht => by cases ht; decide +kernel)) (fun t ht => by cases ht; decide +kernel)) (fun t ht => by cases ht; decide +kernel)) (fun t ht => by cases ht; decide +kernel)) (fun t ht => by cases ht; decide +kernel)) (fun t ht => by cases ht; decide +kernel)) (fun t ht => by cases ht; decide +kernel)) (fun t ht => by cases ht; decide +kernel)) (fun t ht => by cases ht; decide +kernel)) (fun t ht => by cases ht; decide +kernel)) (fun t ht => by cases ht; decide +kernel)) (fun t ht => by cases ht; decide +kernel)) (fun t ht => by cases ht; decide +kernel)) (fun t ht => by cases ht; decide +kernel)) (fun t ht => by cases ht; decide +kernel)) (fun t ht => by cases ht; decide +kernel)) (fun t ht => by cases ht; decide +kernel)) (fun t ht => by cases ht; decide +kernel)) (fun t ht => by cases ht; decide +kernel)) (fun t ht => by cases ht; decide +kernel)) (fun t ht => by cases ht; decide +kernel)) (fun t ht => by cases ht; decide +kernel)) (fun t ht => by cases ht; decide +kernel)) (fun t ht => by cases ht; decide +kernel)) (fun t ht => by cases ht; decide +kernel)) (fun t ht => by cases ht; decide +kernel)) (fun t ht => by cases ht; decide +kernel)) (fun t ht => by cases ht; decide +kernel)) (fun t ht => by cases ht; decide +kernel)) (fun t ht => by cases ht; decide +kernel)) (fun t ht => by cases ht; decide +kernel)) (fun t ht => by cases ht; decide +kernel)) (fun t ht => by cases ht; decide +kernel)) (fun t ht => by cases ht; decide +kernel)) (fun t ht => by cases ht; decide +kernel)) (fun t ht => by cases ht; decide +kernel)) (fun t ht => by cases ht; decide +kernel)) (fun t ht => by cases ht; decide +kernel)) (fun t ht => by cases ht; decide +kernel)) (fun t ht => by cases ht; decide +kernel)
set_option maxRecDepth 100000 in
theorem rclS1 : rcl dmS1 RS1 := rcl_put (k := 0) (j := 6) (o := some 14) (rcl_put (k := 14) (j := 0) (o := some 15) (rcl_put (k := 0) (j := 5) (o := some 8) (rcl_put (k := 0) (j := 4) (o := some 10) (rcl_put (k := 10) (j := 3) (o := some 13) (rcl_put (k := 10) (j := 2) (o := some 12) (rcl_put (k := 10) (j := 1) (o := some 11) (rcl_put (k := 10) (j := 0) (o := some 8) (rcl_put (k := 8) (j := 0) (o := some 9) (rcl_put (k := 0) (j := 3) (o := some 4) (rcl_put (k := 4) (j := 2) (o := some 7) (rcl_put (k := 4) (j := 1) (o := some 6) (rcl_put (k := 4) (j := 0) (o := some 5) (rcl_put (k := 0) (j := 2) (o := some 3) (rcl_put (k := 0) (j := 1) (o := some 2) (rcl_put (k := 2) (j := 1) (o := some 18) (rcl_put (k := 0) (j := 0) (o := some 1) (rcl_put (k := 1) (j := 1) (o := some 18) (rclS0 _) (fun t ht => by cases ht; decide +kernel)) (fun t ht => by cases ht; decide +kernel)) (fun t ht => by cases ht; decide +kernel)) (fun t ht => by cases ht; decide +kernel)) (fun t ht => by cases ht; decide +kernel)) (fun t ht => by cases ht; decide +kernel)) (fun t ht => by cases ht; decide +kernel)) (fun t ht => by cases ht; decide +kernel)) (fun t ht => by cases ht; decide +kernel)) (fun t ht => by cases ht; decide +kernel)) (fun t ht => by cases ht; decide +kernel)) (fun t ht => by cases ht; decide +kernel)) (fun t ht => by cases ht; decide +kernel)) (fun t ht => by cases ht; decide +kernel)) (fun t ht => by cases ht; decide +kernel)) (fun t ht => by cases ht; decide +kernel)) (fun t ht => by cases ht; decide +kernel)) (fun t ht => by cases ht; decide +kernel)
theorem ni_1000 : ∀ k' ∈ dmS1, ∀ j, RS1 k' j ≠ some 1000 := rcl_rf rclS1 (by decide +kernel) (by decide)
theorem RS1_1000 : RS1 1000 = fun _ => none := by
  unfold RS1
  rw [u2_ne (by decide), u2_ne (by decide), u2_ne (by decide), u2_ne (by decide), u2_ne (by decide), u2_ne (by decide), u2_ne (by decide), u2_ne (by decide), u2_ne (by decide), u2_ne (by decide), u2_ne (by decide), u2_ne (by decide), u2_ne (by decide), u2_ne (by decide), u2_ne (by decide), u2_ne (by decide), u2_ne (by decide), u2_ne (by decide)]
  rfl
set_option maxRecDepth 100000 in
theorem xrfS {k j t : Nat} (h : xrf k j = some t) : RS3 k j = some t := by
  unfold xrf at h
  split at h <;> first | (cases h; done) | (cases h; decide +kernel)
set_option maxRecDepth 100000 in
theorem okX_S : okX dmS3 kdG lnG RS3 0 0 := by
  have h1 : ∀ k, k < 16 → k ∈ dmS3 := by decide +kernel
  refine ⟨fun k hk => ⟨h1 k hk, kdG_x hk, ?_, fun j t h => xrfS h⟩, ⟨by decide, by decide⟩, fun i hi => absurd hi (by omega), fun i hi => absurd hi (by omega), fun hi => absurd hi (by omega), fun hi => absurd hi (by omega)⟩
  rw [lnG, if_pos (by omega)]
set_option maxRecDepth 100000 in
theorem okM_S : okM dmS3 kdG lnG RS3 := ⟨⟨by decide +kernel, by decide +kernel⟩, by decide +kernel⟩
set_option maxRecDepth 100000 in
theorem okS_S : okS dmS3 lnG RS3 0 0 := by
  have n16 : ¬ (16 ∈ dmS3 ∨ (16 : Nat) = 18) := by decide +kernel
  have n17 : ¬ (17 ∈ dmS3 ∨ (17 : Nat) = 18) := by decide +kernel
  exact ⟨rclS3, by decide +kernel, fun k hk j h => absurd (rclS3 k hk j 16 h) n16, fun k hk j h => absurd (rclS3 k hk j 17 h) n17, fun _ => by decide +kernel, fun _ => by decide +kernel, fun h => absurd h (by omega), fun h => absurd h (by omega)⟩
theorem rl_S : rl 0 0 0 V0 V0 J0 J0 RS3 := by
  refine ⟨⟨by decide, by decide, rfl, rfl, rfl, rfl⟩, fun i hi => absurd hi (by omega), fun i hi => absurd hi (by omega), fun _ _ _ _ _ _ => rfl, ⟨rfl, ⟨by decide, by decide⟩, ⟨by decide, by decide⟩, rfl, rfl, rfl, rfl⟩, rfl, rfl, ⟨0, by decide, rfl, rfl, fun t ht => absurd ht (by omega)⟩, ⟨0, by decide, rfl, rfl, fun t ht => absurd ht (by omega)⟩⟩
theorem wok_S {A : Nat → Prop} {D : va_G} {q : Cq} {ad : Nat → Nat} {H : Heap} : wok A D q [] kdG lnG ad V0 J0 R0 H :=
  ⟨fun k x h => by simp [wl] at h, fun i j x y h => by simp [wl] at h, fun k x h => by simp [wl] at h⟩
set_option maxHeartbeats 4000000 in
set_option maxRecDepth 100000 in
/-- YOUR PART: from the entry, for every script of at most 2048 ints, the law comes to its end with true -/
theorem whole_start {p : Program} {e : Env} {s : State} {m : MethodId} {below : List Frame} {meth : Method} {c : Code} (l : Launch) (hflags : l.flags = flags0) {b L : Nat} {xs : Nat → Int32} (hL : L ≤ 2048) (C0 : lw_At p s m meth c b L xs) : W p l e room_1 s m #[Value.ref b] below meth c s.heap [] 0 0 (lw_Z below #[Value.ref b] s) (entryFrame m ([Value.ref b] : List Value).toArray 4) := by
  obtain ⟨hx, hb, hrt, hml, hown, hts0, hX, hbl, hlk, hgv⟩ := C0
  obtain ⟨D, q, hK⟩ := st_K hts0
  obtain ⟨ad0, mi, hXs⟩ := st_X hts0 hgv
  have hts : ∀ w ∈ wsL_law, w.before #[Value.ref b] s = true := fun w h => hts0 w (wsL_law_in w h)
  have hA : ∀ q, s.heap.size ≤ q → (fun q : Nat => s.heap.size ≤ q) q := fun q h => h
  have hbA : ¬ (fun q : Nat => s.heap.size ≤ q) b := Nat.not_le.mpr hbl
  have C : LC p s m #[Value.ref b] c b L xs (fun q : Nat => s.heap.size ≤ q) D q ad0 mi := ⟨hx, hb, hml, hown, hts, hX, hbl, hbA, hK, hA, hXs, hL⟩
  have hb : c.code = cL_law := hb
  have hown : s.vm.findClass RL = some m.cls := hown
  have hS : va_S (fun q : Nat => s.heap.size ≤ q) s.heap s.heap [] := va_S.rf
  have hW : wok (fun q : Nat => s.heap.size ≤ q) D q [] kdG lnG ad0 V0 J0 R0 s.heap := wok_S
  have hl := lv_entry ([.ref b]) (n := 4) (Nat.le_of_ble_eq_true rfl)
  rw [lg_entry_eq]
  generalize (lg_sl ([.ref b]) ++ List.replicate (4 - (lg_sl ([.ref b])).length) Slot.unset).toArray = ls at hl ⊢
  have hl : lv_has ls 4 [(0, .ref b)] := hl
  refine w_new (ci := 8) (T := TX7) (k := 0) hx hb hts0 inX7 tyX7 tyX7_ok hown (hts0 (.classLink RL 7 RX7) (by decide +kernel)) (hts0 (.instantiable RX7 8) (by decide +kernel)) (hts0 (.initialized RX7) (by decide +kernel)) hK hW hS hA (by decide) (fun _ h => absurd h (by simp)) ⟨rfl, rfl, rfl⟩ rfl (by decide) rfl nf_8 (Nat.le_of_ble_eq_true rfl) (Nat.le_of_ble_eq_true rfl) dL_law_0 (fun ad1 H1 hq1 hW hS => ?_)
  have hW : wok (fun q : Nat => s.heap.size ≤ q) D q [0] kdG lnG ad1 V0 J0 R0 H1 := hW
  have ha1 : ∀ k, (k = 18 ∨ (50 ≤ k ∧ k < 70)) → ad1 k = ad0 k := fun k hk => hq1 k (by omega)
  refine lv_dup hx hb dL_law_3 rfl ?_
  refine w_cgv (w_runI ⟨hx, hb, hml, hown, hts⟩ (c_X7_init (lawX_ok ad0 mi) l D q V0 J0 R0 (by decide) rfl rfl rfl rfl rfl rfl rfl rfl rfl rfl rfl rfl rfl rfl rfl rfl rfl rfl rfl rfl rfl rfl rfl rfl iv_S0 (st_ag ha1) (fun _ _ h => h.2.2)) (lawX_ok ad0 mi) (cwI 0 hts gL_law_X7_init rfl rfl rfl (hts0 (.initialized RX7) (by decide +kernel)) (hts0 (.methodLink RL 9 yX7_init) (by decide +kernel)) (hts0 (.instanceMethod yX7_init) (by decide +kernel)) rfl (by decide +kernel) ⟨Nat.le_of_ble_eq_true rfl, Nat.le_of_ble_eq_true rfl⟩) hK hW hS hA hXs rfl hl.1 rfl (Nat.le_of_ble_eq_true rfl) dL_law_4 ⟨Nat.le_of_ble_eq_true rfl, Nat.le_of_ble_eq_true rfl⟩) hW hS hA (fun ad2 H2 locs2 hq2 hW hS => ?_)
  have hW : wok (fun q : Nat => s.heap.size ≤ q) D q dmS1 kdG lnG ad2 V0 J0 RS1 H2 := hW
  have ha2 : ∀ k, (k = 18 ∨ (50 ≤ k ∧ k < 70)) → ad2 k = ad0 k := fun k hk => (hq2 k (by omega)).trans (ha1 k hk)
  have e2 : ad2 0 = ad1 0 := hq2 0 (by decide)
  refine w_st (st' := [.ref (ad2 0)]) (by rw [e2]) ?_
  refine lv_astore_n (lv' := [(1, .ref (ad2 0)), (0, .ref b)]) hx hb dL_law_7 rfl hl (by decide) rfl (fun ls hl => ?_)
  refine w_new (ci := 9) (T := TX8) (k := 1000) hx hb hts0 inX8 tyX8 tyX8_ok hown (hts0 (.classLink RL 10 RX8) (by decide +kernel)) (hts0 (.instantiable RX8 48) (by decide +kernel)) (hts0 (.initialized RX8) (by decide +kernel)) hK hW hS hA (by decide +kernel) ni_1000 ⟨rfl, rfl, RS1_1000⟩ rfl (by decide) rfl nf_9 (Nat.le_of_ble_eq_true rfl) (Nat.le_of_ble_eq_true rfl) dL_law_8 (fun ad3 H3 hq3 hW hS => ?_)
  have hW : wok (fun q : Nat => s.heap.size ≤ q) D q dmS2 kdG lnG ad3 V0 J0 RS1 H3 := hW
  have ha3 : ∀ k, (k = 18 ∨ (50 ≤ k ∧ k < 70)) → ad3 k = ad0 k := fun k hk => (hq3 k (by omega)).trans (ha2 k hk)
  have e3 : ad3 0 = ad2 0 := hq3 0 (by decide)
  refine lv_dup hx hb dL_law_11 rfl ?_
  refine w_cgv (w_runI ⟨hx, hb, hml, hown, hts⟩ (c_X8_init (lawX_ok ad0 mi) l D q V0 J0 RS1 (by decide +kernel) rfl rfl rfl rfl rfl rfl rfl rfl rfl rfl rfl rfl rfl rfl rfl rfl rfl rfl rfl rfl rfl rfl rfl rfl rfl rfl rfl rfl rfl rfl rfl rfl rfl rfl rfl rfl rfl rfl rfl rfl rfl rfl rfl rfl rfl rfl rfl rfl rfl rfl rfl rfl rfl rfl rfl rfl rfl iv_S2) (lawX_ok ad0 mi) (cwI 0 hts gL_law_X8_init rfl rfl rfl (hts0 (.initialized RX8) (by decide +kernel)) (hts0 (.methodLink RL 12 yX8_init) (by decide +kernel)) (hts0 (.instanceMethod yX8_init) (by decide +kernel)) rfl (by decide +kernel) ⟨Nat.le_of_ble_eq_true rfl, Nat.le_of_ble_eq_true rfl⟩) hK hW hS hA hXs rfl hl.1 rfl (Nat.le_of_ble_eq_true rfl) dL_law_12 ⟨Nat.le_of_ble_eq_true rfl, Nat.le_of_ble_eq_true rfl⟩) hW hS hA (fun ad4 H4 locs4 hq4 hW hS => ?_)
  have hW : wok (fun q : Nat => s.heap.size ≤ q) D q dmS3 kdG lnG ad4 V0 J0 RS3 H4 := hW
  have ha4 : ∀ k, (k = 18 ∨ (50 ≤ k ∧ k < 70)) → ad4 k = ad0 k := fun k hk => (hq4 k (by omega)).trans (ha3 k hk)
  have e4 : ad4 0 = ad3 0 := hq4 0 (by decide)
  have e5 : ad4 1000 = ad3 1000 := hq4 1000 (by decide)
  have hl : lv_has ls 4 [(1, .ref (ad4 0)), (0, .ref b)] := by rw [e4, e3]; exact hl
  refine w_st (st' := [.ref (ad4 1000)]) (by rw [e5]) ?_
  refine lv_astore_n (lv' := [(2, .ref (ad4 1000)), (1, .ref (ad4 0)), (0, .ref b)]) hx hb dL_law_15 rfl hl (by decide) rfl (fun ls hl => ?_)
  refine lv_iconst (v := 0) hx hb dL_law_16 (by decide) ?_
  refine lv_istore_n (lv' := [(3, .int 0), (2, .ref (ad4 1000)), (1, .ref (ad4 0)), (0, .ref b)]) hx hb dL_law_17 rfl hl (by decide) rfl (fun ls hl => ?_)
  exact law_loop hrt hlk C 512 0 0 _ _ H4 locs4 ls dmS3 lnG ad4 V0 J0 RS3 0 0 (by decide) (by omega) (by decide) (Nat.le_of_ble_eq_true rfl) (Nat.le_of_ble_eq_true rfl) ⟨hW, okX_S, okM_S, okS_S, rl_S, ha4⟩ hS (lv_sub hl [3, 2, 1, 0] rfl)
