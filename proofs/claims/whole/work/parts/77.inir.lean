theorem nf_0 : ∀ j, j < 3 → defaultValue (tyJx4a65c j) = vp_V (cf 0 id (fun _ => 0) (fun _ => 0) (fun _ => none)) j := by
  intro j hj
  rcases (show j = 0 ∨ j = 1 ∨ j = 2 by omega) with rfl | rfl | rfl <;> rfl
theorem nf_1 : ∀ j, j < 12 → defaultValue (tyX0 j) = vp_V (cf 1 id (fun _ => 0) (fun _ => 0) (fun _ => none)) j := by
  intro j hj
  rcases (show j = 0 ∨ j = 1 ∨ j = 2 ∨ j = 3 ∨ j = 4 ∨ j = 5 ∨ j = 6 ∨ j = 7 ∨ j = 8 ∨ j = 9 ∨ j = 10 ∨ j = 11 by omega) with rfl | rfl | rfl | rfl | rfl | rfl | rfl | rfl | rfl | rfl | rfl | rfl <;> rfl
theorem nf_2 : ∀ j, j < 4 → defaultValue (tyX1 j) = vp_V (cf 2 id (fun _ => 0) (fun _ => 0) (fun _ => none)) j := by
  intro j hj
  rcases (show j = 0 ∨ j = 1 ∨ j = 2 ∨ j = 3 by omega) with rfl | rfl | rfl | rfl <;> rfl
theorem nf_3 : ∀ j, j < 5 → defaultValue (tyX2 j) = vp_V (cf 3 id (fun _ => 0) (fun _ => 0) (fun _ => none)) j := by
  intro j hj
  rcases (show j = 0 ∨ j = 1 ∨ j = 2 ∨ j = 3 ∨ j = 4 by omega) with rfl | rfl | rfl | rfl | rfl <;> rfl
theorem nf_4 : ∀ j, j < 6 → defaultValue (tyX3 j) = vp_V (cf 4 id (fun _ => 0) (fun _ => 0) (fun _ => none)) j := by
  intro j hj
  rcases (show j = 0 ∨ j = 1 ∨ j = 2 ∨ j = 3 ∨ j = 4 ∨ j = 5 by omega) with rfl | rfl | rfl | rfl | rfl | rfl <;> rfl
theorem nf_5 : ∀ j, j < 7 → defaultValue (tyX4 j) = vp_V (cf 5 id (fun _ => 0) (fun _ => 0) (fun _ => none)) j := by
  intro j hj
  rcases (show j = 0 ∨ j = 1 ∨ j = 2 ∨ j = 3 ∨ j = 4 ∨ j = 5 ∨ j = 6 by omega) with rfl | rfl | rfl | rfl | rfl | rfl | rfl <;> rfl
theorem nf_6 : ∀ j, j < 5 → defaultValue (tyX5 j) = vp_V (cf 6 id (fun _ => 0) (fun _ => 0) (fun _ => none)) j := by
  intro j hj
  rcases (show j = 0 ∨ j = 1 ∨ j = 2 ∨ j = 3 ∨ j = 4 by omega) with rfl | rfl | rfl | rfl | rfl <;> rfl
theorem nf_7 : ∀ j, j < 2 → defaultValue (tyX6 j) = vp_V (cf 7 id (fun _ => 0) (fun _ => 0) (fun _ => none)) j := by
  intro j hj
  rcases (show j = 0 ∨ j = 1 by omega) with rfl | rfl <;> rfl
theorem nf_8 : ∀ j, j < 8 → defaultValue (tyX7 j) = vp_V (cf 8 id (fun _ => 0) (fun _ => 0) (fun _ => none)) j := by
  intro j hj
  rcases (show j = 0 ∨ j = 1 ∨ j = 2 ∨ j = 3 ∨ j = 4 ∨ j = 5 ∨ j = 6 ∨ j = 7 by omega) with rfl | rfl | rfl | rfl | rfl | rfl | rfl | rfl <;> rfl
theorem nf_9 : ∀ j, j < 48 → defaultValue (tyX8 j) = vp_V (cf 9 id (fun _ => 0) (fun _ => 0) (fun _ => none)) j := by
  intro j hj
  rcases (show j = 0 ∨ j = 1 ∨ j = 2 ∨ j = 3 ∨ j = 4 ∨ j = 5 ∨ j = 6 ∨ j = 7 ∨ j = 8 ∨ j = 9 ∨ j = 10 ∨ j = 11 ∨ j = 12 ∨ j = 13 ∨ j = 14 ∨ j = 15 ∨ j = 16 ∨ j = 17 ∨ j = 18 ∨ j = 19 ∨ j = 20 ∨ j = 21 ∨ j = 22 ∨ j = 23 ∨ j = 24 ∨ j = 25 ∨ j = 26 ∨ j = 27 ∨ j = 28 ∨ j = 29 ∨ j = 30 ∨ j = 31 ∨ j = 32 ∨ j = 33 ∨ j = 34 ∨ j = 35 ∨ j = 36 ∨ j = 37 ∨ j = 38 ∨ j = 39 ∨ j = 40 ∨ j = 41 ∨ j = 42 ∨ j = 43 ∨ j = 44 ∨ j = 45 ∨ j = 46 ∨ j = 47 by omega) with rfl | rfl | rfl | rfl | rfl | rfl | rfl | rfl | rfl | rfl | rfl | rfl | rfl | rfl | rfl | rfl | rfl | rfl | rfl | rfl | rfl | rfl | rfl | rfl | rfl | rfl | rfl | rfl | rfl | rfl | rfl | rfl | rfl | rfl | rfl | rfl | rfl | rfl | rfl | rfl | rfl | rfl | rfl | rfl | rfl | rfl | rfl | rfl <;> rfl
set_option maxHeartbeats 4000000 in
set_option maxRecDepth 100000 in
theorem c_X1_init {X : (Nat → Prop) → State → Prop} (hxo : xok X) (l : Launch) (D : va_G) (q : Cq) {dm : List Nat} {kd ln adS : Nat → Nat} (V : Mv) (J : Mj) (R : Mr)  (hk_4 : 4 ∈ dm) (hK4 : kd 4 = 2) (hK5 : kd 5 = 10) (hN5 : ln 5 = 30) (hK6 : kd 6 = 10) (hN6 : ln 6 = 30) (hK7 : kd 7 = 10) (hN7 : ln 7 = 101) (hiv : iv dm V J R 4) : CtX X l yX1_init wsX1_init ({ frames := 1, cells := 3, slots := 161, locals := 12 }) D q dm kd ln adS V J R [.ref (adS 4)] (QGv (fun k => k = 5 ∨ k = 6 ∨ k = 7) adS D q (dm ++ [5] ++ [6] ++ [7]) kd (ln) (V) (J) (u2 (u2 (u2 R 4 0 (some 5)) 4 1 (some 6)) 4 2 (some 7))) 3 161 := by
  refine CtX_of (cc := cX1_init) (maxL := 1) (ret := none) (by decide +kernel) rfl (Nat.le_of_ble_eq_true rfl) ?_
  intro p e s m args below meth c A hx hb hr hml hts hown hlk hmn hK hW hA hXs ls hl
  have hS : va_S A s.heap s.heap [] := va_S.rf
  obtain ⟨ad, had⟩ : ∃ a : Nat → Nat, a = adS := ⟨_, rfl⟩
  have hqa : ∀ k, ¬ (k = 5 ∨ k = 6 ∨ k = 7) → ad k = adS k := fun k _ => by rw [had]
  rw [← had] at hW
  have hl : lv_has ls 1 [(0, .ref (ad 4))] := by rw [had]; exact hl
  have hin_TX1 : ∀ w ∈ u_ws RX1 TX1 4, w ∈ wsX1_init := by decide +kernel
  refine lv_aload_n hx hb dX1_init_0 rfl (lv_at hl 0 rfl) ?_
  refine w_obj hx hb hown (hts (.methodLink RX1 3 objectInit) (by decide +kernel)) (hts (.instanceMethod objectInit) (by decide +kernel)) (hts (.code objectInit ⟨#[0xb1]⟩ 1 none) (by decide +kernel)) (by rw [hml]; exact hl.1) dX1_init_1 (Nat.le_of_ble_eq_true rfl) (Nat.le_of_ble_eq_true rfl) ?_
  refine lv_aload_n hx hb dX1_init_4 rfl (lv_at hl 0 rfl) ?_
  refine lv_bipush (v := 30) hx hb dX1_init_5 (by decide) ?_
  obtain ⟨hn9, hrf9, hz9, hiv9⟩ := iv_new hiv (a := 5) (by decide) (by decide)
  refine w_newi hx hb (hts (.arrayClass .int) (by decide +kernel)) hK hW hS hA hn9 hrf9 hz9 hK5 hN5 rfl (by decide) (Nat.le_of_ble_eq_true rfl) (Nat.le_of_ble_eq_true rfl) dX1_init_7 (fun ad H hq hW hS => ?_)
  have hl : lv_has ls 1 [(0, .ref (ad 4))] := by rw [hq 4 (by decide)]; exact hl
  refine w_st (st' := [.ref (ad 5), .ref (ad 4)]) (by rw [hq 4 (by decide)] <;> rfl) ?_
  have hqa : ∀ k, ¬ (k = 5 ∨ k = 6 ∨ k = 7) → ad k = adS k := fun k hk => (hq k (fun e => hk (by subst e; decide))).trans (hqa k hk)
  have hk_4 := mem_l (k := 5) hk_4
  have hk_5 : 5 ∈ dm ++ [5] := mem_r
  have hiv := hiv9
  refine w_putoF (ci := 2) (T := TX1) (ty := tyX1 0) hx hb hts hin_TX1 tyX1 tyX1_ok nmX1 hown hK hW hS hk_4 hK4 (by decide) rfl 0 (by decide) (hts (.fieldLink RX1 9 "TownClocks$Explanations" "pipe" "[I") (by decide +kernel)) (fun _ h9 => h9) rfl hmn rfl (some 5) (tyX1_ok 0 (by decide)) rfl rfl (Nat.le_of_ble_eq_true rfl) rfl dX1_init_9 (fun H locs hW hS => ?_)
  have hiv := iv_put (k := 4) (j := 0) (o := some 5) hiv (by decide) (ho_m hk_5)
  refine lv_aload_n hx hb dX1_init_12 rfl (lv_at hl 0 rfl) ?_
  refine lv_bipush (v := 30) hx hb dX1_init_13 (by decide) ?_
  obtain ⟨hn9, hrf9, hz9, hiv9⟩ := iv_new hiv (a := 6) (by decide) (by decide)
  refine w_newi hx hb (hts (.arrayClass .int) (by decide +kernel)) hK hW hS hA hn9 hrf9 hz9 hK6 hN6 rfl (by decide) (Nat.le_of_ble_eq_true rfl) (Nat.le_of_ble_eq_true rfl) dX1_init_15 (fun ad H hq hW hS => ?_)
  have hl : lv_has ls 1 [(0, .ref (ad 4))] := by rw [hq 4 (by decide)]; exact hl
  refine w_st (st' := [.ref (ad 6), .ref (ad 4)]) (by rw [hq 4 (by decide)] <;> rfl) ?_
  have hqa : ∀ k, ¬ (k = 5 ∨ k = 6 ∨ k = 7) → ad k = adS k := fun k hk => (hq k (fun e => hk (by subst e; decide))).trans (hqa k hk)
  have hk_4 := mem_l (k := 6) hk_4
  have hk_5 := mem_l (k := 6) hk_5
  have hk_6 : 6 ∈ (dm ++ [5]) ++ [6] := mem_r
  have hiv := hiv9
  refine w_putoF (ci := 2) (T := TX1) (ty := tyX1 1) hx hb hts hin_TX1 tyX1 tyX1_ok nmX1 hown hK hW hS hk_4 hK4 (by decide) rfl 1 (by decide) (hts (.fieldLink RX1 15 "TownClocks$Explanations" "leastLeak" "[I") (by decide +kernel)) (fun _ h9 => h9) rfl hmn rfl (some 6) (tyX1_ok 1 (by decide)) rfl rfl (Nat.le_of_ble_eq_true rfl) rfl dX1_init_17 (fun H locs hW hS => ?_)
  have hiv := iv_put (k := 4) (j := 1) (o := some 6) hiv (by decide) (ho_m hk_6)
  refine lv_aload_n hx hb dX1_init_20 rfl (lv_at hl 0 rfl) ?_
  refine lv_bipush (v := 101) hx hb dX1_init_21 (by decide) ?_
  obtain ⟨hn9, hrf9, hz9, hiv9⟩ := iv_new hiv (a := 7) (by decide) (by decide)
  refine w_newi hx hb (hts (.arrayClass .int) (by decide +kernel)) hK hW hS hA hn9 hrf9 hz9 hK7 hN7 rfl (by decide) (Nat.le_of_ble_eq_true rfl) (Nat.le_of_ble_eq_true rfl) dX1_init_23 (fun ad H hq hW hS => ?_)
  have hl : lv_has ls 1 [(0, .ref (ad 4))] := by rw [hq 4 (by decide)]; exact hl
  refine w_st (st' := [.ref (ad 7), .ref (ad 4)]) (by rw [hq 4 (by decide)] <;> rfl) ?_
  have hqa : ∀ k, ¬ (k = 5 ∨ k = 6 ∨ k = 7) → ad k = adS k := fun k hk => (hq k (fun e => hk (by subst e; decide))).trans (hqa k hk)
  have hk_4 := mem_l (k := 7) hk_4
  have hk_5 := mem_l (k := 7) hk_5
  have hk_6 := mem_l (k := 7) hk_6
  have hk_7 : 7 ∈ (dm ++ [5] ++ [6]) ++ [7] := mem_r
  have hiv := hiv9
  refine w_putoF (ci := 2) (T := TX1) (ty := tyX1 2) hx hb hts hin_TX1 tyX1 tyX1_ok nmX1 hown hK hW hS hk_4 hK4 (by decide) rfl 2 (by decide) (hts (.fieldLink RX1 18 "TownClocks$Explanations" "likeAir" "[I") (by decide +kernel)) (fun _ h9 => h9) rfl hmn rfl (some 7) (tyX1_ok 2 (by decide)) rfl rfl (Nat.le_of_ble_eq_true rfl) rfl dX1_init_25 (fun H locs hW hS => ?_)
  have hiv := iv_put (k := 4) (j := 2) (o := some 7) hiv (by decide) (ho_m hk_7)
  exact w_vretG hx hb hr hlk hW hS hqa dX1_init_28
set_option maxHeartbeats 4000000 in
set_option maxRecDepth 100000 in
theorem c_X5_init {X : (Nat → Prop) → State → Prop} (hxo : xok X) (l : Launch) (D : va_G) (q : Cq) {dm : List Nat} {kd ln adS : Nat → Nat} (V : Mv) (J : Mj) (R : Mr)  (hk_8 : 8 ∈ dm) (hK8 : kd 8 = 6) (hK9 : kd 9 = 11) (hN9 : ln 9 = 300) (hiv : iv dm V J R 8) : CtX X l yX5_init wsX5_init ({ frames := 1, cells := 1, slots := 300, locals := 12 }) D q dm kd ln adS V J R [.ref (adS 8)] (QGv (fun k => k = 9) adS D q (dm ++ [9]) kd (ln) (V) (J) (u2 R 8 0 (some 9))) 1 300 := by
  refine CtX_of (cc := cX5_init) (maxL := 1) (ret := none) (by decide +kernel) rfl (Nat.le_of_ble_eq_true rfl) ?_
  intro p e s m args below meth c A hx hb hr hml hts hown hlk hmn hK hW hA hXs ls hl
  have hS : va_S A s.heap s.heap [] := va_S.rf
  obtain ⟨ad, had⟩ : ∃ a : Nat → Nat, a = adS := ⟨_, rfl⟩
  have hqa : ∀ k, ¬ (k = 9) → ad k = adS k := fun k _ => by rw [had]
  rw [← had] at hW
  have hl : lv_has ls 1 [(0, .ref (ad 8))] := by rw [had]; exact hl
  have hin_TX5 : ∀ w ∈ u_ws RX5 TX5 5, w ∈ wsX5_init := by decide +kernel
  refine lv_aload_n hx hb dX5_init_0 rfl (lv_at hl 0 rfl) ?_
  refine w_obj hx hb hown (hts (.methodLink RX5 3 objectInit) (by decide +kernel)) (hts (.instanceMethod objectInit) (by decide +kernel)) (hts (.code objectInit ⟨#[0xb1]⟩ 1 none) (by decide +kernel)) (by rw [hml]; exact hl.1) dX5_init_1 (Nat.le_of_ble_eq_true rfl) (Nat.le_of_ble_eq_true rfl) ?_
  refine lv_aload_n hx hb dX5_init_4 rfl (lv_at hl 0 rfl) ?_
  refine lv_sipush (v := 300) hx hb dX5_init_5 (by decide) ?_
  obtain ⟨hn9, hrf9, hz9, hiv9⟩ := iv_new hiv (a := 9) (by decide) (by decide)
  refine w_newb hx hb (hts (.arrayClass .byte) (by decide +kernel)) hK hW hS hA hn9 hrf9 hz9 hK9 hN9 rfl (by decide) (Nat.le_of_ble_eq_true rfl) (Nat.le_of_ble_eq_true rfl) dX5_init_8 (fun ad H hq hW hS => ?_)
  have hl : lv_has ls 1 [(0, .ref (ad 8))] := by rw [hq 8 (by decide)]; exact hl
  refine w_st (st' := [.ref (ad 9), .ref (ad 8)]) (by rw [hq 8 (by decide)] <;> rfl) ?_
  have hqa : ∀ k, ¬ (k = 9) → ad k = adS k := fun k hk => (hq k (fun e => hk (by subst e; decide))).trans (hqa k hk)
  have hk_8 := mem_l (k := 9) hk_8
  have hk_9 : 9 ∈ dm ++ [9] := mem_r
  have hiv := hiv9
  refine w_putoF (ci := 6) (T := TX5) (ty := tyX5 0) hx hb hts hin_TX5 tyX5 tyX5_ok nmX5 hown hK hW hS hk_8 hK8 (by decide) rfl 0 (by decide) (hts (.fieldLink RX5 9 "TownClocks$Tape" "bytes" "[B") (by decide +kernel)) (fun _ h9 => h9) rfl hmn rfl (some 9) (tyX5_ok 0 (by decide)) rfl rfl (Nat.le_of_ble_eq_true rfl) rfl dX5_init_10 (fun H locs hW hS => ?_)
  have hiv := iv_put (k := 8) (j := 0) (o := some 9) hiv (by decide) (ho_m hk_9)
  exact w_vretG hx hb hr hlk hW hS hqa dX5_init_13
set_option maxHeartbeats 4000000 in
set_option maxRecDepth 100000 in
theorem c_X4_init {X : (Nat → Prop) → State → Prop} (hxo : xok X) (l : Launch) (D : va_G) (q : Cq) {dm : List Nat} {kd ln adS : Nat → Nat} (V : Mv) (J : Mj) (R : Mr)  (hk_10 : 10 ∈ dm) (hK10 : kd 10 = 5) (hK8 : kd 8 = 6) (hK9 : kd 9 = 11) (hN9 : ln 9 = 300) (hK11 : kd 11 = 10) (hN11 : ln 11 = 40) (hK12 : kd 12 = 10) (hN12 : ln 12 = 40) (hK13 : kd 13 = 10) (hN13 : ln 13 = 40) (hiv : iv dm V J R 10) (hnt : ∀ (A : Nat → Prop) (U : State), X A U → va_Nw (.methodLinkNest RX4 11 yX5_init "TownClocks") U) : CtX X l yX4_init wsX4_init ({ frames := 2, cells := 5, slots := 425, locals := 32 }) D q dm kd ln adS V J R [.ref (adS 10)] (QGv (fun k => k = 8 ∨ k = 9 ∨ k = 11 ∨ k = 12 ∨ k = 13) adS D q (dm ++ [8] ++ [9] ++ [11] ++ [12] ++ [13]) kd (ln) (V) (J) (u2 (u2 (u2 (u2 (u2 R 8 0 (some 9)) 10 0 (some 8)) 10 1 (some 11)) 10 2 (some 12)) 10 3 (some 13))) 5 425 := by
  refine CtX_of (cc := cX4_init) (maxL := 1) (ret := none) (by decide +kernel) rfl (Nat.le_of_ble_eq_true rfl) ?_
  intro p e s m args below meth c A hx hb hr hml hts hown hlk hmn hK hW hA hXs ls hl
  have hS : va_S A s.heap s.heap [] := va_S.rf
  obtain ⟨ad, had⟩ : ∃ a : Nat → Nat, a = adS := ⟨_, rfl⟩
  have hqa : ∀ k, ¬ (k = 8 ∨ k = 9 ∨ k = 11 ∨ k = 12 ∨ k = 13) → ad k = adS k := fun k _ => by rw [had]
  rw [← had] at hW
  have hl : lv_has ls 1 [(0, .ref (ad 10))] := by rw [had]; exact hl
  have hin_TX4 : ∀ w ∈ u_ws RX4 TX4 7, w ∈ wsX4_init := by decide +kernel
  have hin_TX5 : ∀ w ∈ u_ws RX5 TX5 5, w ∈ wsX4_init := by decide +kernel
  have hNst := hnt A s hXs
  refine lv_aload_n hx hb dX4_init_0 rfl (lv_at hl 0 rfl) ?_
  refine w_obj hx hb hown (hts (.methodLink RX4 3 objectInit) (by decide +kernel)) (hts (.instanceMethod objectInit) (by decide +kernel)) (hts (.code objectInit ⟨#[0xb1]⟩ 1 none) (by decide +kernel)) (by rw [hml]; exact hl.1) dX4_init_1 (Nat.le_of_ble_eq_true rfl) (Nat.le_of_ble_eq_true rfl) ?_
  refine lv_aload_n hx hb dX4_init_4 rfl (lv_at hl 0 rfl) ?_
  obtain ⟨hn9, hrf9, hz9, hiv9⟩ := iv_new hiv (a := 8) (by decide) (by decide)
  refine w_new (ci := 6) (T := TX5) hx hb hts hin_TX5 tyX5 tyX5_ok hown (hts (.classLink RX4 9 RX5) (by decide +kernel)) (hts (.instantiable RX5 5) (by decide +kernel)) (hts (.initialized RX5) (by decide +kernel)) hK hW hS hA hn9 hrf9 hz9 hK8 (by decide) rfl nf_6 (Nat.le_of_ble_eq_true rfl) (Nat.le_of_ble_eq_true rfl) dX4_init_5 (fun ad H hq hW hS => ?_)
  have hl : lv_has ls 1 [(0, .ref (ad 10))] := by rw [hq 10 (by decide)]; exact hl
  refine w_st (st' := [.ref (ad 8), .ref (ad 10)]) (by rw [hq 10 (by decide)] <;> rfl) ?_
  have hqa : ∀ k, ¬ (k = 8 ∨ k = 9 ∨ k = 11 ∨ k = 12 ∨ k = 13) → ad k = adS k := fun k hk => (hq k (fun e => hk (by subst e; decide))).trans (hqa k hk)
  have hk_10 := mem_l (k := 8) hk_10
  have hk_8 : 8 ∈ dm ++ [8] := mem_r
  have hiv := hiv9
  refine lv_dup hx hb dX4_init_8 rfl ?_
  refine w_cgv (w_runIN (host := "TownClocks") ⟨hx, hb, hml, hown, hts⟩ (c_X5_init hxo l D q V J R  hk_8 hK8 hK9 hN9 hiv) hxo ⟨va_cnB 0 hts gX4_init_X5_init_n11 rfl rfl rfl hNst (hts (.initialized RX5) (by decide +kernel)) (by decide +kernel) ⟨Nat.le_of_ble_eq_true rfl, Nat.le_of_ble_eq_true rfl⟩, rfl, (hts (.instanceMethod yX5_init) (by decide +kernel))⟩ hK hW hS hA hXs rfl hl.1 rfl (Nat.le_of_ble_eq_true rfl) dX4_init_9 ⟨Nat.le_of_ble_eq_true rfl, Nat.le_of_ble_eq_true rfl⟩) hW hS hA (fun ad H locs hq hW hS => ?_)
  have hl : lv_has ls 1 [(0, .ref (ad 10))] := by rw [hq 10 (show ¬ (10 = 9) by decide)]; exact hl
  refine w_st (st' := [.ref (ad 8), .ref (ad 10)]) (by rw [hq 8 (show ¬ (8 = 9) by decide), hq 10 (show ¬ (10 = 9) by decide)] <;> rfl) ?_
  have hqa : ∀ k, ¬ (k = 8 ∨ k = 9 ∨ k = 11 ∨ k = 12 ∨ k = 13) → ad k = adS k := fun k hk => (hq k (fun e : (k = 9) => hk (by omega))).trans (hqa k hk)
  have hk_10 := (mem_l (k := 9) hk_10)
  have hk_8 := (mem_l (k := 9) hk_8)
  obtain ⟨-, -, -, hiv⟩ := iv_new hiv (a := 9) (by decide) (by decide)
  have hiv := iv_put (k := 8) (j := 0) (o := some 9) hiv (by decide) ho_r
  refine w_putoF (ci := 5) (T := TX4) (ty := tyX4 0) hx hb hts hin_TX4 tyX4 tyX4_ok nmX4 hown hK hW hS hk_10 hK10 (by decide) rfl 0 (by decide) (hts (.fieldLink RX4 12 "TownClocks$Reading" "tape" "LTownClocks$Tape;") (by decide +kernel)) (fun _ h9 => h9) rfl hmn rfl (some 8) (tyX4_ok 0 (by decide)) rfl rfl (Nat.le_of_ble_eq_true rfl) rfl dX4_init_12 (fun H locs hW hS => ?_)
  have hiv := iv_put (k := 10) (j := 0) (o := some 8) hiv (by decide) (ho_m hk_8)
  refine lv_aload_n hx hb dX4_init_15 rfl (lv_at hl 0 rfl) ?_
  refine lv_bipush (v := 40) hx hb dX4_init_16 (by decide) ?_
  obtain ⟨hn9, hrf9, hz9, hiv9⟩ := iv_new hiv (a := 11) (by decide) (by decide)
  refine w_newi hx hb (hts (.arrayClass .int) (by decide +kernel)) hK hW hS hA hn9 hrf9 hz9 hK11 hN11 rfl (by decide) (Nat.le_of_ble_eq_true rfl) (Nat.le_of_ble_eq_true rfl) dX4_init_18 (fun ad H hq hW hS => ?_)
  have hl : lv_has ls 1 [(0, .ref (ad 10))] := by rw [hq 10 (by decide)]; exact hl
  refine w_st (st' := [.ref (ad 11), .ref (ad 10)]) (by rw [hq 10 (by decide)] <;> rfl) ?_
  have hqa : ∀ k, ¬ (k = 8 ∨ k = 9 ∨ k = 11 ∨ k = 12 ∨ k = 13) → ad k = adS k := fun k hk => (hq k (fun e => hk (by subst e; decide))).trans (hqa k hk)
  have hk_10 := mem_l (k := 11) hk_10
  have hk_8 := mem_l (k := 11) hk_8
  have hk_11 : 11 ∈ (dm ++ [8] ++ [9]) ++ [11] := mem_r
  have hiv := hiv9
  refine w_putoF (ci := 5) (T := TX4) (ty := tyX4 1) hx hb hts hin_TX4 tyX4 tyX4_ok nmX4 hown hK hW hS hk_10 hK10 (by decide) rfl 1 (by decide) (hts (.fieldLink RX4 18 "TownClocks$Reading" "waitingTerms" "[I") (by decide +kernel)) (fun _ h9 => h9) rfl hmn rfl (some 11) (tyX4_ok 1 (by decide)) rfl rfl (Nat.le_of_ble_eq_true rfl) rfl dX4_init_20 (fun H locs hW hS => ?_)
  have hiv := iv_put (k := 10) (j := 1) (o := some 11) hiv (by decide) (ho_m hk_11)
  refine lv_aload_n hx hb dX4_init_23 rfl (lv_at hl 0 rfl) ?_
  refine lv_bipush (v := 40) hx hb dX4_init_24 (by decide) ?_
  obtain ⟨hn9, hrf9, hz9, hiv9⟩ := iv_new hiv (a := 12) (by decide) (by decide)
  refine w_newi hx hb (hts (.arrayClass .int) (by decide +kernel)) hK hW hS hA hn9 hrf9 hz9 hK12 hN12 rfl (by decide) (Nat.le_of_ble_eq_true rfl) (Nat.le_of_ble_eq_true rfl) dX4_init_26 (fun ad H hq hW hS => ?_)
  have hl : lv_has ls 1 [(0, .ref (ad 10))] := by rw [hq 10 (by decide)]; exact hl
  refine w_st (st' := [.ref (ad 12), .ref (ad 10)]) (by rw [hq 10 (by decide)] <;> rfl) ?_
  have hqa : ∀ k, ¬ (k = 8 ∨ k = 9 ∨ k = 11 ∨ k = 12 ∨ k = 13) → ad k = adS k := fun k hk => (hq k (fun e => hk (by subst e; decide))).trans (hqa k hk)
  have hk_10 := mem_l (k := 12) hk_10
  have hk_8 := mem_l (k := 12) hk_8
  have hk_11 := mem_l (k := 12) hk_11
  have hk_12 : 12 ∈ (dm ++ [8] ++ [9] ++ [11]) ++ [12] := mem_r
  have hiv := hiv9
  refine w_putoF (ci := 5) (T := TX4) (ty := tyX4 2) hx hb hts hin_TX4 tyX4 tyX4_ok nmX4 hown hK hW hS hk_10 hK10 (by decide) rfl 2 (by decide) (hts (.fieldLink RX4 22 "TownClocks$Reading" "waitingBelow" "[I") (by decide +kernel)) (fun _ h9 => h9) rfl hmn rfl (some 12) (tyX4_ok 2 (by decide)) rfl rfl (Nat.le_of_ble_eq_true rfl) rfl dX4_init_28 (fun H locs hW hS => ?_)
  have hiv := iv_put (k := 10) (j := 2) (o := some 12) hiv (by decide) (ho_m hk_12)
  refine lv_aload_n hx hb dX4_init_31 rfl (lv_at hl 0 rfl) ?_
  refine lv_bipush (v := 40) hx hb dX4_init_32 (by decide) ?_
  obtain ⟨hn9, hrf9, hz9, hiv9⟩ := iv_new hiv (a := 13) (by decide) (by decide)
  refine w_newi hx hb (hts (.arrayClass .int) (by decide +kernel)) hK hW hS hA hn9 hrf9 hz9 hK13 hN13 rfl (by decide) (Nat.le_of_ble_eq_true rfl) (Nat.le_of_ble_eq_true rfl) dX4_init_34 (fun ad H hq hW hS => ?_)
  have hl : lv_has ls 1 [(0, .ref (ad 10))] := by rw [hq 10 (by decide)]; exact hl
  refine w_st (st' := [.ref (ad 13), .ref (ad 10)]) (by rw [hq 10 (by decide)] <;> rfl) ?_
  have hqa : ∀ k, ¬ (k = 8 ∨ k = 9 ∨ k = 11 ∨ k = 12 ∨ k = 13) → ad k = adS k := fun k hk => (hq k (fun e => hk (by subst e; decide))).trans (hqa k hk)
  have hk_10 := mem_l (k := 13) hk_10
  have hk_8 := mem_l (k := 13) hk_8
  have hk_11 := mem_l (k := 13) hk_11
  have hk_12 := mem_l (k := 13) hk_12
  have hk_13 : 13 ∈ (dm ++ [8] ++ [9] ++ [11] ++ [12]) ++ [13] := mem_r
  have hiv := hiv9
  refine w_putoF (ci := 5) (T := TX4) (ty := tyX4 3) hx hb hts hin_TX4 tyX4 tyX4_ok nmX4 hown hK hW hS hk_10 hK10 (by decide) rfl 3 (by decide) (hts (.fieldLink RX4 25 "TownClocks$Reading" "waitingPays" "[I") (by decide +kernel)) (fun _ h9 => h9) rfl hmn rfl (some 13) (tyX4_ok 3 (by decide)) rfl rfl (Nat.le_of_ble_eq_true rfl) rfl dX4_init_36 (fun H locs hW hS => ?_)
  have hiv := iv_put (k := 10) (j := 3) (o := some 13) hiv (by decide) (ho_m hk_13)
  exact w_vretG hx hb hr hlk hW hS hqa dX4_init_39
set_option maxHeartbeats 4000000 in
set_option maxRecDepth 100000 in
theorem c_X6_init {X : (Nat → Prop) → State → Prop} (hxo : xok X) (l : Launch) (D : va_G) (q : Cq) {dm : List Nat} {kd ln adS : Nat → Nat} (V : Mv) (J : Mj) (R : Mr)  (hk_14 : 14 ∈ dm) (hK14 : kd 14 = 7) (hK15 : kd 15 = 10) (hN15 : ln 15 = 16) (hiv : iv dm V J R 14) : CtX X l yX6_init wsX6_init ({ frames := 1, cells := 1, slots := 16, locals := 12 }) D q dm kd ln adS V J R [.ref (adS 14)] (QGv (fun k => k = 15) adS D q (dm ++ [15]) kd (ln) (V) (J) (u2 R 14 0 (some 15))) 1 16 := by
  refine CtX_of (cc := cX6_init) (maxL := 1) (ret := none) (by decide +kernel) rfl (Nat.le_of_ble_eq_true rfl) ?_
  intro p e s m args below meth c A hx hb hr hml hts hown hlk hmn hK hW hA hXs ls hl
  have hS : va_S A s.heap s.heap [] := va_S.rf
  obtain ⟨ad, had⟩ : ∃ a : Nat → Nat, a = adS := ⟨_, rfl⟩
  have hqa : ∀ k, ¬ (k = 15) → ad k = adS k := fun k _ => by rw [had]
  rw [← had] at hW
  have hl : lv_has ls 1 [(0, .ref (ad 14))] := by rw [had]; exact hl
  have hin_TX6 : ∀ w ∈ u_ws RX6 TX6 2, w ∈ wsX6_init := by decide +kernel
  refine lv_aload_n hx hb dX6_init_0 rfl (lv_at hl 0 rfl) ?_
  refine w_obj hx hb hown (hts (.methodLink RX6 1 objectInit) (by decide +kernel)) (hts (.instanceMethod objectInit) (by decide +kernel)) (hts (.code objectInit ⟨#[0xb1]⟩ 1 none) (by decide +kernel)) (by rw [hml]; exact hl.1) dX6_init_1 (Nat.le_of_ble_eq_true rfl) (Nat.le_of_ble_eq_true rfl) ?_
  refine lv_aload_n hx hb dX6_init_4 rfl (lv_at hl 0 rfl) ?_
  refine lv_bipush (v := 16) hx hb dX6_init_5 (by decide) ?_
  obtain ⟨hn9, hrf9, hz9, hiv9⟩ := iv_new hiv (a := 15) (by decide) (by decide)
  refine w_newi hx hb (hts (.arrayClass .int) (by decide +kernel)) hK hW hS hA hn9 hrf9 hz9 hK15 hN15 rfl (by decide) (Nat.le_of_ble_eq_true rfl) (Nat.le_of_ble_eq_true rfl) dX6_init_7 (fun ad H hq hW hS => ?_)
  have hl : lv_has ls 1 [(0, .ref (ad 14))] := by rw [hq 14 (by decide)]; exact hl
  refine w_st (st' := [.ref (ad 15), .ref (ad 14)]) (by rw [hq 14 (by decide)] <;> rfl) ?_
  have hqa : ∀ k, ¬ (k = 15) → ad k = adS k := fun k hk => (hq k (fun e => hk (by subst e; decide))).trans (hqa k hk)
  have hk_14 := mem_l (k := 15) hk_14
  have hk_15 : 15 ∈ dm ++ [15] := mem_r
  have hiv := hiv9
  refine w_putoF (ci := 7) (T := TX6) (ty := tyX6 0) hx hb hts hin_TX6 tyX6 tyX6_ok nmX6 hown hK hW hS hk_14 hK14 (by decide) rfl 0 (by decide) (hts (.fieldLink RX6 9 "TownClocks$Trace" "numbers" "[I") (by decide +kernel)) (fun _ h9 => h9) rfl hmn rfl (some 15) (tyX6_ok 0 (by decide)) rfl rfl (Nat.le_of_ble_eq_true rfl) rfl dX6_init_9 (fun H locs hW hS => ?_)
  have hiv := iv_put (k := 14) (j := 0) (o := some 15) hiv (by decide) (ho_m hk_15)
  exact w_vretG hx hb hr hlk hW hS hqa dX6_init_12
