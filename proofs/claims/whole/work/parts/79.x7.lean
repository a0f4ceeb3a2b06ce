/-- the private constructors of the nest -/
def nstX (U : State) : Prop := va_Nw (.methodLinkNest RX7 21 yX2_init "TownClocks") U ∧ va_Nw (.methodLinkNest RX7 28 yX1_init "TownClocks") U ∧ va_Nw (.methodLinkNest RX7 35 yX4_init "TownClocks") U ∧ va_Nw (.methodLinkNest RX7 47 yX6_init "TownClocks") U ∧ va_Nw (.methodLinkNest RX4 11 yX5_init "TownClocks") U
theorem strX_ag {ad ad' : Nat → Nat} {A : Nat → Prop} {U : State} (h18 : ad' 18 = ad 18) (h5 : ∀ i, i < 4 → ad' (50 + i) = ad (50 + i)) (h6 : ∀ i, i < 4 → ad' (60 + i) = ad (60 + i)) (h : strX ad A U) : strX ad' A U := by
  obtain ⟨⟨s1, s2⟩, z1, z2, z3, ⟨r0, r1, r2, r3⟩, z4⟩ := h
  refine ⟨⟨fun i hi => ?_, fun i j hi hj e => ?_⟩, z1, z2, by rw [h18]; exact z3, ⟨?_, ?_, ?_, ?_⟩, by rw [h18]; exact z4⟩
  · have := s1 i hi
    dsimp only at this ⊢
    rw [← h5 i hi, ← h6 i hi] at this
    exact this
  · have e : ad' (50 + i) = ad' (50 + j) := e
    rw [h5 i hi, h5 j hj] at e
    exact s2 i j hi hj e
  · have q := h5 0 (by decide)
    rw [show (50 : Nat) + 0 = 50 from rfl] at q
    rw [q]
    exact r0
  · have q : ad' 51 = ad 51 := h5 1 (by decide)
    rw [q]
    exact r1
  · have q : ad' 52 = ad 52 := h5 2 (by decide)
    rw [q]
    exact r2
  · have q : ad' 53 = ad 53 := h5 3 (by decide)
    rw [q]
    exact r3
set_option maxHeartbeats 4000000 in
set_option maxRecDepth 100000 in
theorem c_X7_init {X : (Nat → Prop) → State → Prop} (hxo : xok X) (l : Launch) (D : va_G) (q : Cq) {dm : List Nat} {kd ln adS : Nat → Nat} (V : Mv) (J : Mj) (R : Mr)  (hk_0 : 0 ∈ dm) (hK0 : kd 0 = 8) (hK1 : kd 1 = 0) (hK2 : kd 2 = 0) (hK3 : kd 3 = 3) (hK4 : kd 4 = 2) (hK5 : kd 5 = 10) (hN5 : ln 5 = 30) (hK6 : kd 6 = 10) (hN6 : ln 6 = 30) (hK7 : kd 7 = 10) (hN7 : ln 7 = 101) (hK8 : kd 8 = 6) (hK9 : kd 9 = 11) (hN9 : ln 9 = 300) (hK10 : kd 10 = 5) (hK11 : kd 11 = 10) (hN11 : ln 11 = 40) (hK12 : kd 12 = 10) (hN12 : ln 12 = 40) (hK13 : kd 13 = 10) (hN13 : ln 13 = 40) (hK14 : kd 14 = 7) (hK15 : kd 15 = 10) (hN15 : ln 15 = 16) (hiv : iv dm V J R 0) (hstS : ∀ (A : Nat → Prop) (U : State), X A U → strX adS A U) (hnst : ∀ (A : Nat → Prop) (U : State), X A U → nstX U) : CtX X l yX7_init wsX7_init ({ frames := 4, cells := 15, slots := 626, locals := 72 }) D q dm kd ln adS V J R [.ref (adS 0)] (QGv (fun k => k = 1 ∨ k = 2 ∨ k = 3 ∨ k = 4 ∨ k = 5 ∨ k = 6 ∨ k = 7 ∨ k = 8 ∨ k = 9 ∨ k = 10 ∨ k = 11 ∨ k = 12 ∨ k = 13 ∨ k = 14 ∨ k = 15) adS D q (dm ++ [1] ++ [2] ++ [3] ++ [4] ++ [5] ++ [6] ++ [7] ++ [10] ++ [8] ++ [9] ++ [11] ++ [12] ++ [13] ++ [14] ++ [15]) kd (ln) (V) (J) (u2 (u2 (u2 (u2 (u2 (u2 (u2 (u2 (u2 (u2 (u2 (u2 (u2 (u2 (u2 (u2 (u2 (u2 R 1 1 (some 18)) 0 0 (some 1)) 2 1 (some 18)) 0 1 (some 2)) 0 2 (some 3)) 4 0 (some 5)) 4 1 (some 6)) 4 2 (some 7)) 0 3 (some 4)) 8 0 (some 9)) 10 0 (some 8)) 10 1 (some 11)) 10 2 (some 12)) 10 3 (some 13)) 0 4 (some 10)) 0 5 (some 8)) 14 0 (some 15)) 0 6 (some 14))) 15 626 := by
  refine CtX_of (cc := cX7_init) (maxL := 1) (ret := none) (by decide +kernel) rfl (Nat.le_of_ble_eq_true rfl) ?_
  intro p e s m args below meth c A hx hb hr hml hts hown hlk hmn hK hW hA hXs ls hl
  have hS : va_S A s.heap s.heap [] := va_S.rf
  obtain ⟨ad, had⟩ : ∃ a : Nat → Nat, a = adS := ⟨_, rfl⟩
  have hqa : ∀ k, ¬ (k = 1 ∨ k = 2 ∨ k = 3 ∨ k = 4 ∨ k = 5 ∨ k = 6 ∨ k = 7 ∨ k = 8 ∨ k = 9 ∨ k = 10 ∨ k = 11 ∨ k = 12 ∨ k = 13 ∨ k = 14 ∨ k = 15) → ad k = adS k := fun k _ => by rw [had]
  rw [← had] at hW
  have hl : lv_has ls 1 [(0, .ref (ad 0))] := by rw [had]; exact hl
  have hin_TX7 : ∀ w ∈ u_ws RX7 TX7 8, w ∈ wsX7_init := by decide +kernel
  have hin_TX1 : ∀ w ∈ u_ws RX1 TX1 4, w ∈ wsX7_init := by decide +kernel
  have hin_TX2 : ∀ w ∈ u_ws RX2 TX2 5, w ∈ wsX7_init := by decide +kernel
  have hin_TX4 : ∀ w ∈ u_ws RX4 TX4 7, w ∈ wsX7_init := by decide +kernel
  have hin_TX6 : ∀ w ∈ u_ws RX6 TX6 2, w ∈ wsX7_init := by decide +kernel
  have hin_TJx4a65c : ∀ w ∈ u_ws RJx4a65c TJx4a65c 3, w ∈ wsX7_init := by decide +kernel
  have hNst := hnst A s hXs
  refine lv_aload_n hx hb dX7_init_0 rfl (lv_at hl 0 rfl) ?_
  refine w_obj hx hb hown (hts (.methodLink RX7 1 objectInit) (by decide +kernel)) (hts (.instanceMethod objectInit) (by decide +kernel)) (hts (.code objectInit ⟨#[0xb1]⟩ 1 none) (by decide +kernel)) (by rw [hml]; exact hl.1) dX7_init_1 (Nat.le_of_ble_eq_true rfl) (Nat.le_of_ble_eq_true rfl) ?_
  refine lv_aload_n hx hb dX7_init_4 rfl (lv_at hl 0 rfl) ?_
  obtain ⟨hn9, hrf9, hz9, hiv9⟩ := iv_new hiv (a := 1) (by decide) (by decide)
  refine w_new (ci := 0) (T := TJx4a65c) hx hb hts hin_TJx4a65c tyJx4a65c tyJx4a65c_ok hown (hts (.classLink RX7 7 RJx4a65c) (by decide +kernel)) (hts (.instantiable RJx4a65c 3) (by decide +kernel)) (hts (.initialized RJx4a65c) (by decide +kernel)) hK hW hS hA hn9 hrf9 hz9 hK1 (by decide) rfl nf_0 (Nat.le_of_ble_eq_true rfl) (Nat.le_of_ble_eq_true rfl) dX7_init_5 (fun ad H hq hW hS => ?_)
  have hl : lv_has ls 1 [(0, .ref (ad 0))] := by rw [hq 0 (by decide)]; exact hl
  refine w_st (st' := [.ref (ad 1), .ref (ad 0)]) (by rw [hq 0 (by decide)] <;> rfl) ?_
  have hqa : ∀ k, ¬ (k = 1 ∨ k = 2 ∨ k = 3 ∨ k = 4 ∨ k = 5 ∨ k = 6 ∨ k = 7 ∨ k = 8 ∨ k = 9 ∨ k = 10 ∨ k = 11 ∨ k = 12 ∨ k = 13 ∨ k = 14 ∨ k = 15) → ad k = adS k := fun k hk => (hq k (fun e => hk (by subst e; decide))).trans (hqa k hk)
  have hk_0 := mem_l (k := 1) hk_0
  have hk_1 : 1 ∈ dm ++ [1] := mem_r
  have hiv := hiv9
  refine lv_dup hx hb dX7_init_8 rfl ?_
  refine w_cv (w_runI ⟨hx, hb, hml, hown, hts⟩ (c_Jx4a65c_init_da8c8 hxo l D q V J R 1 hk_1 hK1 (by rw [hiv.1]) (fun A U h => strX_ag (hqa 18 (by decide)) (fun i hi => hqa _ (by omega)) (fun i hi => hqa _ (by omega)) (hstS A U h))) hxo (cwI 0 hts gX7_init_Jx4a65c_init_da8c8 rfl rfl rfl (hts (.initialized RJx4a65c) (by decide +kernel)) (hts (.methodLink RX7 9 yJx4a65c_init_da8c8) (by decide +kernel)) (hts (.instanceMethod yJx4a65c_init_da8c8) (by decide +kernel)) rfl (by decide +kernel) ⟨Nat.le_of_ble_eq_true rfl, Nat.le_of_ble_eq_true rfl⟩) hK hW hS hA hXs rfl hl.1 rfl (Nat.le_of_ble_eq_true rfl) dX7_init_9 ⟨Nat.le_of_ble_eq_true rfl, Nat.le_of_ble_eq_true rfl⟩) hW hS hA (fun H locs hW hS => ?_)
  have hiv := iv_put (k := 1) (j := 1) (o := some 18) hiv (by decide) (fun t ht => by cases ht; exact Or.inr rfl)
  refine w_putoF (ci := 8) (T := TX7) (ty := tyX7 0) hx hb hts hin_TX7 tyX7 tyX7_ok nmX7 hown hK hW hS hk_0 hK0 (by decide) rfl 0 (by decide) (hts (.fieldLink RX7 10 "TownClocks" "pipes" "Ljava/util/ArrayList;") (by decide +kernel)) (fun _ h9 => h9) rfl hmn rfl (some 1) (tyX7_ok 0 (by decide)) rfl rfl (Nat.le_of_ble_eq_true rfl) rfl dX7_init_12 (fun H locs hW hS => ?_)
  have hiv := iv_put (k := 0) (j := 0) (o := some 1) hiv (by decide) (ho_m hk_1)
  refine lv_aload_n hx hb dX7_init_15 rfl (lv_at hl 0 rfl) ?_
  obtain ⟨hn9, hrf9, hz9, hiv9⟩ := iv_new hiv (a := 2) (by decide) (by decide)
  refine w_new (ci := 0) (T := TJx4a65c) hx hb hts hin_TJx4a65c tyJx4a65c tyJx4a65c_ok hown (hts (.classLink RX7 7 RJx4a65c) (by decide +kernel)) (hts (.instantiable RJx4a65c 3) (by decide +kernel)) (hts (.initialized RJx4a65c) (by decide +kernel)) hK hW hS hA hn9 hrf9 hz9 hK2 (by decide) rfl nf_0 (Nat.le_of_ble_eq_true rfl) (Nat.le_of_ble_eq_true rfl) dX7_init_16 (fun ad H hq hW hS => ?_)
  have hl : lv_has ls 1 [(0, .ref (ad 0))] := by rw [hq 0 (by decide)]; exact hl
  refine w_st (st' := [.ref (ad 2), .ref (ad 0)]) (by rw [hq 0 (by decide)] <;> rfl) ?_
  have hqa : ∀ k, ¬ (k = 1 ∨ k = 2 ∨ k = 3 ∨ k = 4 ∨ k = 5 ∨ k = 6 ∨ k = 7 ∨ k = 8 ∨ k = 9 ∨ k = 10 ∨ k = 11 ∨ k = 12 ∨ k = 13 ∨ k = 14 ∨ k = 15) → ad k = adS k := fun k hk => (hq k (fun e => hk (by subst e; decide))).trans (hqa k hk)
  have hk_0 := mem_l (k := 2) hk_0
  have hk_1 := mem_l (k := 2) hk_1
  have hk_2 : 2 ∈ (dm ++ [1]) ++ [2] := mem_r
  have hiv := hiv9
  refine lv_dup hx hb dX7_init_19 rfl ?_
  refine w_cv (w_runI ⟨hx, hb, hml, hown, hts⟩ (c_Jx4a65c_init_da8c8 hxo l D q V J (u2 (u2 R 1 1 (some 18)) 0 0 (some 1)) 2 hk_2 hK2 (by rw [hiv.1]) (fun A U h => strX_ag (hqa 18 (by decide)) (fun i hi => hqa _ (by omega)) (fun i hi => hqa _ (by omega)) (hstS A U h))) hxo (cwI 0 hts gX7_init_Jx4a65c_init_da8c8 rfl rfl rfl (hts (.initialized RJx4a65c) (by decide +kernel)) (hts (.methodLink RX7 9 yJx4a65c_init_da8c8) (by decide +kernel)) (hts (.instanceMethod yJx4a65c_init_da8c8) (by decide +kernel)) rfl (by decide +kernel) ⟨Nat.le_of_ble_eq_true rfl, Nat.le_of_ble_eq_true rfl⟩) hK hW hS hA hXs rfl hl.1 rfl (Nat.le_of_ble_eq_true rfl) dX7_init_20 ⟨Nat.le_of_ble_eq_true rfl, Nat.le_of_ble_eq_true rfl⟩) hW hS hA (fun H locs hW hS => ?_)
  have hiv := iv_put (k := 2) (j := 1) (o := some 18) hiv (by decide) (fun t ht => by cases ht; exact Or.inr rfl)
  refine w_putoF (ci := 8) (T := TX7) (ty := tyX7 1) hx hb hts hin_TX7 tyX7 tyX7_ok nmX7 hown hK hW hS hk_0 hK0 (by decide) rfl 1 (by decide) (hts (.fieldLink RX7 16 "TownClocks" "dials" "Ljava/util/ArrayList;") (by decide +kernel)) (fun _ h9 => h9) rfl hmn rfl (some 2) (tyX7_ok 1 (by decide)) rfl rfl (Nat.le_of_ble_eq_true rfl) rfl dX7_init_23 (fun H locs hW hS => ?_)
  have hiv := iv_put (k := 0) (j := 1) (o := some 2) hiv (by decide) (ho_m hk_2)
  refine lv_aload_n hx hb dX7_init_26 rfl (lv_at hl 0 rfl) ?_
  obtain ⟨hn9, hrf9, hz9, hiv9⟩ := iv_new hiv (a := 3) (by decide) (by decide)
  refine w_new (ci := 3) (T := TX2) hx hb hts hin_TX2 tyX2 tyX2_ok hown (hts (.classLink RX7 19 RX2) (by decide +kernel)) (hts (.instantiable RX2 5) (by decide +kernel)) (hts (.initialized RX2) (by decide +kernel)) hK hW hS hA hn9 hrf9 hz9 hK3 (by decide) rfl nf_3 (Nat.le_of_ble_eq_true rfl) (Nat.le_of_ble_eq_true rfl) dX7_init_27 (fun ad H hq hW hS => ?_)
  have hl : lv_has ls 1 [(0, .ref (ad 0))] := by rw [hq 0 (by decide)]; exact hl
  refine w_st (st' := [.ref (ad 3), .ref (ad 0)]) (by rw [hq 0 (by decide)] <;> rfl) ?_
  have hqa : ∀ k, ¬ (k = 1 ∨ k = 2 ∨ k = 3 ∨ k = 4 ∨ k = 5 ∨ k = 6 ∨ k = 7 ∨ k = 8 ∨ k = 9 ∨ k = 10 ∨ k = 11 ∨ k = 12 ∨ k = 13 ∨ k = 14 ∨ k = 15) → ad k = adS k := fun k hk => (hq k (fun e => hk (by subst e; decide))).trans (hqa k hk)
  have hk_0 := mem_l (k := 3) hk_0
  have hk_1 := mem_l (k := 3) hk_1
  have hk_2 := mem_l (k := 3) hk_2
  have hk_3 : 3 ∈ (dm ++ [1] ++ [2]) ++ [3] := mem_r
  have hiv := hiv9
  refine lv_dup hx hb dX7_init_30 rfl ?_
  refine w_cv (w_runIN (host := "TownClocks") ⟨hx, hb, hml, hown, hts⟩ (c_X2_init hxo l D q V J (u2 (u2 (u2 (u2 R 1 1 (some 18)) 0 0 (some 1)) 2 1 (some 18)) 0 1 (some 2)) 3 hk_3 hK3) hxo ⟨va_cnB 0 hts gX7_init_X2_init_n21 rfl rfl rfl hNst.1 (hts (.initialized RX2) (by decide +kernel)) (by decide +kernel) ⟨Nat.le_of_ble_eq_true rfl, Nat.le_of_ble_eq_true rfl⟩, rfl, (hts (.instanceMethod yX2_init) (by decide +kernel))⟩ hK hW hS hA hXs rfl hl.1 rfl (Nat.le_of_ble_eq_true rfl) dX7_init_31 ⟨Nat.le_of_ble_eq_true rfl, Nat.le_of_ble_eq_true rfl⟩) hW hS hA (fun H locs hW hS => ?_)
  refine w_putoF (ci := 8) (T := TX7) (ty := tyX7 2) hx hb hts hin_TX7 tyX7 tyX7_ok nmX7 hown hK hW hS hk_0 hK0 (by decide) rfl 2 (by decide) (hts (.fieldLink RX7 22 "TownClocks" "master" "LTownClocks$Master;") (by decide +kernel)) (fun _ h9 => h9) rfl hmn rfl (some 3) (tyX7_ok 2 (by decide)) rfl rfl (Nat.le_of_ble_eq_true rfl) rfl dX7_init_34 (fun H locs hW hS => ?_)
  have hiv := iv_put (k := 0) (j := 2) (o := some 3) hiv (by decide) (ho_m hk_3)
  refine lv_aload_n hx hb dX7_init_37 rfl (lv_at hl 0 rfl) ?_
  obtain ⟨hn9, hrf9, hz9, hiv9⟩ := iv_new hiv (a := 4) (by decide) (by decide)
  refine w_new (ci := 2) (T := TX1) hx hb hts hin_TX1 tyX1 tyX1_ok hown (hts (.classLink RX7 26 RX1) (by decide +kernel)) (hts (.instantiable RX1 4) (by decide +kernel)) (hts (.initialized RX1) (by decide +kernel)) hK hW hS hA hn9 hrf9 hz9 hK4 (by decide) rfl nf_2 (Nat.le_of_ble_eq_true rfl) (Nat.le_of_ble_eq_true rfl) dX7_init_38 (fun ad H hq hW hS => ?_)
  have hl : lv_has ls 1 [(0, .ref (ad 0))] := by rw [hq 0 (by decide)]; exact hl
  refine w_st (st' := [.ref (ad 4), .ref (ad 0)]) (by rw [hq 0 (by decide)] <;> rfl) ?_
  have hqa : ∀ k, ¬ (k = 1 ∨ k = 2 ∨ k = 3 ∨ k = 4 ∨ k = 5 ∨ k = 6 ∨ k = 7 ∨ k = 8 ∨ k = 9 ∨ k = 10 ∨ k = 11 ∨ k = 12 ∨ k = 13 ∨ k = 14 ∨ k = 15) → ad k = adS k := fun k hk => (hq k (fun e => hk (by subst e; decide))).trans (hqa k hk)
  have hk_0 := mem_l (k := 4) hk_0
  have hk_1 := mem_l (k := 4) hk_1
  have hk_2 := mem_l (k := 4) hk_2
  have hk_3 := mem_l (k := 4) hk_3
  have hk_4 : 4 ∈ (dm ++ [1] ++ [2] ++ [3]) ++ [4] := mem_r
  have hiv := hiv9
  refine lv_dup hx hb dX7_init_41 rfl ?_
  refine w_cgv (w_runIN (host := "TownClocks") ⟨hx, hb, hml, hown, hts⟩ (c_X1_init hxo l D q V J (u2 (u2 (u2 (u2 (u2 R 1 1 (some 18)) 0 0 (some 1)) 2 1 (some 18)) 0 1 (some 2)) 0 2 (some 3))  hk_4 hK4 hK5 hN5 hK6 hN6 hK7 hN7 hiv) hxo ⟨va_cnB 0 hts gX7_init_X1_init_n28 rfl rfl rfl hNst.2.1 (hts (.initialized RX1) (by decide +kernel)) (by decide +kernel) ⟨Nat.le_of_ble_eq_true rfl, Nat.le_of_ble_eq_true rfl⟩, rfl, (hts (.instanceMethod yX1_init) (by decide +kernel))⟩ hK hW hS hA hXs rfl hl.1 rfl (Nat.le_of_ble_eq_true rfl) dX7_init_42 ⟨Nat.le_of_ble_eq_true rfl, Nat.le_of_ble_eq_true rfl⟩) hW hS hA (fun ad H locs hq hW hS => ?_)
  have hl : lv_has ls 1 [(0, .ref (ad 0))] := by rw [hq 0 (show ¬ (0 = 5 ∨ 0 = 6 ∨ 0 = 7) by decide)]; exact hl
  refine w_st (st' := [.ref (ad 4), .ref (ad 0)]) (by rw [hq 4 (show ¬ (4 = 5 ∨ 4 = 6 ∨ 4 = 7) by decide), hq 0 (show ¬ (0 = 5 ∨ 0 = 6 ∨ 0 = 7) by decide)] <;> rfl) ?_
  have hqa : ∀ k, ¬ (k = 1 ∨ k = 2 ∨ k = 3 ∨ k = 4 ∨ k = 5 ∨ k = 6 ∨ k = 7 ∨ k = 8 ∨ k = 9 ∨ k = 10 ∨ k = 11 ∨ k = 12 ∨ k = 13 ∨ k = 14 ∨ k = 15) → ad k = adS k := fun k hk => (hq k (fun e : (k = 5 ∨ k = 6 ∨ k = 7) => hk (by omega))).trans (hqa k hk)
  have hk_0 := (mem_l (k := 7) (mem_l (k := 6) (mem_l (k := 5) hk_0)))
  have hk_1 := (mem_l (k := 7) (mem_l (k := 6) (mem_l (k := 5) hk_1)))
  have hk_2 := (mem_l (k := 7) (mem_l (k := 6) (mem_l (k := 5) hk_2)))
  have hk_3 := (mem_l (k := 7) (mem_l (k := 6) (mem_l (k := 5) hk_3)))
  have hk_4 := (mem_l (k := 7) (mem_l (k := 6) (mem_l (k := 5) hk_4)))
  obtain ⟨-, -, -, hiv⟩ := iv_new hiv (a := 5) (by decide) (by decide)
  have hiv := iv_put (k := 4) (j := 0) (o := some 5) hiv (by decide) ho_r
  obtain ⟨-, -, -, hiv⟩ := iv_new hiv (a := 6) (by decide) (by decide)
  have hiv := iv_put (k := 4) (j := 1) (o := some 6) hiv (by decide) ho_r
  obtain ⟨-, -, -, hiv⟩ := iv_new hiv (a := 7) (by decide) (by decide)
  have hiv := iv_put (k := 4) (j := 2) (o := some 7) hiv (by decide) ho_r
  refine w_putoF (ci := 8) (T := TX7) (ty := tyX7 3) hx hb hts hin_TX7 tyX7 tyX7_ok nmX7 hown hK hW hS hk_0 hK0 (by decide) rfl 3 (by decide) (hts (.fieldLink RX7 29 "TownClocks" "explanations" "LTownClocks$Explanations;") (by decide +kernel)) (fun _ h9 => h9) rfl hmn rfl (some 4) (tyX7_ok 3 (by decide)) rfl rfl (Nat.le_of_ble_eq_true rfl) rfl dX7_init_45 (fun H locs hW hS => ?_)
  have hiv := iv_put (k := 0) (j := 3) (o := some 4) hiv (by decide) (ho_m hk_4)
  refine lv_aload_n hx hb dX7_init_48 rfl (lv_at hl 0 rfl) ?_
  obtain ⟨hn9, hrf9, hz9, hiv9⟩ := iv_new hiv (a := 10) (by decide) (by decide)
  refine w_new (ci := 5) (T := TX4) hx hb hts hin_TX4 tyX4 tyX4_ok hown (hts (.classLink RX7 33 RX4) (by decide +kernel)) (hts (.instantiable RX4 7) (by decide +kernel)) (hts (.initialized RX4) (by decide +kernel)) hK hW hS hA hn9 hrf9 hz9 hK10 (by decide) rfl nf_5 (Nat.le_of_ble_eq_true rfl) (Nat.le_of_ble_eq_true rfl) dX7_init_49 (fun ad H hq hW hS => ?_)
  have hl : lv_has ls 1 [(0, .ref (ad 0))] := by rw [hq 0 (by decide)]; exact hl
  refine w_st (st' := [.ref (ad 10), .ref (ad 0)]) (by rw [hq 0 (by decide)] <;> rfl) ?_
  have hqa : ∀ k, ¬ (k = 1 ∨ k = 2 ∨ k = 3 ∨ k = 4 ∨ k = 5 ∨ k = 6 ∨ k = 7 ∨ k = 8 ∨ k = 9 ∨ k = 10 ∨ k = 11 ∨ k = 12 ∨ k = 13 ∨ k = 14 ∨ k = 15) → ad k = adS k := fun k hk => (hq k (fun e => hk (by subst e; decide))).trans (hqa k hk)
  have hk_0 := mem_l (k := 10) hk_0
  have hk_1 := mem_l (k := 10) hk_1
  have hk_2 := mem_l (k := 10) hk_2
  have hk_3 := mem_l (k := 10) hk_3
  have hk_4 := mem_l (k := 10) hk_4
  have hk_10 : 10 ∈ (dm ++ [1] ++ [2] ++ [3] ++ [4] ++ [5] ++ [6] ++ [7]) ++ [10] := mem_r
  have hiv := hiv9
  refine lv_dup hx hb dX7_init_52 rfl ?_
  refine w_cgv (w_runIN (host := "TownClocks") ⟨hx, hb, hml, hown, hts⟩ (c_X4_init hxo l D q V J (u2 (u2 (u2 (u2 (u2 (u2 (u2 (u2 (u2 R 1 1 (some 18)) 0 0 (some 1)) 2 1 (some 18)) 0 1 (some 2)) 0 2 (some 3)) 4 0 (some 5)) 4 1 (some 6)) 4 2 (some 7)) 0 3 (some 4))  hk_10 hK10 hK8 hK9 hN9 hK11 hN11 hK12 hN12 hK13 hN13 hiv (fun A U h => (hnst A U h).2.2.2.2)) hxo ⟨va_cnB 0 hts gX7_init_X4_init_n35 rfl rfl rfl hNst.2.2.1 (hts (.initialized RX4) (by decide +kernel)) (by decide +kernel) ⟨Nat.le_of_ble_eq_true rfl, Nat.le_of_ble_eq_true rfl⟩, rfl, (hts (.instanceMethod yX4_init) (by decide +kernel))⟩ hK hW hS hA hXs rfl hl.1 rfl (Nat.le_of_ble_eq_true rfl) dX7_init_53 ⟨Nat.le_of_ble_eq_true rfl, Nat.le_of_ble_eq_true rfl⟩) hW hS hA (fun ad H locs hq hW hS => ?_)
  have hl : lv_has ls 1 [(0, .ref (ad 0))] := by rw [hq 0 (show ¬ (0 = 8 ∨ 0 = 9 ∨ 0 = 11 ∨ 0 = 12 ∨ 0 = 13) by decide)]; exact hl
  refine w_st (st' := [.ref (ad 10), .ref (ad 0)]) (by rw [hq 10 (show ¬ (10 = 8 ∨ 10 = 9 ∨ 10 = 11 ∨ 10 = 12 ∨ 10 = 13) by decide), hq 0 (show ¬ (0 = 8 ∨ 0 = 9 ∨ 0 = 11 ∨ 0 = 12 ∨ 0 = 13) by decide)] <;> rfl) ?_
  have hqa : ∀ k, ¬ (k = 1 ∨ k = 2 ∨ k = 3 ∨ k = 4 ∨ k = 5 ∨ k = 6 ∨ k = 7 ∨ k = 8 ∨ k = 9 ∨ k = 10 ∨ k = 11 ∨ k = 12 ∨ k = 13 ∨ k = 14 ∨ k = 15) → ad k = adS k := fun k hk => (hq k (fun e : (k = 8 ∨ k = 9 ∨ k = 11 ∨ k = 12 ∨ k = 13) => hk (by omega))).trans (hqa k hk)
  have hk_0 := (mem_l (k := 13) (mem_l (k := 12) (mem_l (k := 11) (mem_l (k := 9) (mem_l (k := 8) hk_0)))))
  have hk_1 := (mem_l (k := 13) (mem_l (k := 12) (mem_l (k := 11) (mem_l (k := 9) (mem_l (k := 8) hk_1)))))
  have hk_2 := (mem_l (k := 13) (mem_l (k := 12) (mem_l (k := 11) (mem_l (k := 9) (mem_l (k := 8) hk_2)))))
  have hk_3 := (mem_l (k := 13) (mem_l (k := 12) (mem_l (k := 11) (mem_l (k := 9) (mem_l (k := 8) hk_3)))))
  have hk_4 := (mem_l (k := 13) (mem_l (k := 12) (mem_l (k := 11) (mem_l (k := 9) (mem_l (k := 8) hk_4)))))
  have hk_10 := (mem_l (k := 13) (mem_l (k := 12) (mem_l (k := 11) (mem_l (k := 9) (mem_l (k := 8) hk_10)))))
  obtain ⟨-, -, -, hiv⟩ := iv_new hiv (a := 8) (by decide) (by decide)
  obtain ⟨-, -, -, hiv⟩ := iv_new hiv (a := 9) (by decide) (by decide)
  have hiv := iv_put (k := 8) (j := 0) (o := some 9) hiv (by decide) ho_r
  have hiv := iv_put (k := 10) (j := 0) (o := some 8) hiv (by decide) (ho_m (mem_l mem_r))
  obtain ⟨-, -, -, hiv⟩ := iv_new hiv (a := 11) (by decide) (by decide)
  have hiv := iv_put (k := 10) (j := 1) (o := some 11) hiv (by decide) ho_r
  obtain ⟨-, -, -, hiv⟩ := iv_new hiv (a := 12) (by decide) (by decide)
  have hiv := iv_put (k := 10) (j := 2) (o := some 12) hiv (by decide) ho_r
  obtain ⟨-, -, -, hiv⟩ := iv_new hiv (a := 13) (by decide) (by decide)
  have hiv := iv_put (k := 10) (j := 3) (o := some 13) hiv (by decide) ho_r
  have hk_8 : 8 ∈ dm ++ [1] ++ [2] ++ [3] ++ [4] ++ [5] ++ [6] ++ [7] ++ [10] ++ [8] ++ [9] ++ [11] ++ [12] ++ [13] := (mem_l (mem_l (mem_l (mem_l mem_r))))
  refine w_putoF (ci := 8) (T := TX7) (ty := tyX7 4) hx hb hts hin_TX7 tyX7 tyX7_ok nmX7 hown hK hW hS hk_0 hK0 (by decide) rfl 4 (by decide) (hts (.fieldLink RX7 36 "TownClocks" "reading" "LTownClocks$Reading;") (by decide +kernel)) (fun _ h9 => h9) rfl hmn rfl (some 10) (tyX7_ok 4 (by decide)) rfl rfl (Nat.le_of_ble_eq_true rfl) rfl dX7_init_56 (fun H locs hW hS => ?_)
  have hiv := iv_put (k := 0) (j := 4) (o := some 10) hiv (by decide) (ho_m hk_10)
  refine lv_aload_n hx hb dX7_init_59 rfl (lv_at hl 0 rfl) ?_
  refine lv_aload_n hx hb dX7_init_60 rfl (lv_at hl 0 rfl) ?_
  refine w_getr (ci := 8) (T := TX7) hx hb hts hin_TX7 hown hK hW hk_0 hK0 (by decide) rfl 4 (by decide) (hts (.fieldLink RX7 36 "TownClocks" "reading" "LTownClocks$Reading;") (by decide +kernel)) (fun _ h9 => h9) rfl u2_ss dX7_init_61 ?_
  refine w_getr (ci := 5) (T := TX4) hx hb hts hin_TX4 hown hK hW hk_10 hK10 (by decide) rfl 0 (by decide) (hts (.fieldLink RX7 40 "TownClocks$Reading" "tape" "LTownClocks$Tape;") (by decide +kernel)) (fun _ h9 => h9) rfl (by rw [u2_ne (by decide), u2_sn (by decide), u2_sn (by decide), u2_sn (by decide), u2_ss]) dX7_init_64 ?_
  refine w_putoF (ci := 8) (T := TX7) (ty := tyX7 5) hx hb hts hin_TX7 tyX7 tyX7_ok nmX7 hown hK hW hS hk_0 hK0 (by decide) rfl 5 (by decide) (hts (.fieldLink RX7 44 "TownClocks" "tape" "LTownClocks$Tape;") (by decide +kernel)) (fun _ h9 => h9) rfl hmn rfl (some 8) (tyX7_ok 5 (by decide)) rfl rfl (Nat.le_of_ble_eq_true rfl) rfl dX7_init_67 (fun H locs hW hS => ?_)
  have hiv := iv_put (k := 0) (j := 5) (o := some 8) hiv (by decide) (ho_m hk_8)
  refine lv_aload_n hx hb dX7_init_70 rfl (lv_at hl 0 rfl) ?_
  obtain ⟨hn9, hrf9, hz9, hiv9⟩ := iv_new hiv (a := 14) (by decide) (by decide)
  refine w_new (ci := 7) (T := TX6) hx hb hts hin_TX6 tyX6 tyX6_ok hown (hts (.classLink RX7 45 RX6) (by decide +kernel)) (hts (.instantiable RX6 2) (by decide +kernel)) (hts (.initialized RX6) (by decide +kernel)) hK hW hS hA hn9 hrf9 hz9 hK14 (by decide) rfl nf_7 (Nat.le_of_ble_eq_true rfl) (Nat.le_of_ble_eq_true rfl) dX7_init_71 (fun ad H hq hW hS => ?_)
  have hl : lv_has ls 1 [(0, .ref (ad 0))] := by rw [hq 0 (by decide)]; exact hl
  refine w_st (st' := [.ref (ad 14), .ref (ad 0)]) (by rw [hq 0 (by decide)] <;> rfl) ?_
  have hqa : ∀ k, ¬ (k = 1 ∨ k = 2 ∨ k = 3 ∨ k = 4 ∨ k = 5 ∨ k = 6 ∨ k = 7 ∨ k = 8 ∨ k = 9 ∨ k = 10 ∨ k = 11 ∨ k = 12 ∨ k = 13 ∨ k = 14 ∨ k = 15) → ad k = adS k := fun k hk => (hq k (fun e => hk (by subst e; decide))).trans (hqa k hk)
  have hk_0 := mem_l (k := 14) hk_0
  have hk_1 := mem_l (k := 14) hk_1
  have hk_2 := mem_l (k := 14) hk_2
  have hk_3 := mem_l (k := 14) hk_3
  have hk_4 := mem_l (k := 14) hk_4
  have hk_10 := mem_l (k := 14) hk_10
  have hk_8 := mem_l (k := 14) hk_8
  have hk_14 : 14 ∈ (dm ++ [1] ++ [2] ++ [3] ++ [4] ++ [5] ++ [6] ++ [7] ++ [10] ++ [8] ++ [9] ++ [11] ++ [12] ++ [13]) ++ [14] := mem_r
  have hiv := hiv9
  refine lv_dup hx hb dX7_init_74 rfl ?_
  refine w_cgv (w_runIN (host := "TownClocks") ⟨hx, hb, hml, hown, hts⟩ (c_X6_init hxo l D q V J (u2 (u2 (u2 (u2 (u2 (u2 (u2 (u2 (u2 (u2 (u2 (u2 (u2 (u2 (u2 (u2 R 1 1 (some 18)) 0 0 (some 1)) 2 1 (some 18)) 0 1 (some 2)) 0 2 (some 3)) 4 0 (some 5)) 4 1 (some 6)) 4 2 (some 7)) 0 3 (some 4)) 8 0 (some 9)) 10 0 (some 8)) 10 1 (some 11)) 10 2 (some 12)) 10 3 (some 13)) 0 4 (some 10)) 0 5 (some 8))  hk_14 hK14 hK15 hN15 hiv) hxo ⟨va_cnB 0 hts gX7_init_X6_init_n47 rfl rfl rfl hNst.2.2.2.1 (hts (.initialized RX6) (by decide +kernel)) (by decide +kernel) ⟨Nat.le_of_ble_eq_true rfl, Nat.le_of_ble_eq_true rfl⟩, rfl, (hts (.instanceMethod yX6_init) (by decide +kernel))⟩ hK hW hS hA hXs rfl hl.1 rfl (Nat.le_of_ble_eq_true rfl) dX7_init_75 ⟨Nat.le_of_ble_eq_true rfl, Nat.le_of_ble_eq_true rfl⟩) hW hS hA (fun ad H locs hq hW hS => ?_)
  have hl : lv_has ls 1 [(0, .ref (ad 0))] := by rw [hq 0 (show ¬ (0 = 15) by decide)]; exact hl
  refine w_st (st' := [.ref (ad 14), .ref (ad 0)]) (by rw [hq 14 (show ¬ (14 = 15) by decide), hq 0 (show ¬ (0 = 15) by decide)] <;> rfl) ?_
  have hqa : ∀ k, ¬ (k = 1 ∨ k = 2 ∨ k = 3 ∨ k = 4 ∨ k = 5 ∨ k = 6 ∨ k = 7 ∨ k = 8 ∨ k = 9 ∨ k = 10 ∨ k = 11 ∨ k = 12 ∨ k = 13 ∨ k = 14 ∨ k = 15) → ad k = adS k := fun k hk => (hq k (fun e : (k = 15) => hk (by omega))).trans (hqa k hk)
  have hk_0 := (mem_l (k := 15) hk_0)
  have hk_1 := (mem_l (k := 15) hk_1)
  have hk_2 := (mem_l (k := 15) hk_2)
  have hk_3 := (mem_l (k := 15) hk_3)
  have hk_4 := (mem_l (k := 15) hk_4)
  have hk_10 := (mem_l (k := 15) hk_10)
  have hk_8 := (mem_l (k := 15) hk_8)
  have hk_14 := (mem_l (k := 15) hk_14)
  obtain ⟨-, -, -, hiv⟩ := iv_new hiv (a := 15) (by decide) (by decide)
  have hiv := iv_put (k := 14) (j := 0) (o := some 15) hiv (by decide) ho_r
  refine w_putoF (ci := 8) (T := TX7) (ty := tyX7 6) hx hb hts hin_TX7 tyX7 tyX7_ok nmX7 hown hK hW hS hk_0 hK0 (by decide) rfl 6 (by decide) (hts (.fieldLink RX7 48 "TownClocks" "bodies" "LTownClocks$Trace;") (by decide +kernel)) (fun _ h9 => h9) rfl hmn rfl (some 14) (tyX7_ok 6 (by decide)) rfl rfl (Nat.le_of_ble_eq_true rfl) rfl dX7_init_78 (fun H locs hW hS => ?_)
  have hiv := iv_put (k := 0) (j := 6) (o := some 14) hiv (by decide) (ho_m hk_14)
  exact w_vretG hx hb hr hlk hW hS hqa dX7_init_81
