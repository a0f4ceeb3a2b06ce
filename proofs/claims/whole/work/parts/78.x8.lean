set_option maxHeartbeats 4000000 in
set_option maxRecDepth 100000 in
theorem c_X8_init {X : (Nat → Prop) → State → Prop} (hxo : xok X) (l : Launch) (D : va_G) (q : Cq) {dm : List Nat} {kd ln adS : Nat → Nat} (V : Mv) (J : Mj) (R : Mr)  (hk_1000 : 1000 ∈ dm) (hK1000 : kd 1000 = 9) (hK1002 : kd 1002 = 10) (hN1002 : ln 1002 = 30) (hK1003 : kd 1003 = 10) (hN1003 : ln 1003 = 30) (hK1004 : kd 1004 = 10) (hN1004 : ln 1004 = 30) (hK1005 : kd 1005 = 10) (hN1005 : ln 1005 = 30) (hK1006 : kd 1006 = 10) (hN1006 : ln 1006 = 30) (hK1008 : kd 1008 = 10) (hN1008 : ln 1008 = 40) (hK1009 : kd 1009 = 10) (hN1009 : ln 1009 = 40) (hK1010 : kd 1010 = 10) (hN1010 : ln 1010 = 40) (hK1011 : kd 1011 = 10) (hN1011 : ln 1011 = 40) (hK1012 : kd 1012 = 10) (hN1012 : ln 1012 = 40) (hK1013 : kd 1013 = 10) (hN1013 : ln 1013 = 40) (hK1014 : kd 1014 = 10) (hN1014 : ln 1014 = 40) (hK1015 : kd 1015 = 12) (hN1015 : ln 1015 = 40) (hK1016 : kd 1016 = 12) (hN1016 : ln 1016 = 40) (hK1017 : kd 1017 = 10) (hN1017 : ln 1017 = 40) (hK1018 : kd 1018 = 10) (hN1018 : ln 1018 = 40) (hK1019 : kd 1019 = 10) (hN1019 : ln 1019 = 40) (hK1020 : kd 1020 = 10) (hN1020 : ln 1020 = 40) (hK1027 : kd 1027 = 10) (hN1027 : ln 1027 = 30) (hK1028 : kd 1028 = 10) (hN1028 : ln 1028 = 30) (hK1029 : kd 1029 = 12) (hN1029 : ln 1029 = 40) (hK1030 : kd 1030 = 10) (hN1030 : ln 1030 = 900) (hK1031 : kd 1031 = 10) (hN1031 : ln 1031 = 300) (hK1042 : kd 1042 = 10) (hN1042 : ln 1042 = 40) (hK1043 : kd 1043 = 10) (hN1043 : ln 1043 = 40) (hK1044 : kd 1044 = 10) (hN1044 : ln 1044 = 40) (hK1045 : kd 1045 = 10) (hN1045 : ln 1045 = 40) (hK1046 : kd 1046 = 10) (hN1046 : ln 1046 = 16) (hiv : iv dm V J R 1000) : CtX X l yX8_init wsX8_init ({ frames := 1, cells := 28, slots := 2146, locals := 12 }) D q dm kd ln adS V J R [.ref (adS 1000)] (QGv (fun k => k = 1002 ∨ k = 1003 ∨ k = 1004 ∨ k = 1005 ∨ k = 1006 ∨ k = 1008 ∨ k = 1009 ∨ k = 1010 ∨ k = 1011 ∨ k = 1012 ∨ k = 1013 ∨ k = 1014 ∨ k = 1015 ∨ k = 1016 ∨ k = 1017 ∨ k = 1018 ∨ k = 1019 ∨ k = 1020 ∨ k = 1027 ∨ k = 1028 ∨ k = 1029 ∨ k = 1030 ∨ k = 1031 ∨ k = 1042 ∨ k = 1043 ∨ k = 1044 ∨ k = 1045 ∨ k = 1046) adS D q (dm ++ [1002] ++ [1003] ++ [1004] ++ [1005] ++ [1006] ++ [1008] ++ [1009] ++ [1010] ++ [1011] ++ [1012] ++ [1013] ++ [1014] ++ [1015] ++ [1016] ++ [1017] ++ [1018] ++ [1019] ++ [1020] ++ [1027] ++ [1028] ++ [1029] ++ [1030] ++ [1031] ++ [1042] ++ [1043] ++ [1044] ++ [1045] ++ [1046]) kd (ln) (V) (J) (u2 (u2 (u2 (u2 (u2 (u2 (u2 (u2 (u2 (u2 (u2 (u2 (u2 (u2 (u2 (u2 (u2 (u2 (u2 (u2 (u2 (u2 (u2 (u2 (u2 (u2 (u2 (u2 R 1000 2 (some 1002)) 1000 3 (some 1003)) 1000 4 (some 1004)) 1000 5 (some 1005)) 1000 6 (some 1006)) 1000 8 (some 1008)) 1000 9 (some 1009)) 1000 10 (some 1010)) 1000 11 (some 1011)) 1000 12 (some 1012)) 1000 13 (some 1013)) 1000 14 (some 1014)) 1000 15 (some 1015)) 1000 16 (some 1016)) 1000 17 (some 1017)) 1000 18 (some 1018)) 1000 19 (some 1019)) 1000 20 (some 1020)) 1000 27 (some 1027)) 1000 28 (some 1028)) 1000 29 (some 1029)) 1000 30 (some 1030)) 1000 31 (some 1031)) 1000 42 (some 1042)) 1000 43 (some 1043)) 1000 44 (some 1044)) 1000 45 (some 1045)) 1000 46 (some 1046))) 28 2146 := by
  refine CtX_of (cc := cX8_init) (maxL := 1) (ret := none) (by decide +kernel) rfl (Nat.le_of_ble_eq_true rfl) ?_
  intro p e s m args below meth c A hx hb hr hml hts hown hlk hmn hK hW hA hXs ls hl
  have hS : va_S A s.heap s.heap [] := va_S.rf
  obtain ⟨ad, had⟩ : ∃ a : Nat → Nat, a = adS := ⟨_, rfl⟩
  have hqa : ∀ k, ¬ (k = 1002 ∨ k = 1003 ∨ k = 1004 ∨ k = 1005 ∨ k = 1006 ∨ k = 1008 ∨ k = 1009 ∨ k = 1010 ∨ k = 1011 ∨ k = 1012 ∨ k = 1013 ∨ k = 1014 ∨ k = 1015 ∨ k = 1016 ∨ k = 1017 ∨ k = 1018 ∨ k = 1019 ∨ k = 1020 ∨ k = 1027 ∨ k = 1028 ∨ k = 1029 ∨ k = 1030 ∨ k = 1031 ∨ k = 1042 ∨ k = 1043 ∨ k = 1044 ∨ k = 1045 ∨ k = 1046) → ad k = adS k := fun k _ => by rw [had]
  rw [← had] at hW
  have hl : lv_has ls 1 [(0, .ref (ad 1000))] := by rw [had]; exact hl
  have hin_TX8 : ∀ w ∈ u_ws RX8 TX8 48, w ∈ wsX8_init := by decide +kernel
  refine lv_aload_n hx hb dX8_init_0 rfl (lv_at hl 0 rfl) ?_
  refine w_obj hx hb hown (hts (.methodLink RX8 1 objectInit) (by decide +kernel)) (hts (.instanceMethod objectInit) (by decide +kernel)) (hts (.code objectInit ⟨#[0xb1]⟩ 1 none) (by decide +kernel)) (by rw [hml]; exact hl.1) dX8_init_1 (Nat.le_of_ble_eq_true rfl) (Nat.le_of_ble_eq_true rfl) ?_
  refine lv_aload_n hx hb dX8_init_4 rfl (lv_at hl 0 rfl) ?_
  refine lv_bipush (v := 30) hx hb dX8_init_5 (by decide) ?_
  obtain ⟨hn9, hrf9, hz9, hiv9⟩ := iv_new hiv (a := 1002) (by decide) (by decide)
  refine w_newi hx hb (hts (.arrayClass .int) (by decide +kernel)) hK hW hS hA hn9 hrf9 hz9 hK1002 hN1002 rfl (by decide) (Nat.le_of_ble_eq_true rfl) (Nat.le_of_ble_eq_true rfl) dX8_init_7 (fun ad H hq hW hS => ?_)
  have hl : lv_has ls 1 [(0, .ref (ad 1000))] := by rw [hq 1000 (by decide)]; exact hl
  refine w_st (st' := [.ref (ad 1002), .ref (ad 1000)]) (by rw [hq 1000 (by decide)]) ?_
  have hqa : ∀ k, ¬ (k = 1002 ∨ k = 1003 ∨ k = 1004 ∨ k = 1005 ∨ k = 1006 ∨ k = 1008 ∨ k = 1009 ∨ k = 1010 ∨ k = 1011 ∨ k = 1012 ∨ k = 1013 ∨ k = 1014 ∨ k = 1015 ∨ k = 1016 ∨ k = 1017 ∨ k = 1018 ∨ k = 1019 ∨ k = 1020 ∨ k = 1027 ∨ k = 1028 ∨ k = 1029 ∨ k = 1030 ∨ k = 1031 ∨ k = 1042 ∨ k = 1043 ∨ k = 1044 ∨ k = 1045 ∨ k = 1046) → ad k = adS k := fun k hk => (hq k (fun e => hk (by subst e; decide))).trans (hqa k hk)
  have hk_1000 := mem_l (k := 1002) hk_1000
  have hk_1002 : 1002 ∈ dm ++ [1002] := mem_r
  have hiv := hiv9
  refine w_putoF (ci := 9) (T := TX8) (ty := tyX8 2) hx hb hts hin_TX8 tyX8 tyX8_ok nmX8 hown hK hW hS hk_1000 hK1000 (by decide) rfl 2 (by decide) (hts (.fieldLink RX8 7 "TownClocksModel" "parent" "[I") (by decide +kernel)) (fun _ h9 => h9) rfl hmn rfl (some 1002) (tyX8_ok 2 (by decide)) rfl rfl (Nat.le_of_ble_eq_true rfl) rfl dX8_init_9 (fun H locs hW hS => ?_)
  have hiv := iv_put (k := 1000) (j := 2) (o := some 1002) hiv (by decide) (ho_m hk_1002)
  refine lv_aload_n hx hb dX8_init_12 rfl (lv_at hl 0 rfl) ?_
  refine lv_bipush (v := 30) hx hb dX8_init_13 (by decide) ?_
  obtain ⟨hn9, hrf9, hz9, hiv9⟩ := iv_new hiv (a := 1003) (by decide) (by decide)
  refine w_newi hx hb (hts (.arrayClass .int) (by decide +kernel)) hK hW hS hA hn9 hrf9 hz9 hK1003 hN1003 rfl (by decide) (Nat.le_of_ble_eq_true rfl) (Nat.le_of_ble_eq_true rfl) dX8_init_15 (fun ad H hq hW hS => ?_)
  have hl : lv_has ls 1 [(0, .ref (ad 1000))] := by rw [hq 1000 (by decide)]; exact hl
  refine w_st (st' := [.ref (ad 1003), .ref (ad 1000)]) (by rw [hq 1000 (by decide)]) ?_
  have hqa : ∀ k, ¬ (k = 1002 ∨ k = 1003 ∨ k = 1004 ∨ k = 1005 ∨ k = 1006 ∨ k = 1008 ∨ k = 1009 ∨ k = 1010 ∨ k = 1011 ∨ k = 1012 ∨ k = 1013 ∨ k = 1014 ∨ k = 1015 ∨ k = 1016 ∨ k = 1017 ∨ k = 1018 ∨ k = 1019 ∨ k = 1020 ∨ k = 1027 ∨ k = 1028 ∨ k = 1029 ∨ k = 1030 ∨ k = 1031 ∨ k = 1042 ∨ k = 1043 ∨ k = 1044 ∨ k = 1045 ∨ k = 1046) → ad k = adS k := fun k hk => (hq k (fun e => hk (by subst e; decide))).trans (hqa k hk)
  have hk_1000 := mem_l (k := 1003) hk_1000
  have hk_1002 := mem_l (k := 1003) hk_1002
  have hk_1003 : 1003 ∈ (dm ++ [1002]) ++ [1003] := mem_r
  have hiv := hiv9
  refine w_putoF (ci := 9) (T := TX8) (ty := tyX8 3) hx hb hts hin_TX8 tyX8 tyX8_ok nmX8 hown hK hW hS hk_1000 hK1000 (by decide) rfl 3 (by decide) (hts (.fieldLink RX8 13 "TownClocksModel" "loss" "[I") (by decide +kernel)) (fun _ h9 => h9) rfl hmn rfl (some 1003) (tyX8_ok 3 (by decide)) rfl rfl (Nat.le_of_ble_eq_true rfl) rfl dX8_init_17 (fun H locs hW hS => ?_)
  have hiv := iv_put (k := 1000) (j := 3) (o := some 1003) hiv (by decide) (ho_m hk_1003)
  refine lv_aload_n hx hb dX8_init_20 rfl (lv_at hl 0 rfl) ?_
  refine lv_bipush (v := 30) hx hb dX8_init_21 (by decide) ?_
  obtain ⟨hn9, hrf9, hz9, hiv9⟩ := iv_new hiv (a := 1004) (by decide) (by decide)
  refine w_newi hx hb (hts (.arrayClass .int) (by decide +kernel)) hK hW hS hA hn9 hrf9 hz9 hK1004 hN1004 rfl (by decide) (Nat.le_of_ble_eq_true rfl) (Nat.le_of_ble_eq_true rfl) dX8_init_23 (fun ad H hq hW hS => ?_)
  have hl : lv_has ls 1 [(0, .ref (ad 1000))] := by rw [hq 1000 (by decide)]; exact hl
  refine w_st (st' := [.ref (ad 1004), .ref (ad 1000)]) (by rw [hq 1000 (by decide)]) ?_
  have hqa : ∀ k, ¬ (k = 1002 ∨ k = 1003 ∨ k = 1004 ∨ k = 1005 ∨ k = 1006 ∨ k = 1008 ∨ k = 1009 ∨ k = 1010 ∨ k = 1011 ∨ k = 1012 ∨ k = 1013 ∨ k = 1014 ∨ k = 1015 ∨ k = 1016 ∨ k = 1017 ∨ k = 1018 ∨ k = 1019 ∨ k = 1020 ∨ k = 1027 ∨ k = 1028 ∨ k = 1029 ∨ k = 1030 ∨ k = 1031 ∨ k = 1042 ∨ k = 1043 ∨ k = 1044 ∨ k = 1045 ∨ k = 1046) → ad k = adS k := fun k hk => (hq k (fun e => hk (by subst e; decide))).trans (hqa k hk)
  have hk_1000 := mem_l (k := 1004) hk_1000
  have hk_1002 := mem_l (k := 1004) hk_1002
  have hk_1003 := mem_l (k := 1004) hk_1003
  have hk_1004 : 1004 ∈ (dm ++ [1002] ++ [1003]) ++ [1004] := mem_r
  have hiv := hiv9
  refine w_putoF (ci := 9) (T := TX8) (ty := tyX8 4) hx hb hts hin_TX8 tyX8 tyX8_ok nmX8 hown hK hW hS hk_1000 hK1000 (by decide) rfl 4 (by decide) (hts (.fieldLink RX8 16 "TownClocksModel" "lag" "[I") (by decide +kernel)) (fun _ h9 => h9) rfl hmn rfl (some 1004) (tyX8_ok 4 (by decide)) rfl rfl (Nat.le_of_ble_eq_true rfl) rfl dX8_init_25 (fun H locs hW hS => ?_)
  have hiv := iv_put (k := 1000) (j := 4) (o := some 1004) hiv (by decide) (ho_m hk_1004)
  refine lv_aload_n hx hb dX8_init_28 rfl (lv_at hl 0 rfl) ?_
  refine lv_bipush (v := 30) hx hb dX8_init_29 (by decide) ?_
  obtain ⟨hn9, hrf9, hz9, hiv9⟩ := iv_new hiv (a := 1005) (by decide) (by decide)
  refine w_newi hx hb (hts (.arrayClass .int) (by decide +kernel)) hK hW hS hA hn9 hrf9 hz9 hK1005 hN1005 rfl (by decide) (Nat.le_of_ble_eq_true rfl) (Nat.le_of_ble_eq_true rfl) dX8_init_31 (fun ad H hq hW hS => ?_)
  have hl : lv_has ls 1 [(0, .ref (ad 1000))] := by rw [hq 1000 (by decide)]; exact hl
  refine w_st (st' := [.ref (ad 1005), .ref (ad 1000)]) (by rw [hq 1000 (by decide)]) ?_
  have hqa : ∀ k, ¬ (k = 1002 ∨ k = 1003 ∨ k = 1004 ∨ k = 1005 ∨ k = 1006 ∨ k = 1008 ∨ k = 1009 ∨ k = 1010 ∨ k = 1011 ∨ k = 1012 ∨ k = 1013 ∨ k = 1014 ∨ k = 1015 ∨ k = 1016 ∨ k = 1017 ∨ k = 1018 ∨ k = 1019 ∨ k = 1020 ∨ k = 1027 ∨ k = 1028 ∨ k = 1029 ∨ k = 1030 ∨ k = 1031 ∨ k = 1042 ∨ k = 1043 ∨ k = 1044 ∨ k = 1045 ∨ k = 1046) → ad k = adS k := fun k hk => (hq k (fun e => hk (by subst e; decide))).trans (hqa k hk)
  have hk_1000 := mem_l (k := 1005) hk_1000
  have hk_1002 := mem_l (k := 1005) hk_1002
  have hk_1003 := mem_l (k := 1005) hk_1003
  have hk_1004 := mem_l (k := 1005) hk_1004
  have hk_1005 : 1005 ∈ (dm ++ [1002] ++ [1003] ++ [1004]) ++ [1005] := mem_r
  have hiv := hiv9
  refine w_putoF (ci := 9) (T := TX8) (ty := tyX8 5) hx hb hts hin_TX8 tyX8 tyX8_ok nmX8 hown hK hW hS hk_1000 hK1000 (by decide) rfl 5 (by decide) (hts (.fieldLink RX8 19 "TownClocksModel" "leak" "[I") (by decide +kernel)) (fun _ h9 => h9) rfl hmn rfl (some 1005) (tyX8_ok 5 (by decide)) rfl rfl (Nat.le_of_ble_eq_true rfl) rfl dX8_init_33 (fun H locs hW hS => ?_)
  have hiv := iv_put (k := 1000) (j := 5) (o := some 1005) hiv (by decide) (ho_m hk_1005)
  refine lv_aload_n hx hb dX8_init_36 rfl (lv_at hl 0 rfl) ?_
  refine lv_bipush (v := 30) hx hb dX8_init_37 (by decide) ?_
  obtain ⟨hn9, hrf9, hz9, hiv9⟩ := iv_new hiv (a := 1006) (by decide) (by decide)
  refine w_newi hx hb (hts (.arrayClass .int) (by decide +kernel)) hK hW hS hA hn9 hrf9 hz9 hK1006 hN1006 rfl (by decide) (Nat.le_of_ble_eq_true rfl) (Nat.le_of_ble_eq_true rfl) dX8_init_39 (fun ad H hq hW hS => ?_)
  have hl : lv_has ls 1 [(0, .ref (ad 1000))] := by rw [hq 1000 (by decide)]; exact hl
  refine w_st (st' := [.ref (ad 1006), .ref (ad 1000)]) (by rw [hq 1000 (by decide)]) ?_
  have hqa : ∀ k, ¬ (k = 1002 ∨ k = 1003 ∨ k = 1004 ∨ k = 1005 ∨ k = 1006 ∨ k = 1008 ∨ k = 1009 ∨ k = 1010 ∨ k = 1011 ∨ k = 1012 ∨ k = 1013 ∨ k = 1014 ∨ k = 1015 ∨ k = 1016 ∨ k = 1017 ∨ k = 1018 ∨ k = 1019 ∨ k = 1020 ∨ k = 1027 ∨ k = 1028 ∨ k = 1029 ∨ k = 1030 ∨ k = 1031 ∨ k = 1042 ∨ k = 1043 ∨ k = 1044 ∨ k = 1045 ∨ k = 1046) → ad k = adS k := fun k hk => (hq k (fun e => hk (by subst e; decide))).trans (hqa k hk)
  have hk_1000 := mem_l (k := 1006) hk_1000
  have hk_1002 := mem_l (k := 1006) hk_1002
  have hk_1003 := mem_l (k := 1006) hk_1003
  have hk_1004 := mem_l (k := 1006) hk_1004
  have hk_1005 := mem_l (k := 1006) hk_1005
  have hk_1006 : 1006 ∈ (dm ++ [1002] ++ [1003] ++ [1004] ++ [1005]) ++ [1006] := mem_r
  have hiv := hiv9
  refine w_putoF (ci := 9) (T := TX8) (ty := tyX8 6) hx hb hts hin_TX8 tyX8 tyX8_ok nmX8 hown hK hW hS hk_1000 hK1000 (by decide) rfl 6 (by decide) (hts (.fieldLink RX8 22 "TownClocksModel" "air" "[I") (by decide +kernel)) (fun _ h9 => h9) rfl hmn rfl (some 1006) (tyX8_ok 6 (by decide)) rfl rfl (Nat.le_of_ble_eq_true rfl) rfl dX8_init_41 (fun H locs hW hS => ?_)
  have hiv := iv_put (k := 1000) (j := 6) (o := some 1006) hiv (by decide) (ho_m hk_1006)
  refine lv_aload_n hx hb dX8_init_44 rfl (lv_at hl 0 rfl) ?_
  refine lv_bipush (v := 40) hx hb dX8_init_45 (by decide) ?_
  obtain ⟨hn9, hrf9, hz9, hiv9⟩ := iv_new hiv (a := 1008) (by decide) (by decide)
  refine w_newi hx hb (hts (.arrayClass .int) (by decide +kernel)) hK hW hS hA hn9 hrf9 hz9 hK1008 hN1008 rfl (by decide) (Nat.le_of_ble_eq_true rfl) (Nat.le_of_ble_eq_true rfl) dX8_init_47 (fun ad H hq hW hS => ?_)
  have hl : lv_has ls 1 [(0, .ref (ad 1000))] := by rw [hq 1000 (by decide)]; exact hl
  refine w_st (st' := [.ref (ad 1008), .ref (ad 1000)]) (by rw [hq 1000 (by decide)]) ?_
  have hqa : ∀ k, ¬ (k = 1002 ∨ k = 1003 ∨ k = 1004 ∨ k = 1005 ∨ k = 1006 ∨ k = 1008 ∨ k = 1009 ∨ k = 1010 ∨ k = 1011 ∨ k = 1012 ∨ k = 1013 ∨ k = 1014 ∨ k = 1015 ∨ k = 1016 ∨ k = 1017 ∨ k = 1018 ∨ k = 1019 ∨ k = 1020 ∨ k = 1027 ∨ k = 1028 ∨ k = 1029 ∨ k = 1030 ∨ k = 1031 ∨ k = 1042 ∨ k = 1043 ∨ k = 1044 ∨ k = 1045 ∨ k = 1046) → ad k = adS k := fun k hk => (hq k (fun e => hk (by subst e; decide))).trans (hqa k hk)
  have hk_1000 := mem_l (k := 1008) hk_1000
  have hk_1002 := mem_l (k := 1008) hk_1002
  have hk_1003 := mem_l (k := 1008) hk_1003
  have hk_1004 := mem_l (k := 1008) hk_1004
  have hk_1005 := mem_l (k := 1008) hk_1005
  have hk_1006 := mem_l (k := 1008) hk_1006
  have hk_1008 : 1008 ∈ (dm ++ [1002] ++ [1003] ++ [1004] ++ [1005] ++ [1006]) ++ [1008] := mem_r
  have hiv := hiv9
  refine w_putoF (ci := 9) (T := TX8) (ty := tyX8 8) hx hb hts hin_TX8 tyX8 tyX8_ok nmX8 hown hK hW hS hk_1000 hK1000 (by decide) rfl 8 (by decide) (hts (.fieldLink RX8 25 "TownClocksModel" "on" "[I") (by decide +kernel)) (fun _ h9 => h9) rfl hmn rfl (some 1008) (tyX8_ok 8 (by decide)) rfl rfl (Nat.le_of_ble_eq_true rfl) rfl dX8_init_49 (fun H locs hW hS => ?_)
  have hiv := iv_put (k := 1000) (j := 8) (o := some 1008) hiv (by decide) (ho_m hk_1008)
  refine lv_aload_n hx hb dX8_init_52 rfl (lv_at hl 0 rfl) ?_
  refine lv_bipush (v := 40) hx hb dX8_init_53 (by decide) ?_
  obtain ⟨hn9, hrf9, hz9, hiv9⟩ := iv_new hiv (a := 1009) (by decide) (by decide)
  refine w_newi hx hb (hts (.arrayClass .int) (by decide +kernel)) hK hW hS hA hn9 hrf9 hz9 hK1009 hN1009 rfl (by decide) (Nat.le_of_ble_eq_true rfl) (Nat.le_of_ble_eq_true rfl) dX8_init_55 (fun ad H hq hW hS => ?_)
  have hl : lv_has ls 1 [(0, .ref (ad 1000))] := by rw [hq 1000 (by decide)]; exact hl
  refine w_st (st' := [.ref (ad 1009), .ref (ad 1000)]) (by rw [hq 1000 (by decide)]) ?_
  have hqa : ∀ k, ¬ (k = 1002 ∨ k = 1003 ∨ k = 1004 ∨ k = 1005 ∨ k = 1006 ∨ k = 1008 ∨ k = 1009 ∨ k = 1010 ∨ k = 1011 ∨ k = 1012 ∨ k = 1013 ∨ k = 1014 ∨ k = 1015 ∨ k = 1016 ∨ k = 1017 ∨ k = 1018 ∨ k = 1019 ∨ k = 1020 ∨ k = 1027 ∨ k = 1028 ∨ k = 1029 ∨ k = 1030 ∨ k = 1031 ∨ k = 1042 ∨ k = 1043 ∨ k = 1044 ∨ k = 1045 ∨ k = 1046) → ad k = adS k := fun k hk => (hq k (fun e => hk (by subst e; decide))).trans (hqa k hk)
  have hk_1000 := mem_l (k := 1009) hk_1000
  have hk_1002 := mem_l (k := 1009) hk_1002
  have hk_1003 := mem_l (k := 1009) hk_1003
  have hk_1004 := mem_l (k := 1009) hk_1004
  have hk_1005 := mem_l (k := 1009) hk_1005
  have hk_1006 := mem_l (k := 1009) hk_1006
  have hk_1008 := mem_l (k := 1009) hk_1008
  have hk_1009 : 1009 ∈ (dm ++ [1002] ++ [1003] ++ [1004] ++ [1005] ++ [1006] ++ [1008]) ++ [1009] := mem_r
  have hiv := hiv9
  refine w_putoF (ci := 9) (T := TX8) (ty := tyX8 9) hx hb hts hin_TX8 tyX8 tyX8_ok nmX8 hown hK hW hS hk_1000 hK1000 (by decide) rfl 9 (by decide) (hts (.fieldLink RX8 28 "TownClocksModel" "need" "[I") (by decide +kernel)) (fun _ h9 => h9) rfl hmn rfl (some 1009) (tyX8_ok 9 (by decide)) rfl rfl (Nat.le_of_ble_eq_true rfl) rfl dX8_init_57 (fun H locs hW hS => ?_)
  have hiv := iv_put (k := 1000) (j := 9) (o := some 1009) hiv (by decide) (ho_m hk_1009)
  refine lv_aload_n hx hb dX8_init_60 rfl (lv_at hl 0 rfl) ?_
  refine lv_bipush (v := 40) hx hb dX8_init_61 (by decide) ?_
  obtain ⟨hn9, hrf9, hz9, hiv9⟩ := iv_new hiv (a := 1010) (by decide) (by decide)
  refine w_newi hx hb (hts (.arrayClass .int) (by decide +kernel)) hK hW hS hA hn9 hrf9 hz9 hK1010 hN1010 rfl (by decide) (Nat.le_of_ble_eq_true rfl) (Nat.le_of_ble_eq_true rfl) dX8_init_63 (fun ad H hq hW hS => ?_)
  have hl : lv_has ls 1 [(0, .ref (ad 1000))] := by rw [hq 1000 (by decide)]; exact hl
  refine w_st (st' := [.ref (ad 1010), .ref (ad 1000)]) (by rw [hq 1000 (by decide)]) ?_
  have hqa : ∀ k, ¬ (k = 1002 ∨ k = 1003 ∨ k = 1004 ∨ k = 1005 ∨ k = 1006 ∨ k = 1008 ∨ k = 1009 ∨ k = 1010 ∨ k = 1011 ∨ k = 1012 ∨ k = 1013 ∨ k = 1014 ∨ k = 1015 ∨ k = 1016 ∨ k = 1017 ∨ k = 1018 ∨ k = 1019 ∨ k = 1020 ∨ k = 1027 ∨ k = 1028 ∨ k = 1029 ∨ k = 1030 ∨ k = 1031 ∨ k = 1042 ∨ k = 1043 ∨ k = 1044 ∨ k = 1045 ∨ k = 1046) → ad k = adS k := fun k hk => (hq k (fun e => hk (by subst e; decide))).trans (hqa k hk)
  have hk_1000 := mem_l (k := 1010) hk_1000
  have hk_1002 := mem_l (k := 1010) hk_1002
  have hk_1003 := mem_l (k := 1010) hk_1003
  have hk_1004 := mem_l (k := 1010) hk_1004
  have hk_1005 := mem_l (k := 1010) hk_1005
  have hk_1006 := mem_l (k := 1010) hk_1006
  have hk_1008 := mem_l (k := 1010) hk_1008
  have hk_1009 := mem_l (k := 1010) hk_1009
  have hk_1010 : 1010 ∈ (dm ++ [1002] ++ [1003] ++ [1004] ++ [1005] ++ [1006] ++ [1008] ++ [1009]) ++ [1010] := mem_r
  have hiv := hiv9
  refine w_putoF (ci := 9) (T := TX8) (ty := tyX8 10) hx hb hts hin_TX8 tyX8 tyX8_ok nmX8 hown hK hW hS hk_1000 hK1000 (by decide) rfl 10 (by decide) (hts (.fieldLink RX8 31 "TownClocksModel" "sortOf" "[I") (by decide +kernel)) (fun _ h9 => h9) rfl hmn rfl (some 1010) (tyX8_ok 10 (by decide)) rfl rfl (Nat.le_of_ble_eq_true rfl) rfl dX8_init_65 (fun H locs hW hS => ?_)
  have hiv := iv_put (k := 1000) (j := 10) (o := some 1010) hiv (by decide) (ho_m hk_1010)
  refine lv_aload_n hx hb dX8_init_68 rfl (lv_at hl 0 rfl) ?_
  refine lv_bipush (v := 40) hx hb dX8_init_69 (by decide) ?_
  obtain ⟨hn9, hrf9, hz9, hiv9⟩ := iv_new hiv (a := 1011) (by decide) (by decide)
  refine w_newi hx hb (hts (.arrayClass .int) (by decide +kernel)) hK hW hS hA hn9 hrf9 hz9 hK1011 hN1011 rfl (by decide) (Nat.le_of_ble_eq_true rfl) (Nat.le_of_ble_eq_true rfl) dX8_init_71 (fun ad H hq hW hS => ?_)
  have hl : lv_has ls 1 [(0, .ref (ad 1000))] := by rw [hq 1000 (by decide)]; exact hl
  refine w_st (st' := [.ref (ad 1011), .ref (ad 1000)]) (by rw [hq 1000 (by decide)]) ?_
  have hqa : ∀ k, ¬ (k = 1002 ∨ k = 1003 ∨ k = 1004 ∨ k = 1005 ∨ k = 1006 ∨ k = 1008 ∨ k = 1009 ∨ k = 1010 ∨ k = 1011 ∨ k = 1012 ∨ k = 1013 ∨ k = 1014 ∨ k = 1015 ∨ k = 1016 ∨ k = 1017 ∨ k = 1018 ∨ k = 1019 ∨ k = 1020 ∨ k = 1027 ∨ k = 1028 ∨ k = 1029 ∨ k = 1030 ∨ k = 1031 ∨ k = 1042 ∨ k = 1043 ∨ k = 1044 ∨ k = 1045 ∨ k = 1046) → ad k = adS k := fun k hk => (hq k (fun e => hk (by subst e; decide))).trans (hqa k hk)
  have hk_1000 := mem_l (k := 1011) hk_1000
  have hk_1002 := mem_l (k := 1011) hk_1002
  have hk_1003 := mem_l (k := 1011) hk_1003
  have hk_1004 := mem_l (k := 1011) hk_1004
  have hk_1005 := mem_l (k := 1011) hk_1005
  have hk_1006 := mem_l (k := 1011) hk_1006
  have hk_1008 := mem_l (k := 1011) hk_1008
  have hk_1009 := mem_l (k := 1011) hk_1009
  have hk_1010 := mem_l (k := 1011) hk_1010
  have hk_1011 : 1011 ∈ (dm ++ [1002] ++ [1003] ++ [1004] ++ [1005] ++ [1006] ++ [1008] ++ [1009] ++ [1010]) ++ [1011] := mem_r
  have hiv := hiv9
  refine w_putoF (ci := 9) (T := TX8) (ty := tyX8 11) hx hb hts hin_TX8 tyX8 tyX8_ok nmX8 hown hK hW hS hk_1000 hK1000 (by decide) rfl 11 (by decide) (hts (.fieldLink RX8 34 "TownClocksModel" "late" "[I") (by decide +kernel)) (fun _ h9 => h9) rfl hmn rfl (some 1011) (tyX8_ok 11 (by decide)) rfl rfl (Nat.le_of_ble_eq_true rfl) rfl dX8_init_73 (fun H locs hW hS => ?_)
  have hiv := iv_put (k := 1000) (j := 11) (o := some 1011) hiv (by decide) (ho_m hk_1011)
  refine lv_aload_n hx hb dX8_init_76 rfl (lv_at hl 0 rfl) ?_
  refine lv_bipush (v := 40) hx hb dX8_init_77 (by decide) ?_
  obtain ⟨hn9, hrf9, hz9, hiv9⟩ := iv_new hiv (a := 1012) (by decide) (by decide)
  refine w_newi hx hb (hts (.arrayClass .int) (by decide +kernel)) hK hW hS hA hn9 hrf9 hz9 hK1012 hN1012 rfl (by decide) (Nat.le_of_ble_eq_true rfl) (Nat.le_of_ble_eq_true rfl) dX8_init_79 (fun ad H hq hW hS => ?_)
  have hl : lv_has ls 1 [(0, .ref (ad 1000))] := by rw [hq 1000 (by decide)]; exact hl
  refine w_st (st' := [.ref (ad 1012), .ref (ad 1000)]) (by rw [hq 1000 (by decide)]) ?_
  have hqa : ∀ k, ¬ (k = 1002 ∨ k = 1003 ∨ k = 1004 ∨ k = 1005 ∨ k = 1006 ∨ k = 1008 ∨ k = 1009 ∨ k = 1010 ∨ k = 1011 ∨ k = 1012 ∨ k = 1013 ∨ k = 1014 ∨ k = 1015 ∨ k = 1016 ∨ k = 1017 ∨ k = 1018 ∨ k = 1019 ∨ k = 1020 ∨ k = 1027 ∨ k = 1028 ∨ k = 1029 ∨ k = 1030 ∨ k = 1031 ∨ k = 1042 ∨ k = 1043 ∨ k = 1044 ∨ k = 1045 ∨ k = 1046) → ad k = adS k := fun k hk => (hq k (fun e => hk (by subst e; decide))).trans (hqa k hk)
  have hk_1000 := mem_l (k := 1012) hk_1000
  have hk_1002 := mem_l (k := 1012) hk_1002
  have hk_1003 := mem_l (k := 1012) hk_1003
  have hk_1004 := mem_l (k := 1012) hk_1004
  have hk_1005 := mem_l (k := 1012) hk_1005
  have hk_1006 := mem_l (k := 1012) hk_1006
  have hk_1008 := mem_l (k := 1012) hk_1008
  have hk_1009 := mem_l (k := 1012) hk_1009
  have hk_1010 := mem_l (k := 1012) hk_1010
  have hk_1011 := mem_l (k := 1012) hk_1011
  have hk_1012 : 1012 ∈ (dm ++ [1002] ++ [1003] ++ [1004] ++ [1005] ++ [1006] ++ [1008] ++ [1009] ++ [1010] ++ [1011]) ++ [1012] := mem_r
  have hiv := hiv9
  refine w_putoF (ci := 9) (T := TX8) (ty := tyX8 12) hx hb hts hin_TX8 tyX8 tyX8_ok nmX8 hown hK hW hS hk_1000 hK1000 (by decide) rfl 12 (by decide) (hts (.fieldLink RX8 37 "TownClocksModel" "running" "[I") (by decide +kernel)) (fun _ h9 => h9) rfl hmn rfl (some 1012) (tyX8_ok 12 (by decide)) rfl rfl (Nat.le_of_ble_eq_true rfl) rfl dX8_init_81 (fun H locs hW hS => ?_)
  have hiv := iv_put (k := 1000) (j := 12) (o := some 1012) hiv (by decide) (ho_m hk_1012)
  refine lv_aload_n hx hb dX8_init_84 rfl (lv_at hl 0 rfl) ?_
  refine lv_bipush (v := 40) hx hb dX8_init_85 (by decide) ?_
  obtain ⟨hn9, hrf9, hz9, hiv9⟩ := iv_new hiv (a := 1013) (by decide) (by decide)
  refine w_newi hx hb (hts (.arrayClass .int) (by decide +kernel)) hK hW hS hA hn9 hrf9 hz9 hK1013 hN1013 rfl (by decide) (Nat.le_of_ble_eq_true rfl) (Nat.le_of_ble_eq_true rfl) dX8_init_87 (fun ad H hq hW hS => ?_)
  have hl : lv_has ls 1 [(0, .ref (ad 1000))] := by rw [hq 1000 (by decide)]; exact hl
  refine w_st (st' := [.ref (ad 1013), .ref (ad 1000)]) (by rw [hq 1000 (by decide)]) ?_
  have hqa : ∀ k, ¬ (k = 1002 ∨ k = 1003 ∨ k = 1004 ∨ k = 1005 ∨ k = 1006 ∨ k = 1008 ∨ k = 1009 ∨ k = 1010 ∨ k = 1011 ∨ k = 1012 ∨ k = 1013 ∨ k = 1014 ∨ k = 1015 ∨ k = 1016 ∨ k = 1017 ∨ k = 1018 ∨ k = 1019 ∨ k = 1020 ∨ k = 1027 ∨ k = 1028 ∨ k = 1029 ∨ k = 1030 ∨ k = 1031 ∨ k = 1042 ∨ k = 1043 ∨ k = 1044 ∨ k = 1045 ∨ k = 1046) → ad k = adS k := fun k hk => (hq k (fun e => hk (by subst e; decide))).trans (hqa k hk)
  have hk_1000 := mem_l (k := 1013) hk_1000
  have hk_1002 := mem_l (k := 1013) hk_1002
  have hk_1003 := mem_l (k := 1013) hk_1003
  have hk_1004 := mem_l (k := 1013) hk_1004
  have hk_1005 := mem_l (k := 1013) hk_1005
  have hk_1006 := mem_l (k := 1013) hk_1006
  have hk_1008 := mem_l (k := 1013) hk_1008
  have hk_1009 := mem_l (k := 1013) hk_1009
  have hk_1010 := mem_l (k := 1013) hk_1010
  have hk_1011 := mem_l (k := 1013) hk_1011
  have hk_1012 := mem_l (k := 1013) hk_1012
  have hk_1013 : 1013 ∈ (dm ++ [1002] ++ [1003] ++ [1004] ++ [1005] ++ [1006] ++ [1008] ++ [1009] ++ [1010] ++ [1011] ++ [1012]) ++ [1013] := mem_r
  have hiv := hiv9
  refine w_putoF (ci := 9) (T := TX8) (ty := tyX8 13) hx hb hts hin_TX8 tyX8 tyX8_ok nmX8 hown hK hW hS hk_1000 hK1000 (by decide) rfl 13 (by decide) (hts (.fieldLink RX8 40 "TownClocksModel" "known" "[I") (by decide +kernel)) (fun _ h9 => h9) rfl hmn rfl (some 1013) (tyX8_ok 13 (by decide)) rfl rfl (Nat.le_of_ble_eq_true rfl) rfl dX8_init_89 (fun H locs hW hS => ?_)
  have hiv := iv_put (k := 1000) (j := 13) (o := some 1013) hiv (by decide) (ho_m hk_1013)
  refine lv_aload_n hx hb dX8_init_92 rfl (lv_at hl 0 rfl) ?_
  refine lv_bipush (v := 40) hx hb dX8_init_93 (by decide) ?_
  obtain ⟨hn9, hrf9, hz9, hiv9⟩ := iv_new hiv (a := 1014) (by decide) (by decide)
  refine w_newi hx hb (hts (.arrayClass .int) (by decide +kernel)) hK hW hS hA hn9 hrf9 hz9 hK1014 hN1014 rfl (by decide) (Nat.le_of_ble_eq_true rfl) (Nat.le_of_ble_eq_true rfl) dX8_init_95 (fun ad H hq hW hS => ?_)
  have hl : lv_has ls 1 [(0, .ref (ad 1000))] := by rw [hq 1000 (by decide)]; exact hl
  refine w_st (st' := [.ref (ad 1014), .ref (ad 1000)]) (by rw [hq 1000 (by decide)]) ?_
  have hqa : ∀ k, ¬ (k = 1002 ∨ k = 1003 ∨ k = 1004 ∨ k = 1005 ∨ k = 1006 ∨ k = 1008 ∨ k = 1009 ∨ k = 1010 ∨ k = 1011 ∨ k = 1012 ∨ k = 1013 ∨ k = 1014 ∨ k = 1015 ∨ k = 1016 ∨ k = 1017 ∨ k = 1018 ∨ k = 1019 ∨ k = 1020 ∨ k = 1027 ∨ k = 1028 ∨ k = 1029 ∨ k = 1030 ∨ k = 1031 ∨ k = 1042 ∨ k = 1043 ∨ k = 1044 ∨ k = 1045 ∨ k = 1046) → ad k = adS k := fun k hk => (hq k (fun e => hk (by subst e; decide))).trans (hqa k hk)
  have hk_1000 := mem_l (k := 1014) hk_1000
  have hk_1002 := mem_l (k := 1014) hk_1002
  have hk_1003 := mem_l (k := 1014) hk_1003
  have hk_1004 := mem_l (k := 1014) hk_1004
  have hk_1005 := mem_l (k := 1014) hk_1005
  have hk_1006 := mem_l (k := 1014) hk_1006
  have hk_1008 := mem_l (k := 1014) hk_1008
  have hk_1009 := mem_l (k := 1014) hk_1009
  have hk_1010 := mem_l (k := 1014) hk_1010
  have hk_1011 := mem_l (k := 1014) hk_1011
  have hk_1012 := mem_l (k := 1014) hk_1012
  have hk_1013 := mem_l (k := 1014) hk_1013
  have hk_1014 : 1014 ∈ (dm ++ [1002] ++ [1003] ++ [1004] ++ [1005] ++ [1006] ++ [1008] ++ [1009] ++ [1010] ++ [1011] ++ [1012] ++ [1013]) ++ [1014] := mem_r
  have hiv := hiv9
  refine w_putoF (ci := 9) (T := TX8) (ty := tyX8 14) hx hb hts hin_TX8 tyX8 tyX8_ok nmX8 hown hK hW hS hk_1000 hK1000 (by decide) rfl 14 (by decide) (hts (.fieldLink RX8 43 "TownClocksModel" "since" "[I") (by decide +kernel)) (fun _ h9 => h9) rfl hmn rfl (some 1014) (tyX8_ok 14 (by decide)) rfl rfl (Nat.le_of_ble_eq_true rfl) rfl dX8_init_97 (fun H locs hW hS => ?_)
  have hiv := iv_put (k := 1000) (j := 14) (o := some 1014) hiv (by decide) (ho_m hk_1014)
  refine lv_aload_n hx hb dX8_init_100 rfl (lv_at hl 0 rfl) ?_
  refine lv_bipush (v := 40) hx hb dX8_init_101 (by decide) ?_
  obtain ⟨hn9, hrf9, hz9, hiv9⟩ := iv_new hiv (a := 1015) (by decide) (by decide)
  refine w_newz hx hb (hts (.arrayClass .boolean) (by decide +kernel)) hK hW hS hA hn9 hrf9 hz9 hK1015 hN1015 rfl (by decide) (Nat.le_of_ble_eq_true rfl) (Nat.le_of_ble_eq_true rfl) dX8_init_103 (fun ad H hq hW hS => ?_)
  have hl : lv_has ls 1 [(0, .ref (ad 1000))] := by rw [hq 1000 (by decide)]; exact hl
  refine w_st (st' := [.ref (ad 1015), .ref (ad 1000)]) (by rw [hq 1000 (by decide)]) ?_
  have hqa : ∀ k, ¬ (k = 1002 ∨ k = 1003 ∨ k = 1004 ∨ k = 1005 ∨ k = 1006 ∨ k = 1008 ∨ k = 1009 ∨ k = 1010 ∨ k = 1011 ∨ k = 1012 ∨ k = 1013 ∨ k = 1014 ∨ k = 1015 ∨ k = 1016 ∨ k = 1017 ∨ k = 1018 ∨ k = 1019 ∨ k = 1020 ∨ k = 1027 ∨ k = 1028 ∨ k = 1029 ∨ k = 1030 ∨ k = 1031 ∨ k = 1042 ∨ k = 1043 ∨ k = 1044 ∨ k = 1045 ∨ k = 1046) → ad k = adS k := fun k hk => (hq k (fun e => hk (by subst e; decide))).trans (hqa k hk)
  have hk_1000 := mem_l (k := 1015) hk_1000
  have hk_1002 := mem_l (k := 1015) hk_1002
  have hk_1003 := mem_l (k := 1015) hk_1003
  have hk_1004 := mem_l (k := 1015) hk_1004
  have hk_1005 := mem_l (k := 1015) hk_1005
  have hk_1006 := mem_l (k := 1015) hk_1006
  have hk_1008 := mem_l (k := 1015) hk_1008
  have hk_1009 := mem_l (k := 1015) hk_1009
  have hk_1010 := mem_l (k := 1015) hk_1010
  have hk_1011 := mem_l (k := 1015) hk_1011
  have hk_1012 := mem_l (k := 1015) hk_1012
  have hk_1013 := mem_l (k := 1015) hk_1013
  have hk_1014 := mem_l (k := 1015) hk_1014
  have hk_1015 : 1015 ∈ (dm ++ [1002] ++ [1003] ++ [1004] ++ [1005] ++ [1006] ++ [1008] ++ [1009] ++ [1010] ++ [1011] ++ [1012] ++ [1013] ++ [1014]) ++ [1015] := mem_r
  have hiv := hiv9
  refine w_putoF (ci := 9) (T := TX8) (ty := tyX8 15) hx hb hts hin_TX8 tyX8 tyX8_ok nmX8 hown hK hW hS hk_1000 hK1000 (by decide) rfl 15 (by decide) (hts (.fieldLink RX8 46 "TownClocksModel" "hasMissed" "[Z") (by decide +kernel)) (fun _ h9 => h9) rfl hmn rfl (some 1015) (tyX8_ok 15 (by decide)) rfl rfl (Nat.le_of_ble_eq_true rfl) rfl dX8_init_105 (fun H locs hW hS => ?_)
  have hiv := iv_put (k := 1000) (j := 15) (o := some 1015) hiv (by decide) (ho_m hk_1015)
  refine lv_aload_n hx hb dX8_init_108 rfl (lv_at hl 0 rfl) ?_
  refine lv_bipush (v := 40) hx hb dX8_init_109 (by decide) ?_
  obtain ⟨hn9, hrf9, hz9, hiv9⟩ := iv_new hiv (a := 1016) (by decide) (by decide)
  refine w_newz hx hb (hts (.arrayClass .boolean) (by decide +kernel)) hK hW hS hA hn9 hrf9 hz9 hK1016 hN1016 rfl (by decide) (Nat.le_of_ble_eq_true rfl) (Nat.le_of_ble_eq_true rfl) dX8_init_111 (fun ad H hq hW hS => ?_)
  have hl : lv_has ls 1 [(0, .ref (ad 1000))] := by rw [hq 1000 (by decide)]; exact hl
  refine w_st (st' := [.ref (ad 1016), .ref (ad 1000)]) (by rw [hq 1000 (by decide)]) ?_
  have hqa : ∀ k, ¬ (k = 1002 ∨ k = 1003 ∨ k = 1004 ∨ k = 1005 ∨ k = 1006 ∨ k = 1008 ∨ k = 1009 ∨ k = 1010 ∨ k = 1011 ∨ k = 1012 ∨ k = 1013 ∨ k = 1014 ∨ k = 1015 ∨ k = 1016 ∨ k = 1017 ∨ k = 1018 ∨ k = 1019 ∨ k = 1020 ∨ k = 1027 ∨ k = 1028 ∨ k = 1029 ∨ k = 1030 ∨ k = 1031 ∨ k = 1042 ∨ k = 1043 ∨ k = 1044 ∨ k = 1045 ∨ k = 1046) → ad k = adS k := fun k hk => (hq k (fun e => hk (by subst e; decide))).trans (hqa k hk)
  have hk_1000 := mem_l (k := 1016) hk_1000
  have hk_1002 := mem_l (k := 1016) hk_1002
  have hk_1003 := mem_l (k := 1016) hk_1003
  have hk_1004 := mem_l (k := 1016) hk_1004
  have hk_1005 := mem_l (k := 1016) hk_1005
  have hk_1006 := mem_l (k := 1016) hk_1006
  have hk_1008 := mem_l (k := 1016) hk_1008
  have hk_1009 := mem_l (k := 1016) hk_1009
  have hk_1010 := mem_l (k := 1016) hk_1010
  have hk_1011 := mem_l (k := 1016) hk_1011
  have hk_1012 := mem_l (k := 1016) hk_1012
  have hk_1013 := mem_l (k := 1016) hk_1013
  have hk_1014 := mem_l (k := 1016) hk_1014
  have hk_1015 := mem_l (k := 1016) hk_1015
  have hk_1016 : 1016 ∈ (dm ++ [1002] ++ [1003] ++ [1004] ++ [1005] ++ [1006] ++ [1008] ++ [1009] ++ [1010] ++ [1011] ++ [1012] ++ [1013] ++ [1014] ++ [1015]) ++ [1016] := mem_r
  have hiv := hiv9
  refine w_putoF (ci := 9) (T := TX8) (ty := tyX8 16) hx hb hts hin_TX8 tyX8 tyX8_ok nmX8 hown hK hW hS hk_1000 hK1000 (by decide) rfl 16 (by decide) (hts (.fieldLink RX8 50 "TownClocksModel" "isMarked" "[Z") (by decide +kernel)) (fun _ h9 => h9) rfl hmn rfl (some 1016) (tyX8_ok 16 (by decide)) rfl rfl (Nat.le_of_ble_eq_true rfl) rfl dX8_init_113 (fun H locs hW hS => ?_)
  have hiv := iv_put (k := 1000) (j := 16) (o := some 1016) hiv (by decide) (ho_m hk_1016)
  refine lv_aload_n hx hb dX8_init_116 rfl (lv_at hl 0 rfl) ?_
  refine lv_bipush (v := 40) hx hb dX8_init_117 (by decide) ?_
  obtain ⟨hn9, hrf9, hz9, hiv9⟩ := iv_new hiv (a := 1017) (by decide) (by decide)
  refine w_newi hx hb (hts (.arrayClass .int) (by decide +kernel)) hK hW hS hA hn9 hrf9 hz9 hK1017 hN1017 rfl (by decide) (Nat.le_of_ble_eq_true rfl) (Nat.le_of_ble_eq_true rfl) dX8_init_119 (fun ad H hq hW hS => ?_)
  have hl : lv_has ls 1 [(0, .ref (ad 1000))] := by rw [hq 1000 (by decide)]; exact hl
  refine w_st (st' := [.ref (ad 1017), .ref (ad 1000)]) (by rw [hq 1000 (by decide)]) ?_
  have hqa : ∀ k, ¬ (k = 1002 ∨ k = 1003 ∨ k = 1004 ∨ k = 1005 ∨ k = 1006 ∨ k = 1008 ∨ k = 1009 ∨ k = 1010 ∨ k = 1011 ∨ k = 1012 ∨ k = 1013 ∨ k = 1014 ∨ k = 1015 ∨ k = 1016 ∨ k = 1017 ∨ k = 1018 ∨ k = 1019 ∨ k = 1020 ∨ k = 1027 ∨ k = 1028 ∨ k = 1029 ∨ k = 1030 ∨ k = 1031 ∨ k = 1042 ∨ k = 1043 ∨ k = 1044 ∨ k = 1045 ∨ k = 1046) → ad k = adS k := fun k hk => (hq k (fun e => hk (by subst e; decide))).trans (hqa k hk)
  have hk_1000 := mem_l (k := 1017) hk_1000
  have hk_1002 := mem_l (k := 1017) hk_1002
  have hk_1003 := mem_l (k := 1017) hk_1003
  have hk_1004 := mem_l (k := 1017) hk_1004
  have hk_1005 := mem_l (k := 1017) hk_1005
  have hk_1006 := mem_l (k := 1017) hk_1006
  have hk_1008 := mem_l (k := 1017) hk_1008
  have hk_1009 := mem_l (k := 1017) hk_1009
  have hk_1010 := mem_l (k := 1017) hk_1010
  have hk_1011 := mem_l (k := 1017) hk_1011
  have hk_1012 := mem_l (k := 1017) hk_1012
  have hk_1013 := mem_l (k := 1017) hk_1013
  have hk_1014 := mem_l (k := 1017) hk_1014
  have hk_1015 := mem_l (k := 1017) hk_1015
  have hk_1016 := mem_l (k := 1017) hk_1016
  have hk_1017 : 1017 ∈ (dm ++ [1002] ++ [1003] ++ [1004] ++ [1005] ++ [1006] ++ [1008] ++ [1009] ++ [1010] ++ [1011] ++ [1012] ++ [1013] ++ [1014] ++ [1015] ++ [1016]) ++ [1017] := mem_r
  have hiv := hiv9
  refine w_putoF (ci := 9) (T := TX8) (ty := tyX8 17) hx hb hts hin_TX8 tyX8 tyX8_ok nmX8 hown hK hW hS hk_1000 hK1000 (by decide) rfl 17 (by decide) (hts (.fieldLink RX8 53 "TownClocksModel" "contract" "[I") (by decide +kernel)) (fun _ h9 => h9) rfl hmn rfl (some 1017) (tyX8_ok 17 (by decide)) rfl rfl (Nat.le_of_ble_eq_true rfl) rfl dX8_init_121 (fun H locs hW hS => ?_)
  have hiv := iv_put (k := 1000) (j := 17) (o := some 1017) hiv (by decide) (ho_m hk_1017)
  refine lv_aload_n hx hb dX8_init_124 rfl (lv_at hl 0 rfl) ?_
  refine lv_bipush (v := 40) hx hb dX8_init_125 (by decide) ?_
  obtain ⟨hn9, hrf9, hz9, hiv9⟩ := iv_new hiv (a := 1018) (by decide) (by decide)
  refine w_newi hx hb (hts (.arrayClass .int) (by decide +kernel)) hK hW hS hA hn9 hrf9 hz9 hK1018 hN1018 rfl (by decide) (Nat.le_of_ble_eq_true rfl) (Nat.le_of_ble_eq_true rfl) dX8_init_127 (fun ad H hq hW hS => ?_)
  have hl : lv_has ls 1 [(0, .ref (ad 1000))] := by rw [hq 1000 (by decide)]; exact hl
  refine w_st (st' := [.ref (ad 1018), .ref (ad 1000)]) (by rw [hq 1000 (by decide)]) ?_
  have hqa : ∀ k, ¬ (k = 1002 ∨ k = 1003 ∨ k = 1004 ∨ k = 1005 ∨ k = 1006 ∨ k = 1008 ∨ k = 1009 ∨ k = 1010 ∨ k = 1011 ∨ k = 1012 ∨ k = 1013 ∨ k = 1014 ∨ k = 1015 ∨ k = 1016 ∨ k = 1017 ∨ k = 1018 ∨ k = 1019 ∨ k = 1020 ∨ k = 1027 ∨ k = 1028 ∨ k = 1029 ∨ k = 1030 ∨ k = 1031 ∨ k = 1042 ∨ k = 1043 ∨ k = 1044 ∨ k = 1045 ∨ k = 1046) → ad k = adS k := fun k hk => (hq k (fun e => hk (by subst e; decide))).trans (hqa k hk)
  have hk_1000 := mem_l (k := 1018) hk_1000
  have hk_1002 := mem_l (k := 1018) hk_1002
  have hk_1003 := mem_l (k := 1018) hk_1003
  have hk_1004 := mem_l (k := 1018) hk_1004
  have hk_1005 := mem_l (k := 1018) hk_1005
  have hk_1006 := mem_l (k := 1018) hk_1006
  have hk_1008 := mem_l (k := 1018) hk_1008
  have hk_1009 := mem_l (k := 1018) hk_1009
  have hk_1010 := mem_l (k := 1018) hk_1010
  have hk_1011 := mem_l (k := 1018) hk_1011
  have hk_1012 := mem_l (k := 1018) hk_1012
  have hk_1013 := mem_l (k := 1018) hk_1013
  have hk_1014 := mem_l (k := 1018) hk_1014
  have hk_1015 := mem_l (k := 1018) hk_1015
  have hk_1016 := mem_l (k := 1018) hk_1016
  have hk_1017 := mem_l (k := 1018) hk_1017
  have hk_1018 : 1018 ∈ (dm ++ [1002] ++ [1003] ++ [1004] ++ [1005] ++ [1006] ++ [1008] ++ [1009] ++ [1010] ++ [1011] ++ [1012] ++ [1013] ++ [1014] ++ [1015] ++ [1016] ++ [1017]) ++ [1018] := mem_r
  have hiv := hiv9
  refine w_putoF (ci := 9) (T := TX8) (ty := tyX8 18) hx hb hts hin_TX8 tyX8 tyX8_ok nmX8 hown hK hW hS hk_1000 hK1000 (by decide) rfl 18 (by decide) (hts (.fieldLink RX8 56 "TownClocksModel" "first" "[I") (by decide +kernel)) (fun _ h9 => h9) rfl hmn rfl (some 1018) (tyX8_ok 18 (by decide)) rfl rfl (Nat.le_of_ble_eq_true rfl) rfl dX8_init_129 (fun H locs hW hS => ?_)
  have hiv := iv_put (k := 1000) (j := 18) (o := some 1018) hiv (by decide) (ho_m hk_1018)
  refine lv_aload_n hx hb dX8_init_132 rfl (lv_at hl 0 rfl) ?_
  refine lv_bipush (v := 40) hx hb dX8_init_133 (by decide) ?_
  obtain ⟨hn9, hrf9, hz9, hiv9⟩ := iv_new hiv (a := 1019) (by decide) (by decide)
  refine w_newi hx hb (hts (.arrayClass .int) (by decide +kernel)) hK hW hS hA hn9 hrf9 hz9 hK1019 hN1019 rfl (by decide) (Nat.le_of_ble_eq_true rfl) (Nat.le_of_ble_eq_true rfl) dX8_init_135 (fun ad H hq hW hS => ?_)
  have hl : lv_has ls 1 [(0, .ref (ad 1000))] := by rw [hq 1000 (by decide)]; exact hl
  refine w_st (st' := [.ref (ad 1019), .ref (ad 1000)]) (by rw [hq 1000 (by decide)]) ?_
  have hqa : ∀ k, ¬ (k = 1002 ∨ k = 1003 ∨ k = 1004 ∨ k = 1005 ∨ k = 1006 ∨ k = 1008 ∨ k = 1009 ∨ k = 1010 ∨ k = 1011 ∨ k = 1012 ∨ k = 1013 ∨ k = 1014 ∨ k = 1015 ∨ k = 1016 ∨ k = 1017 ∨ k = 1018 ∨ k = 1019 ∨ k = 1020 ∨ k = 1027 ∨ k = 1028 ∨ k = 1029 ∨ k = 1030 ∨ k = 1031 ∨ k = 1042 ∨ k = 1043 ∨ k = 1044 ∨ k = 1045 ∨ k = 1046) → ad k = adS k := fun k hk => (hq k (fun e => hk (by subst e; decide))).trans (hqa k hk)
  have hk_1000 := mem_l (k := 1019) hk_1000
  have hk_1002 := mem_l (k := 1019) hk_1002
  have hk_1003 := mem_l (k := 1019) hk_1003
  have hk_1004 := mem_l (k := 1019) hk_1004
  have hk_1005 := mem_l (k := 1019) hk_1005
  have hk_1006 := mem_l (k := 1019) hk_1006
  have hk_1008 := mem_l (k := 1019) hk_1008
  have hk_1009 := mem_l (k := 1019) hk_1009
  have hk_1010 := mem_l (k := 1019) hk_1010
  have hk_1011 := mem_l (k := 1019) hk_1011
  have hk_1012 := mem_l (k := 1019) hk_1012
  have hk_1013 := mem_l (k := 1019) hk_1013
  have hk_1014 := mem_l (k := 1019) hk_1014
  have hk_1015 := mem_l (k := 1019) hk_1015
  have hk_1016 := mem_l (k := 1019) hk_1016
  have hk_1017 := mem_l (k := 1019) hk_1017
  have hk_1018 := mem_l (k := 1019) hk_1018
  have hk_1019 : 1019 ∈ (dm ++ [1002] ++ [1003] ++ [1004] ++ [1005] ++ [1006] ++ [1008] ++ [1009] ++ [1010] ++ [1011] ++ [1012] ++ [1013] ++ [1014] ++ [1015] ++ [1016] ++ [1017] ++ [1018]) ++ [1019] := mem_r
  have hiv := hiv9
  refine w_putoF (ci := 9) (T := TX8) (ty := tyX8 19) hx hb hts hin_TX8 tyX8 tyX8_ok nmX8 hown hK hW hS hk_1000 hK1000 (by decide) rfl 19 (by decide) (hts (.fieldLink RX8 59 "TownClocksModel" "second" "[I") (by decide +kernel)) (fun _ h9 => h9) rfl hmn rfl (some 1019) (tyX8_ok 19 (by decide)) rfl rfl (Nat.le_of_ble_eq_true rfl) rfl dX8_init_137 (fun H locs hW hS => ?_)
  have hiv := iv_put (k := 1000) (j := 19) (o := some 1019) hiv (by decide) (ho_m hk_1019)
  refine lv_aload_n hx hb dX8_init_140 rfl (lv_at hl 0 rfl) ?_
  refine lv_bipush (v := 40) hx hb dX8_init_141 (by decide) ?_
  obtain ⟨hn9, hrf9, hz9, hiv9⟩ := iv_new hiv (a := 1020) (by decide) (by decide)
  refine w_newi hx hb (hts (.arrayClass .int) (by decide +kernel)) hK hW hS hA hn9 hrf9 hz9 hK1020 hN1020 rfl (by decide) (Nat.le_of_ble_eq_true rfl) (Nat.le_of_ble_eq_true rfl) dX8_init_143 (fun ad H hq hW hS => ?_)
  have hl : lv_has ls 1 [(0, .ref (ad 1000))] := by rw [hq 1000 (by decide)]; exact hl
  refine w_st (st' := [.ref (ad 1020), .ref (ad 1000)]) (by rw [hq 1000 (by decide)]) ?_
  have hqa : ∀ k, ¬ (k = 1002 ∨ k = 1003 ∨ k = 1004 ∨ k = 1005 ∨ k = 1006 ∨ k = 1008 ∨ k = 1009 ∨ k = 1010 ∨ k = 1011 ∨ k = 1012 ∨ k = 1013 ∨ k = 1014 ∨ k = 1015 ∨ k = 1016 ∨ k = 1017 ∨ k = 1018 ∨ k = 1019 ∨ k = 1020 ∨ k = 1027 ∨ k = 1028 ∨ k = 1029 ∨ k = 1030 ∨ k = 1031 ∨ k = 1042 ∨ k = 1043 ∨ k = 1044 ∨ k = 1045 ∨ k = 1046) → ad k = adS k := fun k hk => (hq k (fun e => hk (by subst e; decide))).trans (hqa k hk)
  have hk_1000 := mem_l (k := 1020) hk_1000
  have hk_1002 := mem_l (k := 1020) hk_1002
  have hk_1003 := mem_l (k := 1020) hk_1003
  have hk_1004 := mem_l (k := 1020) hk_1004
  have hk_1005 := mem_l (k := 1020) hk_1005
  have hk_1006 := mem_l (k := 1020) hk_1006
  have hk_1008 := mem_l (k := 1020) hk_1008
  have hk_1009 := mem_l (k := 1020) hk_1009
  have hk_1010 := mem_l (k := 1020) hk_1010
  have hk_1011 := mem_l (k := 1020) hk_1011
  have hk_1012 := mem_l (k := 1020) hk_1012
  have hk_1013 := mem_l (k := 1020) hk_1013
  have hk_1014 := mem_l (k := 1020) hk_1014
  have hk_1015 := mem_l (k := 1020) hk_1015
  have hk_1016 := mem_l (k := 1020) hk_1016
  have hk_1017 := mem_l (k := 1020) hk_1017
  have hk_1018 := mem_l (k := 1020) hk_1018
  have hk_1019 := mem_l (k := 1020) hk_1019
  have hk_1020 : 1020 ∈ (dm ++ [1002] ++ [1003] ++ [1004] ++ [1005] ++ [1006] ++ [1008] ++ [1009] ++ [1010] ++ [1011] ++ [1012] ++ [1013] ++ [1014] ++ [1015] ++ [1016] ++ [1017] ++ [1018] ++ [1019]) ++ [1020] := mem_r
  have hiv := hiv9
  refine w_putoF (ci := 9) (T := TX8) (ty := tyX8 20) hx hb hts hin_TX8 tyX8 tyX8_ok nmX8 hown hK hW hS hk_1000 hK1000 (by decide) rfl 20 (by decide) (hts (.fieldLink RX8 62 "TownClocksModel" "owed" "[I") (by decide +kernel)) (fun _ h9 => h9) rfl hmn rfl (some 1020) (tyX8_ok 20 (by decide)) rfl rfl (Nat.le_of_ble_eq_true rfl) rfl dX8_init_145 (fun H locs hW hS => ?_)
  have hiv := iv_put (k := 1000) (j := 20) (o := some 1020) hiv (by decide) (ho_m hk_1020)
  refine lv_aload_n hx hb dX8_init_148 rfl (lv_at hl 0 rfl) ?_
  refine lv_bipush (v := 30) hx hb dX8_init_149 (by decide) ?_
  obtain ⟨hn9, hrf9, hz9, hiv9⟩ := iv_new hiv (a := 1027) (by decide) (by decide)
  refine w_newi hx hb (hts (.arrayClass .int) (by decide +kernel)) hK hW hS hA hn9 hrf9 hz9 hK1027 hN1027 rfl (by decide) (Nat.le_of_ble_eq_true rfl) (Nat.le_of_ble_eq_true rfl) dX8_init_151 (fun ad H hq hW hS => ?_)
  have hl : lv_has ls 1 [(0, .ref (ad 1000))] := by rw [hq 1000 (by decide)]; exact hl
  refine w_st (st' := [.ref (ad 1027), .ref (ad 1000)]) (by rw [hq 1000 (by decide)]) ?_
  have hqa : ∀ k, ¬ (k = 1002 ∨ k = 1003 ∨ k = 1004 ∨ k = 1005 ∨ k = 1006 ∨ k = 1008 ∨ k = 1009 ∨ k = 1010 ∨ k = 1011 ∨ k = 1012 ∨ k = 1013 ∨ k = 1014 ∨ k = 1015 ∨ k = 1016 ∨ k = 1017 ∨ k = 1018 ∨ k = 1019 ∨ k = 1020 ∨ k = 1027 ∨ k = 1028 ∨ k = 1029 ∨ k = 1030 ∨ k = 1031 ∨ k = 1042 ∨ k = 1043 ∨ k = 1044 ∨ k = 1045 ∨ k = 1046) → ad k = adS k := fun k hk => (hq k (fun e => hk (by subst e; decide))).trans (hqa k hk)
  have hk_1000 := mem_l (k := 1027) hk_1000
  have hk_1002 := mem_l (k := 1027) hk_1002
  have hk_1003 := mem_l (k := 1027) hk_1003
  have hk_1004 := mem_l (k := 1027) hk_1004
  have hk_1005 := mem_l (k := 1027) hk_1005
  have hk_1006 := mem_l (k := 1027) hk_1006
  have hk_1008 := mem_l (k := 1027) hk_1008
  have hk_1009 := mem_l (k := 1027) hk_1009
  have hk_1010 := mem_l (k := 1027) hk_1010
  have hk_1011 := mem_l (k := 1027) hk_1011
  have hk_1012 := mem_l (k := 1027) hk_1012
  have hk_1013 := mem_l (k := 1027) hk_1013
  have hk_1014 := mem_l (k := 1027) hk_1014
  have hk_1015 := mem_l (k := 1027) hk_1015
  have hk_1016 := mem_l (k := 1027) hk_1016
  have hk_1017 := mem_l (k := 1027) hk_1017
  have hk_1018 := mem_l (k := 1027) hk_1018
  have hk_1019 := mem_l (k := 1027) hk_1019
  have hk_1020 := mem_l (k := 1027) hk_1020
  have hk_1027 : 1027 ∈ (dm ++ [1002] ++ [1003] ++ [1004] ++ [1005] ++ [1006] ++ [1008] ++ [1009] ++ [1010] ++ [1011] ++ [1012] ++ [1013] ++ [1014] ++ [1015] ++ [1016] ++ [1017] ++ [1018] ++ [1019] ++ [1020]) ++ [1027] := mem_r
  have hiv := hiv9
  refine w_putoF (ci := 9) (T := TX8) (ty := tyX8 27) hx hb hts hin_TX8 tyX8 tyX8_ok nmX8 hown hK hW hS hk_1000 hK1000 (by decide) rfl 27 (by decide) (hts (.fieldLink RX8 65 "TownClocksModel" "foundPipe" "[I") (by decide +kernel)) (fun _ h9 => h9) rfl hmn rfl (some 1027) (tyX8_ok 27 (by decide)) rfl rfl (Nat.le_of_ble_eq_true rfl) rfl dX8_init_153 (fun H locs hW hS => ?_)
  have hiv := iv_put (k := 1000) (j := 27) (o := some 1027) hiv (by decide) (ho_m hk_1027)
  refine lv_aload_n hx hb dX8_init_156 rfl (lv_at hl 0 rfl) ?_
  refine lv_bipush (v := 30) hx hb dX8_init_157 (by decide) ?_
  obtain ⟨hn9, hrf9, hz9, hiv9⟩ := iv_new hiv (a := 1028) (by decide) (by decide)
  refine w_newi hx hb (hts (.arrayClass .int) (by decide +kernel)) hK hW hS hA hn9 hrf9 hz9 hK1028 hN1028 rfl (by decide) (Nat.le_of_ble_eq_true rfl) (Nat.le_of_ble_eq_true rfl) dX8_init_159 (fun ad H hq hW hS => ?_)
  have hl : lv_has ls 1 [(0, .ref (ad 1000))] := by rw [hq 1000 (by decide)]; exact hl
  refine w_st (st' := [.ref (ad 1028), .ref (ad 1000)]) (by rw [hq 1000 (by decide)]) ?_
  have hqa : ∀ k, ¬ (k = 1002 ∨ k = 1003 ∨ k = 1004 ∨ k = 1005 ∨ k = 1006 ∨ k = 1008 ∨ k = 1009 ∨ k = 1010 ∨ k = 1011 ∨ k = 1012 ∨ k = 1013 ∨ k = 1014 ∨ k = 1015 ∨ k = 1016 ∨ k = 1017 ∨ k = 1018 ∨ k = 1019 ∨ k = 1020 ∨ k = 1027 ∨ k = 1028 ∨ k = 1029 ∨ k = 1030 ∨ k = 1031 ∨ k = 1042 ∨ k = 1043 ∨ k = 1044 ∨ k = 1045 ∨ k = 1046) → ad k = adS k := fun k hk => (hq k (fun e => hk (by subst e; decide))).trans (hqa k hk)
  have hk_1000 := mem_l (k := 1028) hk_1000
  have hk_1002 := mem_l (k := 1028) hk_1002
  have hk_1003 := mem_l (k := 1028) hk_1003
  have hk_1004 := mem_l (k := 1028) hk_1004
  have hk_1005 := mem_l (k := 1028) hk_1005
  have hk_1006 := mem_l (k := 1028) hk_1006
  have hk_1008 := mem_l (k := 1028) hk_1008
  have hk_1009 := mem_l (k := 1028) hk_1009
  have hk_1010 := mem_l (k := 1028) hk_1010
  have hk_1011 := mem_l (k := 1028) hk_1011
  have hk_1012 := mem_l (k := 1028) hk_1012
  have hk_1013 := mem_l (k := 1028) hk_1013
  have hk_1014 := mem_l (k := 1028) hk_1014
  have hk_1015 := mem_l (k := 1028) hk_1015
  have hk_1016 := mem_l (k := 1028) hk_1016
  have hk_1017 := mem_l (k := 1028) hk_1017
  have hk_1018 := mem_l (k := 1028) hk_1018
  have hk_1019 := mem_l (k := 1028) hk_1019
  have hk_1020 := mem_l (k := 1028) hk_1020
  have hk_1027 := mem_l (k := 1028) hk_1027
  have hk_1028 : 1028 ∈ (dm ++ [1002] ++ [1003] ++ [1004] ++ [1005] ++ [1006] ++ [1008] ++ [1009] ++ [1010] ++ [1011] ++ [1012] ++ [1013] ++ [1014] ++ [1015] ++ [1016] ++ [1017] ++ [1018] ++ [1019] ++ [1020] ++ [1027]) ++ [1028] := mem_r
  have hiv := hiv9
  refine w_putoF (ci := 9) (T := TX8) (ty := tyX8 28) hx hb hts hin_TX8 tyX8 tyX8_ok nmX8 hown hK hW hS hk_1000 hK1000 (by decide) rfl 28 (by decide) (hts (.fieldLink RX8 68 "TownClocksModel" "foundLeak" "[I") (by decide +kernel)) (fun _ h9 => h9) rfl hmn rfl (some 1028) (tyX8_ok 28 (by decide)) rfl rfl (Nat.le_of_ble_eq_true rfl) rfl dX8_init_161 (fun H locs hW hS => ?_)
  have hiv := iv_put (k := 1000) (j := 28) (o := some 1028) hiv (by decide) (ho_m hk_1028)
  refine lv_aload_n hx hb dX8_init_164 rfl (lv_at hl 0 rfl) ?_
  refine lv_bipush (v := 40) hx hb dX8_init_165 (by decide) ?_
  obtain ⟨hn9, hrf9, hz9, hiv9⟩ := iv_new hiv (a := 1029) (by decide) (by decide)
  refine w_newz hx hb (hts (.arrayClass .boolean) (by decide +kernel)) hK hW hS hA hn9 hrf9 hz9 hK1029 hN1029 rfl (by decide) (Nat.le_of_ble_eq_true rfl) (Nat.le_of_ble_eq_true rfl) dX8_init_167 (fun ad H hq hW hS => ?_)
  have hl : lv_has ls 1 [(0, .ref (ad 1000))] := by rw [hq 1000 (by decide)]; exact hl
  refine w_st (st' := [.ref (ad 1029), .ref (ad 1000)]) (by rw [hq 1000 (by decide)]) ?_
  have hqa : ∀ k, ¬ (k = 1002 ∨ k = 1003 ∨ k = 1004 ∨ k = 1005 ∨ k = 1006 ∨ k = 1008 ∨ k = 1009 ∨ k = 1010 ∨ k = 1011 ∨ k = 1012 ∨ k = 1013 ∨ k = 1014 ∨ k = 1015 ∨ k = 1016 ∨ k = 1017 ∨ k = 1018 ∨ k = 1019 ∨ k = 1020 ∨ k = 1027 ∨ k = 1028 ∨ k = 1029 ∨ k = 1030 ∨ k = 1031 ∨ k = 1042 ∨ k = 1043 ∨ k = 1044 ∨ k = 1045 ∨ k = 1046) → ad k = adS k := fun k hk => (hq k (fun e => hk (by subst e; decide))).trans (hqa k hk)
  have hk_1000 := mem_l (k := 1029) hk_1000
  have hk_1002 := mem_l (k := 1029) hk_1002
  have hk_1003 := mem_l (k := 1029) hk_1003
  have hk_1004 := mem_l (k := 1029) hk_1004
  have hk_1005 := mem_l (k := 1029) hk_1005
  have hk_1006 := mem_l (k := 1029) hk_1006
  have hk_1008 := mem_l (k := 1029) hk_1008
  have hk_1009 := mem_l (k := 1029) hk_1009
  have hk_1010 := mem_l (k := 1029) hk_1010
  have hk_1011 := mem_l (k := 1029) hk_1011
  have hk_1012 := mem_l (k := 1029) hk_1012
  have hk_1013 := mem_l (k := 1029) hk_1013
  have hk_1014 := mem_l (k := 1029) hk_1014
  have hk_1015 := mem_l (k := 1029) hk_1015
  have hk_1016 := mem_l (k := 1029) hk_1016
  have hk_1017 := mem_l (k := 1029) hk_1017
  have hk_1018 := mem_l (k := 1029) hk_1018
  have hk_1019 := mem_l (k := 1029) hk_1019
  have hk_1020 := mem_l (k := 1029) hk_1020
  have hk_1027 := mem_l (k := 1029) hk_1027
  have hk_1028 := mem_l (k := 1029) hk_1028
  have hk_1029 : 1029 ∈ (dm ++ [1002] ++ [1003] ++ [1004] ++ [1005] ++ [1006] ++ [1008] ++ [1009] ++ [1010] ++ [1011] ++ [1012] ++ [1013] ++ [1014] ++ [1015] ++ [1016] ++ [1017] ++ [1018] ++ [1019] ++ [1020] ++ [1027] ++ [1028]) ++ [1029] := mem_r
  have hiv := hiv9
  refine w_putoF (ci := 9) (T := TX8) (ty := tyX8 29) hx hb hts hin_TX8 tyX8 tyX8_ok nmX8 hown hK hW hS hk_1000 hK1000 (by decide) rfl 29 (by decide) (hts (.fieldLink RX8 71 "TownClocksModel" "isLooked" "[Z") (by decide +kernel)) (fun _ h9 => h9) rfl hmn rfl (some 1029) (tyX8_ok 29 (by decide)) rfl rfl (Nat.le_of_ble_eq_true rfl) rfl dX8_init_169 (fun H locs hW hS => ?_)
  have hiv := iv_put (k := 1000) (j := 29) (o := some 1029) hiv (by decide) (ho_m hk_1029)
  refine lv_aload_n hx hb dX8_init_172 rfl (lv_at hl 0 rfl) ?_
  refine lv_sipush (v := 900) hx hb dX8_init_173 (by decide) ?_
  obtain ⟨hn9, hrf9, hz9, hiv9⟩ := iv_new hiv (a := 1030) (by decide) (by decide)
  refine w_newi hx hb (hts (.arrayClass .int) (by decide +kernel)) hK hW hS hA hn9 hrf9 hz9 hK1030 hN1030 rfl (by decide) (Nat.le_of_ble_eq_true rfl) (Nat.le_of_ble_eq_true rfl) dX8_init_176 (fun ad H hq hW hS => ?_)
  have hl : lv_has ls 1 [(0, .ref (ad 1000))] := by rw [hq 1000 (by decide)]; exact hl
  refine w_st (st' := [.ref (ad 1030), .ref (ad 1000)]) (by rw [hq 1000 (by decide)]) ?_
  have hqa : ∀ k, ¬ (k = 1002 ∨ k = 1003 ∨ k = 1004 ∨ k = 1005 ∨ k = 1006 ∨ k = 1008 ∨ k = 1009 ∨ k = 1010 ∨ k = 1011 ∨ k = 1012 ∨ k = 1013 ∨ k = 1014 ∨ k = 1015 ∨ k = 1016 ∨ k = 1017 ∨ k = 1018 ∨ k = 1019 ∨ k = 1020 ∨ k = 1027 ∨ k = 1028 ∨ k = 1029 ∨ k = 1030 ∨ k = 1031 ∨ k = 1042 ∨ k = 1043 ∨ k = 1044 ∨ k = 1045 ∨ k = 1046) → ad k = adS k := fun k hk => (hq k (fun e => hk (by subst e; decide))).trans (hqa k hk)
  have hk_1000 := mem_l (k := 1030) hk_1000
  have hk_1002 := mem_l (k := 1030) hk_1002
  have hk_1003 := mem_l (k := 1030) hk_1003
  have hk_1004 := mem_l (k := 1030) hk_1004
  have hk_1005 := mem_l (k := 1030) hk_1005
  have hk_1006 := mem_l (k := 1030) hk_1006
  have hk_1008 := mem_l (k := 1030) hk_1008
  have hk_1009 := mem_l (k := 1030) hk_1009
  have hk_1010 := mem_l (k := 1030) hk_1010
  have hk_1011 := mem_l (k := 1030) hk_1011
  have hk_1012 := mem_l (k := 1030) hk_1012
  have hk_1013 := mem_l (k := 1030) hk_1013
  have hk_1014 := mem_l (k := 1030) hk_1014
  have hk_1015 := mem_l (k := 1030) hk_1015
  have hk_1016 := mem_l (k := 1030) hk_1016
  have hk_1017 := mem_l (k := 1030) hk_1017
  have hk_1018 := mem_l (k := 1030) hk_1018
  have hk_1019 := mem_l (k := 1030) hk_1019
  have hk_1020 := mem_l (k := 1030) hk_1020
  have hk_1027 := mem_l (k := 1030) hk_1027
  have hk_1028 := mem_l (k := 1030) hk_1028
  have hk_1029 := mem_l (k := 1030) hk_1029
  have hk_1030 : 1030 ∈ (dm ++ [1002] ++ [1003] ++ [1004] ++ [1005] ++ [1006] ++ [1008] ++ [1009] ++ [1010] ++ [1011] ++ [1012] ++ [1013] ++ [1014] ++ [1015] ++ [1016] ++ [1017] ++ [1018] ++ [1019] ++ [1020] ++ [1027] ++ [1028] ++ [1029]) ++ [1030] := mem_r
  have hiv := hiv9
  refine w_putoF (ci := 9) (T := TX8) (ty := tyX8 30) hx hb hts hin_TX8 tyX8 tyX8_ok nmX8 hown hK hW hS hk_1000 hK1000 (by decide) rfl 30 (by decide) (hts (.fieldLink RX8 74 "TownClocksModel" "airBy" "[I") (by decide +kernel)) (fun _ h9 => h9) rfl hmn rfl (some 1030) (tyX8_ok 30 (by decide)) rfl rfl (Nat.le_of_ble_eq_true rfl) rfl dX8_init_178 (fun H locs hW hS => ?_)
  have hiv := iv_put (k := 1000) (j := 30) (o := some 1030) hiv (by decide) (ho_m hk_1030)
  refine lv_aload_n hx hb dX8_init_181 rfl (lv_at hl 0 rfl) ?_
  refine lv_sipush (v := 300) hx hb dX8_init_182 (by decide) ?_
  obtain ⟨hn9, hrf9, hz9, hiv9⟩ := iv_new hiv (a := 1031) (by decide) (by decide)
  refine w_newi hx hb (hts (.arrayClass .int) (by decide +kernel)) hK hW hS hA hn9 hrf9 hz9 hK1031 hN1031 rfl (by decide) (Nat.le_of_ble_eq_true rfl) (Nat.le_of_ble_eq_true rfl) dX8_init_185 (fun ad H hq hW hS => ?_)
  have hl : lv_has ls 1 [(0, .ref (ad 1000))] := by rw [hq 1000 (by decide)]; exact hl
  refine w_st (st' := [.ref (ad 1031), .ref (ad 1000)]) (by rw [hq 1000 (by decide)]) ?_
  have hqa : ∀ k, ¬ (k = 1002 ∨ k = 1003 ∨ k = 1004 ∨ k = 1005 ∨ k = 1006 ∨ k = 1008 ∨ k = 1009 ∨ k = 1010 ∨ k = 1011 ∨ k = 1012 ∨ k = 1013 ∨ k = 1014 ∨ k = 1015 ∨ k = 1016 ∨ k = 1017 ∨ k = 1018 ∨ k = 1019 ∨ k = 1020 ∨ k = 1027 ∨ k = 1028 ∨ k = 1029 ∨ k = 1030 ∨ k = 1031 ∨ k = 1042 ∨ k = 1043 ∨ k = 1044 ∨ k = 1045 ∨ k = 1046) → ad k = adS k := fun k hk => (hq k (fun e => hk (by subst e; decide))).trans (hqa k hk)
  have hk_1000 := mem_l (k := 1031) hk_1000
  have hk_1002 := mem_l (k := 1031) hk_1002
  have hk_1003 := mem_l (k := 1031) hk_1003
  have hk_1004 := mem_l (k := 1031) hk_1004
  have hk_1005 := mem_l (k := 1031) hk_1005
  have hk_1006 := mem_l (k := 1031) hk_1006
  have hk_1008 := mem_l (k := 1031) hk_1008
  have hk_1009 := mem_l (k := 1031) hk_1009
  have hk_1010 := mem_l (k := 1031) hk_1010
  have hk_1011 := mem_l (k := 1031) hk_1011
  have hk_1012 := mem_l (k := 1031) hk_1012
  have hk_1013 := mem_l (k := 1031) hk_1013
  have hk_1014 := mem_l (k := 1031) hk_1014
  have hk_1015 := mem_l (k := 1031) hk_1015
  have hk_1016 := mem_l (k := 1031) hk_1016
  have hk_1017 := mem_l (k := 1031) hk_1017
  have hk_1018 := mem_l (k := 1031) hk_1018
  have hk_1019 := mem_l (k := 1031) hk_1019
  have hk_1020 := mem_l (k := 1031) hk_1020
  have hk_1027 := mem_l (k := 1031) hk_1027
  have hk_1028 := mem_l (k := 1031) hk_1028
  have hk_1029 := mem_l (k := 1031) hk_1029
  have hk_1030 := mem_l (k := 1031) hk_1030
  have hk_1031 : 1031 ∈ (dm ++ [1002] ++ [1003] ++ [1004] ++ [1005] ++ [1006] ++ [1008] ++ [1009] ++ [1010] ++ [1011] ++ [1012] ++ [1013] ++ [1014] ++ [1015] ++ [1016] ++ [1017] ++ [1018] ++ [1019] ++ [1020] ++ [1027] ++ [1028] ++ [1029] ++ [1030]) ++ [1031] := mem_r
  have hiv := hiv9
  refine w_putoF (ci := 9) (T := TX8) (ty := tyX8 31) hx hb hts hin_TX8 tyX8 tyX8_ok nmX8 hown hK hW hS hk_1000 hK1000 (by decide) rfl 31 (by decide) (hts (.fieldLink RX8 77 "TownClocksModel" "tape" "[I") (by decide +kernel)) (fun _ h9 => h9) rfl hmn rfl (some 1031) (tyX8_ok 31 (by decide)) rfl rfl (Nat.le_of_ble_eq_true rfl) rfl dX8_init_187 (fun H locs hW hS => ?_)
  have hiv := iv_put (k := 1000) (j := 31) (o := some 1031) hiv (by decide) (ho_m hk_1031)
  refine lv_aload_n hx hb dX8_init_190 rfl (lv_at hl 0 rfl) ?_
  refine lv_bipush (v := 40) hx hb dX8_init_191 (by decide) ?_
  obtain ⟨hn9, hrf9, hz9, hiv9⟩ := iv_new hiv (a := 1042) (by decide) (by decide)
  refine w_newi hx hb (hts (.arrayClass .int) (by decide +kernel)) hK hW hS hA hn9 hrf9 hz9 hK1042 hN1042 rfl (by decide) (Nat.le_of_ble_eq_true rfl) (Nat.le_of_ble_eq_true rfl) dX8_init_193 (fun ad H hq hW hS => ?_)
  have hl : lv_has ls 1 [(0, .ref (ad 1000))] := by rw [hq 1000 (by decide)]; exact hl
  refine w_st (st' := [.ref (ad 1042), .ref (ad 1000)]) (by rw [hq 1000 (by decide)]) ?_
  have hqa : ∀ k, ¬ (k = 1002 ∨ k = 1003 ∨ k = 1004 ∨ k = 1005 ∨ k = 1006 ∨ k = 1008 ∨ k = 1009 ∨ k = 1010 ∨ k = 1011 ∨ k = 1012 ∨ k = 1013 ∨ k = 1014 ∨ k = 1015 ∨ k = 1016 ∨ k = 1017 ∨ k = 1018 ∨ k = 1019 ∨ k = 1020 ∨ k = 1027 ∨ k = 1028 ∨ k = 1029 ∨ k = 1030 ∨ k = 1031 ∨ k = 1042 ∨ k = 1043 ∨ k = 1044 ∨ k = 1045 ∨ k = 1046) → ad k = adS k := fun k hk => (hq k (fun e => hk (by subst e; decide))).trans (hqa k hk)
  have hk_1000 := mem_l (k := 1042) hk_1000
  have hk_1002 := mem_l (k := 1042) hk_1002
  have hk_1003 := mem_l (k := 1042) hk_1003
  have hk_1004 := mem_l (k := 1042) hk_1004
  have hk_1005 := mem_l (k := 1042) hk_1005
  have hk_1006 := mem_l (k := 1042) hk_1006
  have hk_1008 := mem_l (k := 1042) hk_1008
  have hk_1009 := mem_l (k := 1042) hk_1009
  have hk_1010 := mem_l (k := 1042) hk_1010
  have hk_1011 := mem_l (k := 1042) hk_1011
  have hk_1012 := mem_l (k := 1042) hk_1012
  have hk_1013 := mem_l (k := 1042) hk_1013
  have hk_1014 := mem_l (k := 1042) hk_1014
  have hk_1015 := mem_l (k := 1042) hk_1015
  have hk_1016 := mem_l (k := 1042) hk_1016
  have hk_1017 := mem_l (k := 1042) hk_1017
  have hk_1018 := mem_l (k := 1042) hk_1018
  have hk_1019 := mem_l (k := 1042) hk_1019
  have hk_1020 := mem_l (k := 1042) hk_1020
  have hk_1027 := mem_l (k := 1042) hk_1027
  have hk_1028 := mem_l (k := 1042) hk_1028
  have hk_1029 := mem_l (k := 1042) hk_1029
  have hk_1030 := mem_l (k := 1042) hk_1030
  have hk_1031 := mem_l (k := 1042) hk_1031
  have hk_1042 : 1042 ∈ (dm ++ [1002] ++ [1003] ++ [1004] ++ [1005] ++ [1006] ++ [1008] ++ [1009] ++ [1010] ++ [1011] ++ [1012] ++ [1013] ++ [1014] ++ [1015] ++ [1016] ++ [1017] ++ [1018] ++ [1019] ++ [1020] ++ [1027] ++ [1028] ++ [1029] ++ [1030] ++ [1031]) ++ [1042] := mem_r
  have hiv := hiv9
  refine w_putoF (ci := 9) (T := TX8) (ty := tyX8 42) hx hb hts hin_TX8 tyX8 tyX8_ok nmX8 hown hK hW hS hk_1000 hK1000 (by decide) rfl 42 (by decide) (hts (.fieldLink RX8 80 "TownClocksModel" "toldDial" "[I") (by decide +kernel)) (fun _ h9 => h9) rfl hmn rfl (some 1042) (tyX8_ok 42 (by decide)) rfl rfl (Nat.le_of_ble_eq_true rfl) rfl dX8_init_195 (fun H locs hW hS => ?_)
  have hiv := iv_put (k := 1000) (j := 42) (o := some 1042) hiv (by decide) (ho_m hk_1042)
  refine lv_aload_n hx hb dX8_init_198 rfl (lv_at hl 0 rfl) ?_
  refine lv_bipush (v := 40) hx hb dX8_init_199 (by decide) ?_
  obtain ⟨hn9, hrf9, hz9, hiv9⟩ := iv_new hiv (a := 1043) (by decide) (by decide)
  refine w_newi hx hb (hts (.arrayClass .int) (by decide +kernel)) hK hW hS hA hn9 hrf9 hz9 hK1043 hN1043 rfl (by decide) (Nat.le_of_ble_eq_true rfl) (Nat.le_of_ble_eq_true rfl) dX8_init_201 (fun ad H hq hW hS => ?_)
  have hl : lv_has ls 1 [(0, .ref (ad 1000))] := by rw [hq 1000 (by decide)]; exact hl
  refine w_st (st' := [.ref (ad 1043), .ref (ad 1000)]) (by rw [hq 1000 (by decide)]) ?_
  have hqa : ∀ k, ¬ (k = 1002 ∨ k = 1003 ∨ k = 1004 ∨ k = 1005 ∨ k = 1006 ∨ k = 1008 ∨ k = 1009 ∨ k = 1010 ∨ k = 1011 ∨ k = 1012 ∨ k = 1013 ∨ k = 1014 ∨ k = 1015 ∨ k = 1016 ∨ k = 1017 ∨ k = 1018 ∨ k = 1019 ∨ k = 1020 ∨ k = 1027 ∨ k = 1028 ∨ k = 1029 ∨ k = 1030 ∨ k = 1031 ∨ k = 1042 ∨ k = 1043 ∨ k = 1044 ∨ k = 1045 ∨ k = 1046) → ad k = adS k := fun k hk => (hq k (fun e => hk (by subst e; decide))).trans (hqa k hk)
  have hk_1000 := mem_l (k := 1043) hk_1000
  have hk_1002 := mem_l (k := 1043) hk_1002
  have hk_1003 := mem_l (k := 1043) hk_1003
  have hk_1004 := mem_l (k := 1043) hk_1004
  have hk_1005 := mem_l (k := 1043) hk_1005
  have hk_1006 := mem_l (k := 1043) hk_1006
  have hk_1008 := mem_l (k := 1043) hk_1008
  have hk_1009 := mem_l (k := 1043) hk_1009
  have hk_1010 := mem_l (k := 1043) hk_1010
  have hk_1011 := mem_l (k := 1043) hk_1011
  have hk_1012 := mem_l (k := 1043) hk_1012
  have hk_1013 := mem_l (k := 1043) hk_1013
  have hk_1014 := mem_l (k := 1043) hk_1014
  have hk_1015 := mem_l (k := 1043) hk_1015
  have hk_1016 := mem_l (k := 1043) hk_1016
  have hk_1017 := mem_l (k := 1043) hk_1017
  have hk_1018 := mem_l (k := 1043) hk_1018
  have hk_1019 := mem_l (k := 1043) hk_1019
  have hk_1020 := mem_l (k := 1043) hk_1020
  have hk_1027 := mem_l (k := 1043) hk_1027
  have hk_1028 := mem_l (k := 1043) hk_1028
  have hk_1029 := mem_l (k := 1043) hk_1029
  have hk_1030 := mem_l (k := 1043) hk_1030
  have hk_1031 := mem_l (k := 1043) hk_1031
  have hk_1042 := mem_l (k := 1043) hk_1042
  have hk_1043 : 1043 ∈ (dm ++ [1002] ++ [1003] ++ [1004] ++ [1005] ++ [1006] ++ [1008] ++ [1009] ++ [1010] ++ [1011] ++ [1012] ++ [1013] ++ [1014] ++ [1015] ++ [1016] ++ [1017] ++ [1018] ++ [1019] ++ [1020] ++ [1027] ++ [1028] ++ [1029] ++ [1030] ++ [1031] ++ [1042]) ++ [1043] := mem_r
  have hiv := hiv9
  refine w_putoF (ci := 9) (T := TX8) (ty := tyX8 43) hx hb hts hin_TX8 tyX8 tyX8_ok nmX8 hown hK hW hS hk_1000 hK1000 (by decide) rfl 43 (by decide) (hts (.fieldLink RX8 83 "TownClocksModel" "toldSort" "[I") (by decide +kernel)) (fun _ h9 => h9) rfl hmn rfl (some 1043) (tyX8_ok 43 (by decide)) rfl rfl (Nat.le_of_ble_eq_true rfl) rfl dX8_init_203 (fun H locs hW hS => ?_)
  have hiv := iv_put (k := 1000) (j := 43) (o := some 1043) hiv (by decide) (ho_m hk_1043)
  refine lv_aload_n hx hb dX8_init_206 rfl (lv_at hl 0 rfl) ?_
  refine lv_bipush (v := 40) hx hb dX8_init_207 (by decide) ?_
  obtain ⟨hn9, hrf9, hz9, hiv9⟩ := iv_new hiv (a := 1044) (by decide) (by decide)
  refine w_newi hx hb (hts (.arrayClass .int) (by decide +kernel)) hK hW hS hA hn9 hrf9 hz9 hK1044 hN1044 rfl (by decide) (Nat.le_of_ble_eq_true rfl) (Nat.le_of_ble_eq_true rfl) dX8_init_209 (fun ad H hq hW hS => ?_)
  have hl : lv_has ls 1 [(0, .ref (ad 1000))] := by rw [hq 1000 (by decide)]; exact hl
  refine w_st (st' := [.ref (ad 1044), .ref (ad 1000)]) (by rw [hq 1000 (by decide)]) ?_
  have hqa : ∀ k, ¬ (k = 1002 ∨ k = 1003 ∨ k = 1004 ∨ k = 1005 ∨ k = 1006 ∨ k = 1008 ∨ k = 1009 ∨ k = 1010 ∨ k = 1011 ∨ k = 1012 ∨ k = 1013 ∨ k = 1014 ∨ k = 1015 ∨ k = 1016 ∨ k = 1017 ∨ k = 1018 ∨ k = 1019 ∨ k = 1020 ∨ k = 1027 ∨ k = 1028 ∨ k = 1029 ∨ k = 1030 ∨ k = 1031 ∨ k = 1042 ∨ k = 1043 ∨ k = 1044 ∨ k = 1045 ∨ k = 1046) → ad k = adS k := fun k hk => (hq k (fun e => hk (by subst e; decide))).trans (hqa k hk)
  have hk_1000 := mem_l (k := 1044) hk_1000
  have hk_1002 := mem_l (k := 1044) hk_1002
  have hk_1003 := mem_l (k := 1044) hk_1003
  have hk_1004 := mem_l (k := 1044) hk_1004
  have hk_1005 := mem_l (k := 1044) hk_1005
  have hk_1006 := mem_l (k := 1044) hk_1006
  have hk_1008 := mem_l (k := 1044) hk_1008
  have hk_1009 := mem_l (k := 1044) hk_1009
  have hk_1010 := mem_l (k := 1044) hk_1010
  have hk_1011 := mem_l (k := 1044) hk_1011
  have hk_1012 := mem_l (k := 1044) hk_1012
  have hk_1013 := mem_l (k := 1044) hk_1013
  have hk_1014 := mem_l (k := 1044) hk_1014
  have hk_1015 := mem_l (k := 1044) hk_1015
  have hk_1016 := mem_l (k := 1044) hk_1016
  have hk_1017 := mem_l (k := 1044) hk_1017
  have hk_1018 := mem_l (k := 1044) hk_1018
  have hk_1019 := mem_l (k := 1044) hk_1019
  have hk_1020 := mem_l (k := 1044) hk_1020
  have hk_1027 := mem_l (k := 1044) hk_1027
  have hk_1028 := mem_l (k := 1044) hk_1028
  have hk_1029 := mem_l (k := 1044) hk_1029
  have hk_1030 := mem_l (k := 1044) hk_1030
  have hk_1031 := mem_l (k := 1044) hk_1031
  have hk_1042 := mem_l (k := 1044) hk_1042
  have hk_1043 := mem_l (k := 1044) hk_1043
  have hk_1044 : 1044 ∈ (dm ++ [1002] ++ [1003] ++ [1004] ++ [1005] ++ [1006] ++ [1008] ++ [1009] ++ [1010] ++ [1011] ++ [1012] ++ [1013] ++ [1014] ++ [1015] ++ [1016] ++ [1017] ++ [1018] ++ [1019] ++ [1020] ++ [1027] ++ [1028] ++ [1029] ++ [1030] ++ [1031] ++ [1042] ++ [1043]) ++ [1044] := mem_r
  have hiv := hiv9
  refine w_putoF (ci := 9) (T := TX8) (ty := tyX8 44) hx hb hts hin_TX8 tyX8 tyX8_ok nmX8 hown hK hW hS hk_1000 hK1000 (by decide) rfl 44 (by decide) (hts (.fieldLink RX8 86 "TownClocksModel" "toldFirst" "[I") (by decide +kernel)) (fun _ h9 => h9) rfl hmn rfl (some 1044) (tyX8_ok 44 (by decide)) rfl rfl (Nat.le_of_ble_eq_true rfl) rfl dX8_init_211 (fun H locs hW hS => ?_)
  have hiv := iv_put (k := 1000) (j := 44) (o := some 1044) hiv (by decide) (ho_m hk_1044)
  refine lv_aload_n hx hb dX8_init_214 rfl (lv_at hl 0 rfl) ?_
  refine lv_bipush (v := 40) hx hb dX8_init_215 (by decide) ?_
  obtain ⟨hn9, hrf9, hz9, hiv9⟩ := iv_new hiv (a := 1045) (by decide) (by decide)
  refine w_newi hx hb (hts (.arrayClass .int) (by decide +kernel)) hK hW hS hA hn9 hrf9 hz9 hK1045 hN1045 rfl (by decide) (Nat.le_of_ble_eq_true rfl) (Nat.le_of_ble_eq_true rfl) dX8_init_217 (fun ad H hq hW hS => ?_)
  have hl : lv_has ls 1 [(0, .ref (ad 1000))] := by rw [hq 1000 (by decide)]; exact hl
  refine w_st (st' := [.ref (ad 1045), .ref (ad 1000)]) (by rw [hq 1000 (by decide)]) ?_
  have hqa : ∀ k, ¬ (k = 1002 ∨ k = 1003 ∨ k = 1004 ∨ k = 1005 ∨ k = 1006 ∨ k = 1008 ∨ k = 1009 ∨ k = 1010 ∨ k = 1011 ∨ k = 1012 ∨ k = 1013 ∨ k = 1014 ∨ k = 1015 ∨ k = 1016 ∨ k = 1017 ∨ k = 1018 ∨ k = 1019 ∨ k = 1020 ∨ k = 1027 ∨ k = 1028 ∨ k = 1029 ∨ k = 1030 ∨ k = 1031 ∨ k = 1042 ∨ k = 1043 ∨ k = 1044 ∨ k = 1045 ∨ k = 1046) → ad k = adS k := fun k hk => (hq k (fun e => hk (by subst e; decide))).trans (hqa k hk)
  have hk_1000 := mem_l (k := 1045) hk_1000
  have hk_1002 := mem_l (k := 1045) hk_1002
  have hk_1003 := mem_l (k := 1045) hk_1003
  have hk_1004 := mem_l (k := 1045) hk_1004
  have hk_1005 := mem_l (k := 1045) hk_1005
  have hk_1006 := mem_l (k := 1045) hk_1006
  have hk_1008 := mem_l (k := 1045) hk_1008
  have hk_1009 := mem_l (k := 1045) hk_1009
  have hk_1010 := mem_l (k := 1045) hk_1010
  have hk_1011 := mem_l (k := 1045) hk_1011
  have hk_1012 := mem_l (k := 1045) hk_1012
  have hk_1013 := mem_l (k := 1045) hk_1013
  have hk_1014 := mem_l (k := 1045) hk_1014
  have hk_1015 := mem_l (k := 1045) hk_1015
  have hk_1016 := mem_l (k := 1045) hk_1016
  have hk_1017 := mem_l (k := 1045) hk_1017
  have hk_1018 := mem_l (k := 1045) hk_1018
  have hk_1019 := mem_l (k := 1045) hk_1019
  have hk_1020 := mem_l (k := 1045) hk_1020
  have hk_1027 := mem_l (k := 1045) hk_1027
  have hk_1028 := mem_l (k := 1045) hk_1028
  have hk_1029 := mem_l (k := 1045) hk_1029
  have hk_1030 := mem_l (k := 1045) hk_1030
  have hk_1031 := mem_l (k := 1045) hk_1031
  have hk_1042 := mem_l (k := 1045) hk_1042
  have hk_1043 := mem_l (k := 1045) hk_1043
  have hk_1044 := mem_l (k := 1045) hk_1044
  have hk_1045 : 1045 ∈ (dm ++ [1002] ++ [1003] ++ [1004] ++ [1005] ++ [1006] ++ [1008] ++ [1009] ++ [1010] ++ [1011] ++ [1012] ++ [1013] ++ [1014] ++ [1015] ++ [1016] ++ [1017] ++ [1018] ++ [1019] ++ [1020] ++ [1027] ++ [1028] ++ [1029] ++ [1030] ++ [1031] ++ [1042] ++ [1043] ++ [1044]) ++ [1045] := mem_r
  have hiv := hiv9
  refine w_putoF (ci := 9) (T := TX8) (ty := tyX8 45) hx hb hts hin_TX8 tyX8 tyX8_ok nmX8 hown hK hW hS hk_1000 hK1000 (by decide) rfl 45 (by decide) (hts (.fieldLink RX8 89 "TownClocksModel" "toldSecond" "[I") (by decide +kernel)) (fun _ h9 => h9) rfl hmn rfl (some 1045) (tyX8_ok 45 (by decide)) rfl rfl (Nat.le_of_ble_eq_true rfl) rfl dX8_init_219 (fun H locs hW hS => ?_)
  have hiv := iv_put (k := 1000) (j := 45) (o := some 1045) hiv (by decide) (ho_m hk_1045)
  refine lv_aload_n hx hb dX8_init_222 rfl (lv_at hl 0 rfl) ?_
  refine lv_bipush (v := 16) hx hb dX8_init_223 (by decide) ?_
  obtain ⟨hn9, hrf9, hz9, hiv9⟩ := iv_new hiv (a := 1046) (by decide) (by decide)
  refine w_newi hx hb (hts (.arrayClass .int) (by decide +kernel)) hK hW hS hA hn9 hrf9 hz9 hK1046 hN1046 rfl (by decide) (Nat.le_of_ble_eq_true rfl) (Nat.le_of_ble_eq_true rfl) dX8_init_225 (fun ad H hq hW hS => ?_)
  have hl : lv_has ls 1 [(0, .ref (ad 1000))] := by rw [hq 1000 (by decide)]; exact hl
  refine w_st (st' := [.ref (ad 1046), .ref (ad 1000)]) (by rw [hq 1000 (by decide)]) ?_
  have hqa : ∀ k, ¬ (k = 1002 ∨ k = 1003 ∨ k = 1004 ∨ k = 1005 ∨ k = 1006 ∨ k = 1008 ∨ k = 1009 ∨ k = 1010 ∨ k = 1011 ∨ k = 1012 ∨ k = 1013 ∨ k = 1014 ∨ k = 1015 ∨ k = 1016 ∨ k = 1017 ∨ k = 1018 ∨ k = 1019 ∨ k = 1020 ∨ k = 1027 ∨ k = 1028 ∨ k = 1029 ∨ k = 1030 ∨ k = 1031 ∨ k = 1042 ∨ k = 1043 ∨ k = 1044 ∨ k = 1045 ∨ k = 1046) → ad k = adS k := fun k hk => (hq k (fun e => hk (by subst e; decide))).trans (hqa k hk)
  have hk_1000 := mem_l (k := 1046) hk_1000
  have hk_1002 := mem_l (k := 1046) hk_1002
  have hk_1003 := mem_l (k := 1046) hk_1003
  have hk_1004 := mem_l (k := 1046) hk_1004
  have hk_1005 := mem_l (k := 1046) hk_1005
  have hk_1006 := mem_l (k := 1046) hk_1006
  have hk_1008 := mem_l (k := 1046) hk_1008
  have hk_1009 := mem_l (k := 1046) hk_1009
  have hk_1010 := mem_l (k := 1046) hk_1010
  have hk_1011 := mem_l (k := 1046) hk_1011
  have hk_1012 := mem_l (k := 1046) hk_1012
  have hk_1013 := mem_l (k := 1046) hk_1013
  have hk_1014 := mem_l (k := 1046) hk_1014
  have hk_1015 := mem_l (k := 1046) hk_1015
  have hk_1016 := mem_l (k := 1046) hk_1016
  have hk_1017 := mem_l (k := 1046) hk_1017
  have hk_1018 := mem_l (k := 1046) hk_1018
  have hk_1019 := mem_l (k := 1046) hk_1019
  have hk_1020 := mem_l (k := 1046) hk_1020
  have hk_1027 := mem_l (k := 1046) hk_1027
  have hk_1028 := mem_l (k := 1046) hk_1028
  have hk_1029 := mem_l (k := 1046) hk_1029
  have hk_1030 := mem_l (k := 1046) hk_1030
  have hk_1031 := mem_l (k := 1046) hk_1031
  have hk_1042 := mem_l (k := 1046) hk_1042
  have hk_1043 := mem_l (k := 1046) hk_1043
  have hk_1044 := mem_l (k := 1046) hk_1044
  have hk_1045 := mem_l (k := 1046) hk_1045
  have hk_1046 : 1046 ∈ (dm ++ [1002] ++ [1003] ++ [1004] ++ [1005] ++ [1006] ++ [1008] ++ [1009] ++ [1010] ++ [1011] ++ [1012] ++ [1013] ++ [1014] ++ [1015] ++ [1016] ++ [1017] ++ [1018] ++ [1019] ++ [1020] ++ [1027] ++ [1028] ++ [1029] ++ [1030] ++ [1031] ++ [1042] ++ [1043] ++ [1044] ++ [1045]) ++ [1046] := mem_r
  have hiv := hiv9
  refine w_putoF (ci := 9) (T := TX8) (ty := tyX8 46) hx hb hts hin_TX8 tyX8 tyX8_ok nmX8 hown hK hW hS hk_1000 hK1000 (by decide) rfl 46 (by decide) (hts (.fieldLink RX8 92 "TownClocksModel" "trace" "[I") (by decide +kernel)) (fun _ h9 => h9) rfl hmn rfl (some 1046) (tyX8_ok 46 (by decide)) rfl rfl (Nat.le_of_ble_eq_true rfl) rfl dX8_init_227 (fun H locs hW hS => ?_)
  have hiv := iv_put (k := 1000) (j := 46) (o := some 1046) hiv (by decide) (ho_m hk_1046)
  exact w_vretG hx hb hr hlk hW hS hqa dX8_init_230
