theorem m_air_ne {k : Nat} (h : k ≠ 1006) : ∀ {n i : Nat} {V : Mv}, m_air n i V k = V k
  | 0, _, _ => rfl
  | n + 1, i, V => by rw [m_air, m_air_ne h, u2_ne h]
theorem m_airB_ne {one l2 : Int32} {k : Nat} (h : k ≠ 1006) : ∀ {n i : Nat} {V : Mv}, m_airB one l2 n i V k = V k
  | 0, _, _ => rfl
  | n + 1, i, V => by rw [m_airB, m_airB_ne h, u2_ne h]
def m_told (V : Mv) (nP : Nat) (x v : Int32) : Int32 := if inx nP x then (if 0 ≤ v ∧ v ≤ 2 then (if v = 0 then m_air nP 0 (u2 V 1000 0 0) 1006 x.toNatClampNeg else if v = 1 then m_lag (m_air nP 0 (u2 V 1000 0 0)) (x.toNatClampNeg + 1) x.toNatClampNeg 0 else V 1005 x.toNatClampNeg) else -1000001) else -1000001
def m_toldV (V : Mv) (nP : Nat) (x v : Int32) : Mv := if inx nP x then (if 0 ≤ v ∧ v ≤ 2 then m_air nP 0 (u2 V 1000 0 0) else u2 V 1000 0 0) else u2 V 1000 0 0
def m_ahead (V : Mv) (nD : Nat) (x : Int32) : Int32 := if inx nD x then (if m_kind V x.toNatClampNeg = 1 then (m_lag (u2 V 1000 0 0) ((V 1008 x.toNatClampNeg).toNatClampNeg + 1) (V 1008 x.toNatClampNeg).toNatClampNeg 0 + 9) / 10 * 10 else if m_kind V x.toNatClampNeg = 2 then (m_lag (u2 V 1000 0 0) ((V 1008 x.toNatClampNeg).toNatClampNeg + 1) (V 1008 x.toNatClampNeg).toNatClampNeg 0 + 9) / 10 * 10 else -1000004) else -1000001
def m_p0 (V : Mv) (i : Nat) : Mv := u2 (u2 (u2 (u2 V 1015 i 0) 1011 i (V 1011 i + 0)) 1012 i 0) 1014 i (V 1014 i + 1)
def m_p1 (V : Mv) (i : Nat) : Mv := u2 (u2 (u2 (u2 V 1015 i 1) 1011 i (V 1011 i + 1)) 1012 i (V 1012 i + 1)) 1014 i (V 1014 i + 1)
def m_o1 (V W0 : Mv) (i : Nat) (mi : Int32) : Mv := if V 1017 i = 1 then u2 W0 1020 i (W0 1020 i + V 1018 i) else if V 1017 i = 2 then (if mi = 0 then u2 W0 1020 i (W0 1020 i + V 1018 i) else W0) else W0
def m_o2 (V W0 : Mv) (i : Nat) (lt : Int32) : Mv := if V 1017 i = 3 then (if V 1018 i ≤ lt then W0 else u2 W0 1020 i (W0 1020 i + V 1019 i)) else W0
def m_st (V : Mv) (i : Nat) : Mv := if V 1009 i ≤ V 1006 (V 1008 i).toNatClampNeg then m_o2 V (m_o1 V (m_p0 V i) i 0) i (V 1011 i + 0) else m_o2 V (m_o1 V (m_p1 V i) i 1) i (V 1011 i + 1)
def m_puffL : Nat → Nat → Mv → Int32 → Mv × Int32
  | 0, _, V, a => (V, a)
  | n + 1, i, V, a => m_puffL n (i + 1) (m_st V i) (if V 1009 i ≤ V 1006 (V 1008 i).toNatClampNeg then a + 0 else a + 1)
def m_puffR (V : Mv) (nP nD : Nat) : Int32 := if V 1000 21 = 100000 then -1000002 else (m_puffL nD 0 (m_air nP 0 (u2 (u2 V 1000 0 0) 1000 21 (V 1000 21 + 1))) 0).2
def m_puffRV (V : Mv) (nP nD : Nat) : Mv := if V 1000 21 = 100000 then u2 V 1000 0 0 else (m_puffL nD 0 (m_air nP 0 (u2 (u2 V 1000 0 0) 1000 21 (V 1000 21 + 1))) 0).1
def m_puffRJ (V : Mv) (J : Mj) : Mj := if V 1000 21 = 100000 then J else u2 J 1000 23 (J 1000 23 + (V 1000 22).toInt64)
def m_markV (V : Mv) (nD : Nat) (x v : Int32) : Mv := if inx nD x then (if 0 ≤ v ∧ v ≤ 1 then u2 (u2 V 1000 0 0) 1016 x.toNatClampNeg (if v = 1 then 1 else 0) else u2 V 1000 0 0) else u2 V 1000 0 0
theorem m_markV_7 {V : Mv} {nD : Nat} {x v : Int32} : m_markV V nD x v 1000 7 = V 1000 7 := by
  unfold m_markV
  split
  · split <;> rfl
  · rfl
def m_mark (V : Mv) (nD : Nat) (x v : Int32) : Int32 := if inx nD x then (if 0 ≤ v ∧ v ≤ 1 then lpI (fun i a => if m_markV V nD x v 1016 i = 0 then a + 0 else a + 1) nD 0 0 else -1000001) else -1000001
def m_mw (V : Mv) : Nat → Nat → Int32 → Int32
  | 0, _, b => b
  | n + 1, i, b => if V 1011 i = 0 then m_mw V n (i + 1) b else if b = -1000000 then m_mw V n (i + 1) (nI i) else if m_size (V 1011 i) ≤ m_size (V 1011 b.toNatClampNeg) then m_mw V n (i + 1) b else m_mw V n (i + 1) (nI i)
def m_roundL (nD : Nat) : Nat → Mv → Int32 → Mv × Int32
  | 0, V, a => (V, a)
  | n + 1, V, a => if m_mw V nD 0 (-1000000) = -1000000 then (V, a) else m_roundL nD n (m_rt V (m_mw V nD 0 (-1000000)).toNatClampNeg) (a + 1)
def m_round (V : Mv) (nD : Nat) (x : Int32) : Int32 := if 1 ≤ x ∧ x ≤ 10 then (m_roundL nD x.toNatClampNeg (u2 V 1000 0 0) 0).2 else -1000001
def m_roundV (V : Mv) (nD : Nat) (x : Int32) : Mv := if 1 ≤ x ∧ x ≤ 10 then (m_roundL nD x.toNatClampNeg (u2 V 1000 0 0) 0).1 else u2 V 1000 0 0
set_option maxHeartbeats 4000000 in
set_option maxRecDepth 100000 in
theorem c_X8_told {X : (Nat → Prop) → State → Prop} (hxo : xok X) (l : Launch) (D : va_G) (q : Cq) {dm : List Nat} {kd ln ad : Nat → Nat} (V : Mv) (J : Mj) (R : Mr) (nP nD : Nat) (x v : Int32) (hM : okM dm kd ln R) (hmp : V 1000 1 = nI nP) (hnP : nP ≤ 30) (hmq : V 1000 7 = nI nD) (hnD : nD ≤ 40) (hpar : ∀ i, i < nP → V 1002 i = -1000000 ∨ ∃ j, j < i ∧ V 1002 i = nI j) : CtI X l yX8_told wsX8_told ({ frames := 2, cells := 0, slots := 0, locals := 46 }) D q dm kd ln ad V J R [.ref (ad 1000), .int x, .int v] (m_told V nP x v) (m_toldV V nP x v) (J) (R) := by
  refine CtI_of (cc := cX8_told) (maxL := 3) (ret := (some .int)) (by decide +kernel) rfl (Nat.le_of_ble_eq_true rfl) ?_
  intro p e s m below meth c A hx hb hr hml hts hown hlk hmn hK hW hA hXs ls hl
  have hS : va_S A s.heap s.heap [] := va_S.rf
  have hl : lv_has ls 3 [(0, .ref (ad 1000)), (1, .int x), (2, .int v)] := hl
  have hin_TX8 : ∀ w ∈ u_ws RX8 TX8 48, w ∈ wsX8_told := by decide +kernel
  refine lv_aload_n hx hb dX8_told_0 rfl (lv_at hl 0 rfl) ?_
  refine lv_iconst (v := 0) hx hb dX8_told_1 (by decide) ?_
  refine w_puti (ci := 9) (T := TX8) (ty := .int) hx hb hts hin_TX8 tyX8 tyX8_ok nmX8 hown hK hW hS hM.1.1 hM.1.2 (by decide) rfl 0 (by decide) (hts (.fieldLink RX8 95 "TownClocksModel" "thrown" "I") (by decide +kernel)) (fun _ h9 => h9) rfl (tyX8_ok 0 (by decide)) rfl rfl (Nat.le_of_ble_eq_true rfl) rfl dX8_told_2 (fun H locs hW hS => ?_)
  refine lv_aload_n hx hb dX8_told_5 rfl (lv_at hl 0 rfl) ?_
  refine lv_iload_n hx hb dX8_told_6 rfl (lv_at hl 1 rfl) ?_
  refine w_ci (w_runV ⟨hx, hb, hml, hown, hts⟩ (c_X8_isPipe hxo l D q (u2 V 1000 0 0) J R nP x hM (by rw [u2_sn (by decide)]; exact hmp) hnP) hxo (cwV 1 hts gX8_told_X8_isPipe rfl rfl rfl (by decide +kernel) ⟨Nat.le_of_ble_eq_true rfl, Nat.le_of_ble_eq_true rfl⟩) hK hW hS hA hXs (w_rcv hK hW hM.1.1 hM.1.2 (by decide) rfl) rfl hl.1 rfl (Nat.le_of_ble_eq_true rfl) dX8_told_7 ⟨Nat.zero_le _, Nat.zero_le _⟩) hW hS hA (fun H locs hW hS => ?_)
  refine w_ifz (tgt := 25) hx hb dX8_told_10 (by decide) (fun c_10 => ?_) (fun c_10 => ?_)
  · refine lv_ldc (v := -1000001) hx hb hown (hts (.constant RX8 115 (-1000001)) (by decide +kernel)) dX8_told_25 ?_
    exact w_iret hx hb hr hlk hW hS (by simp only [m_told, m_toldV, if_neg c_10]; first | done | (rw [m_air_ne (by decide)]; rfl)) (by first | rfl | (simp only [m_told, m_toldV, if_neg c_10, c_10, ↓reduceIte]; done) | simp [bz, m_told, m_toldV, if_neg c_10, c_10]) rfl rfl dX8_told_27
  · refine lv_iload_n hx hb dX8_told_13 rfl (lv_at hl 2 rfl) ?_
    refine lv_i2l hx hb dX8_told_14 rfl ?_
    refine lv_lconst (v := 0) hx hb dX8_told_15 (by decide) ?_
    refine lv_ldc2 (v := 2) hx hb hown (hts (.constantLong RX8 119 (2)) (by decide +kernel)) dX8_told_16 ?_
    refine w_ci (w_runS ⟨hx, hb, hml, hown, hts⟩ (c_X8_in hxo l D q (u2 V 1000 0 0) J R v.toInt64 0 2 ) hxo (va_cwS 3 hts gX8_told_X8_in rfl rfl rfl (by decide +kernel) ⟨Nat.le_of_ble_eq_true rfl, Nat.le_of_ble_eq_true rfl⟩) hK hW hS hA hXs rfl hl.1 rfl (Nat.le_of_ble_eq_true rfl) dX8_told_19 ⟨Nat.zero_le _, Nat.zero_le _⟩) hW hS hA (fun H locs hW hS => ?_)
    refine w_i (bz_iff (wid_l (c := 0) (d := 2) (by decide) (by decide))) ?_
    refine w_ifnz (tgt := 28) hx hb dX8_told_22 (by decide) (fun c_22 => ?_) (fun c_22 => ?_)
    · refine lv_aload_n hx hb dX8_told_28 rfl (lv_at hl 0 rfl) ?_
      refine w_cv (w_runV ⟨hx, hb, hml, hown, hts⟩ (c_X8_findAir hxo l D q (u2 V 1000 0 0) J R nP nD hM (by rw [u2_sn (by decide)]; exact hmp) hnP (by rw [u2_sn (by decide)]; exact hmq) hnD hpar) hxo (cwV 0 hts gX8_told_X8_findAir rfl rfl rfl (by decide +kernel) ⟨Nat.le_of_ble_eq_true rfl, Nat.le_of_ble_eq_true rfl⟩) hK hW hS hA hXs (w_rcv hK hW hM.1.1 hM.1.2 (by decide) rfl) rfl hl.1 rfl (Nat.le_of_ble_eq_true rfl) dX8_told_29 ⟨Nat.zero_le _, Nat.zero_le _⟩) hW hS hA (fun H locs hW hS => ?_)
      refine lv_iload_n hx hb dX8_told_32 rfl (lv_at hl 2 rfl) ?_
      refine lv_if_ne (tgt := 45) hx hb dX8_told_33 (by decide) (fun c_33 => ?_) (fun c_33 => ?_)
      · refine lv_iload_n hx hb dX8_told_45 rfl (lv_at hl 2 rfl) ?_
        refine lv_iconst (v := 1) hx hb dX8_told_46 (by decide) ?_
        refine lv_icmp_ne (tgt := 58) hx hb dX8_told_47 (by decide) (fun c_47 => ?_) (fun c_47 => ?_)
        · refine lv_aload_n hx hb dX8_told_58 rfl (lv_at hl 0 rfl) ?_
          refine w_getr (ci := 9) (T := TX8) hx hb hts hin_TX8 hown hK hW hM.1.1 hM.1.2 (by decide) rfl 5 (by decide) (hts (.fieldLink RX8 19 "TownClocksModel" "leak" "[I") (by decide +kernel)) (fun _ h9 => h9) rfl (mo_5 hM).2.2.2 dX8_told_59 ?_
          refine lv_iload_n hx hb dX8_told_62 rfl (lv_at hl 1 rfl) ?_
          refine w_iald hx hb hK hW (mo_5 hM).1 (mo_5 hM).2.1 (by rw [(mo_5 hM).2.2.1]; exact inx_v.mpr ⟨c_10.1, by have h9 := c_10.2; show _ < ((30 : Nat) : Int); omega⟩) dX8_told_63 ?_
          exact w_iret hx hb hr hlk hW hS (by simp only [m_told, m_toldV, if_pos c_10, if_pos c_22, if_neg c_33, if_neg c_47]; first | done | (rw [m_air_ne (by decide)]; rfl)) (by first | rfl | (simp only [m_told, m_toldV, if_pos c_10, if_pos c_22, if_neg c_33, if_neg c_47, c_10, c_22, c_33, c_47, ↓reduceIte]; done) | simp [bz, m_told, m_toldV, if_pos c_10, if_pos c_22, if_neg c_33, if_neg c_47, c_10, c_22, c_33, c_47]) rfl rfl dX8_told_64
        · refine lv_aload_n hx hb dX8_told_50 rfl (lv_at hl 0 rfl) ?_
          refine lv_iload_n hx hb dX8_told_51 rfl (lv_at hl 1 rfl) ?_
          refine w_i (inx_e c_10) ?_
          refine w_ci (w_runV ⟨hx, hb, hml, hown, hts⟩ (c_X8_lagOf hxo l D q (m_air nP 0 (u2 V 1000 0 0)) J R nP nD x.toNatClampNeg hM (by rw [m_air_ne (by decide)]; exact hmp) hnP (by rw [m_air_ne (by decide)]; exact hmq) hnD (inx_c c_10).1 (fun i hi => by rw [m_air_ne (by decide)]; exact hpar i hi)) hxo (cwV 1 hts gX8_told_X8_lagOf rfl rfl rfl (by decide +kernel) ⟨Nat.le_of_ble_eq_true rfl, Nat.le_of_ble_eq_true rfl⟩) hK hW hS hA hXs (w_rcv hK hW hM.1.1 hM.1.2 (by decide) rfl) rfl hl.1 rfl (Nat.le_of_ble_eq_true rfl) dX8_told_52 ⟨Nat.zero_le _, Nat.zero_le _⟩) hW hS hA (fun H locs hW hS => ?_)
          refine lv_goto (tgt := 64) hx hb dX8_told_55 (by decide) ?_
          exact w_iret hx hb hr hlk hW hS (by simp only [m_told, m_toldV, if_pos c_10, if_pos c_22, if_neg c_33, if_pos c_47]; first | done | (rw [m_air_ne (by decide)]; rfl)) (by first | rfl | (simp only [m_told, m_toldV, if_pos c_10, if_pos c_22, if_neg c_33, if_pos c_47, c_10, c_22, c_33, c_47, ↓reduceIte]; done) | simp [bz, m_told, m_toldV, if_pos c_10, if_pos c_22, if_neg c_33, if_pos c_47, c_10, c_22, c_33, c_47]) rfl rfl dX8_told_64
      · refine lv_aload_n hx hb dX8_told_36 rfl (lv_at hl 0 rfl) ?_
        refine w_getr (ci := 9) (T := TX8) hx hb hts hin_TX8 hown hK hW hM.1.1 hM.1.2 (by decide) rfl 6 (by decide) (hts (.fieldLink RX8 22 "TownClocksModel" "air" "[I") (by decide +kernel)) (fun _ h9 => h9) rfl (mo_6 hM).2.2.2 dX8_told_37 ?_
        refine lv_iload_n hx hb dX8_told_40 rfl (lv_at hl 1 rfl) ?_
        refine w_iald hx hb hK hW (mo_6 hM).1 (mo_6 hM).2.1 (by rw [(mo_6 hM).2.2.1]; exact inx_v.mpr ⟨c_10.1, by have h9 := c_10.2; show _ < ((30 : Nat) : Int); omega⟩) dX8_told_41 ?_
        refine lv_goto (tgt := 64) hx hb dX8_told_42 (by decide) ?_
        exact w_iret hx hb hr hlk hW hS (by simp only [m_told, m_toldV, if_pos c_10, if_pos c_22, if_pos c_33]; first | done | (rw [m_air_ne (by decide)]; rfl)) (by first | rfl | (simp only [m_told, m_toldV, if_pos c_10, if_pos c_22, if_pos c_33, c_10, c_22, c_33, ↓reduceIte]; done) | simp [bz, m_told, m_toldV, if_pos c_10, if_pos c_22, if_pos c_33, c_10, c_22, c_33]) rfl rfl dX8_told_64
    · refine lv_ldc (v := -1000001) hx hb hown (hts (.constant RX8 115 (-1000001)) (by decide +kernel)) dX8_told_25 ?_
      exact w_iret hx hb hr hlk hW hS (by simp only [m_told, m_toldV, if_pos c_10, if_neg c_22]; first | done | (rw [m_air_ne (by decide)]; rfl)) (by first | rfl | (simp only [m_told, m_toldV, if_pos c_10, if_neg c_22, c_10, c_22, ↓reduceIte]; done) | simp [bz, m_told, m_toldV, if_pos c_10, if_neg c_22, c_10, c_22]) rfl rfl dX8_told_27
set_option maxHeartbeats 4000000 in
set_option maxRecDepth 100000 in
theorem c_X8_ahead {X : (Nat → Prop) → State → Prop} (hxo : xok X) (l : Launch) (D : va_G) (q : Cq) {dm : List Nat} {kd ln ad : Nat → Nat} (V : Mv) (J : Mj) (R : Mr) (nP nD : Nat) (x : Int32) (hM : okM dm kd ln R) (hmp : V 1000 1 = nI nP) (hnP : nP ≤ 30) (hmq : V 1000 7 = nI nD) (hnD : nD ≤ 40) (hpar : ∀ i, i < nP → V 1002 i = -1000000 ∨ ∃ j, j < i ∧ V 1002 i = nI j) (hon : ∀ d, d < nD → inx nP (V 1008 d)) : CtI X l yX8_ahead wsX8_ahead ({ frames := 2, cells := 0, slots := 0, locals := 46 }) D q dm kd ln ad V J R [.ref (ad 1000), .int x] (m_ahead V nD x) (u2 V 1000 0 0) (J) (R) := by
  refine CtI_of (cc := cX8_ahead) (maxL := 3) (ret := (some .int)) (by decide +kernel) rfl (Nat.le_of_ble_eq_true rfl) ?_
  intro p e s m below meth c A hx hb hr hml hts hown hlk hmn hK hW hA hXs ls hl
  have hS : va_S A s.heap s.heap [] := va_S.rf
  have hl : lv_has ls 3 [(0, .ref (ad 1000)), (1, .int x)] := hl
  have hin_TX8 : ∀ w ∈ u_ws RX8 TX8 48, w ∈ wsX8_ahead := by decide +kernel
  refine lv_aload_n hx hb dX8_ahead_0 rfl (lv_at hl 0 rfl) ?_
  refine lv_iconst (v := 0) hx hb dX8_ahead_1 (by decide) ?_
  refine w_puti (ci := 9) (T := TX8) (ty := .int) hx hb hts hin_TX8 tyX8 tyX8_ok nmX8 hown hK hW hS hM.1.1 hM.1.2 (by decide) rfl 0 (by decide) (hts (.fieldLink RX8 95 "TownClocksModel" "thrown" "I") (by decide +kernel)) (fun _ h9 => h9) rfl (tyX8_ok 0 (by decide)) rfl rfl (Nat.le_of_ble_eq_true rfl) rfl dX8_ahead_2 (fun H locs hW hS => ?_)
  refine lv_aload_n hx hb dX8_ahead_5 rfl (lv_at hl 0 rfl) ?_
  refine lv_iload_n hx hb dX8_ahead_6 rfl (lv_at hl 1 rfl) ?_
  refine w_ci (w_runV ⟨hx, hb, hml, hown, hts⟩ (c_X8_isDial hxo l D q (u2 V 1000 0 0) J R nD x hM (by rw [u2_sn (by decide)]; exact hmq) hnD) hxo (cwV 1 hts gX8_ahead_X8_isDial rfl rfl rfl (by decide +kernel) ⟨Nat.le_of_ble_eq_true rfl, Nat.le_of_ble_eq_true rfl⟩) hK hW hS hA hXs (w_rcv hK hW hM.1.1 hM.1.2 (by decide) rfl) rfl hl.1 rfl (Nat.le_of_ble_eq_true rfl) dX8_ahead_7 ⟨Nat.zero_le _, Nat.zero_le _⟩) hW hS hA (fun H locs hW hS => ?_)
  refine w_ifnz (tgt := 16) hx hb dX8_ahead_10 (by decide) (fun c_10 => ?_) (fun c_10 => ?_)
  · refine lv_aload_n hx hb dX8_ahead_16 rfl (lv_at hl 0 rfl) ?_
    refine lv_iload_n hx hb dX8_ahead_17 rfl (lv_at hl 1 rfl) ?_
    refine w_ci (w_runV ⟨hx, hb, hml, hown, hts⟩ (c_X8_kindOf hxo l D q (u2 V 1000 0 0) J R x hM ⟨c_10.1, by have h9 := c_10.2; show _ < ((40 : Nat) : Int); omega⟩) hxo (cwV 1 hts gX8_ahead_X8_kindOf rfl rfl rfl (by decide +kernel) ⟨Nat.le_of_ble_eq_true rfl, Nat.le_of_ble_eq_true rfl⟩) hK hW hS hA hXs (w_rcv hK hW hM.1.1 hM.1.2 (by decide) rfl) rfl hl.1 rfl (Nat.le_of_ble_eq_true rfl) dX8_ahead_18 ⟨Nat.zero_le _, Nat.zero_le _⟩) hW hS hA (fun H locs hW hS => ?_)
    refine w_i (m_kind0 rfl) ?_
    refine lv_istore_n (lv' := [(2, .int (m_kind V x.toNatClampNeg)), (0, .ref (ad 1000)), (1, .int x)]) hx hb dX8_ahead_21 rfl hl (by decide) rfl (fun ls hl => ?_)
    refine lv_iload_n hx hb dX8_ahead_22 rfl (lv_at hl 0 rfl) ?_
    refine lv_iconst (v := 1) hx hb dX8_ahead_23 (by decide) ?_
    refine lv_icmp_eq (tgt := 37) hx hb dX8_ahead_24 (by decide) (fun c_24 => ?_) (fun c_24 => ?_)
    · refine lv_aload_n hx hb dX8_ahead_37 rfl (lv_at hl 1 rfl) ?_
      refine lv_aload_n hx hb dX8_ahead_38 rfl (lv_at hl 1 rfl) ?_
      refine w_getr (ci := 9) (T := TX8) hx hb hts hin_TX8 hown hK hW hM.1.1 hM.1.2 (by decide) rfl 8 (by decide) (hts (.fieldLink RX8 25 "TownClocksModel" "on" "[I") (by decide +kernel)) (fun _ h9 => h9) rfl (mo_8 hM).2.2.2 dX8_ahead_39 ?_
      refine lv_iload_n hx hb dX8_ahead_42 rfl (lv_at hl 2 rfl) ?_
      refine w_iald hx hb hK hW (mo_8 hM).1 (mo_8 hM).2.1 (by rw [(mo_8 hM).2.2.1]; exact inx_v.mpr ⟨c_10.1, by have h9 := c_10.2; show _ < ((40 : Nat) : Int); omega⟩) dX8_ahead_43 ?_
      refine w_i (by rw [u2_ne (by decide)]) ?_
      refine w_i (inx_e (hon _ (inx_c c_10).1)) ?_
      refine w_ci (w_runV ⟨hx, hb, hml, hown, hts⟩ (c_X8_lagOf hxo l D q (u2 V 1000 0 0) J R nP nD ((V 1008 x.toNatClampNeg).toNatClampNeg) hM (by rw [u2_sn (by decide)]; exact hmp) hnP (by rw [u2_sn (by decide)]; exact hmq) hnD (inx_c (hon _ (inx_c c_10).1)).1 hpar) hxo (cwV 1 hts gX8_ahead_X8_lagOf rfl rfl rfl (by decide +kernel) ⟨Nat.le_of_ble_eq_true rfl, Nat.le_of_ble_eq_true rfl⟩) hK hW hS hA hXs (w_rcv hK hW hM.1.1 hM.1.2 (by decide) rfl) rfl hl.1 rfl (Nat.le_of_ble_eq_true rfl) dX8_ahead_44 ⟨Nat.zero_le _, Nat.zero_le _⟩) hW hS hA (fun H locs hW hS => ?_)
      refine lv_bipush (v := 9) hx hb dX8_ahead_47 (by decide) ?_
      refine lv_iadd hx hb dX8_ahead_49 ?_
      refine lv_bipush (v := 10) hx hb dX8_ahead_50 (by decide) ?_
      refine lv_idiv hx hb dX8_ahead_52 (by decide) ?_
      refine lv_bipush (v := 10) hx hb dX8_ahead_53 (by decide) ?_
      refine lv_imul hx hb dX8_ahead_55 ?_
      exact w_iret hx hb hr hlk hW hS (by simp only [m_ahead, if_pos c_10, if_pos c_24]; first | done | rfl) rfl rfl rfl dX8_ahead_56
    · refine lv_iload_n hx hb dX8_ahead_27 rfl (lv_at hl 0 rfl) ?_
      refine lv_iconst (v := 2) hx hb dX8_ahead_28 (by decide) ?_
      refine lv_icmp_eq (tgt := 37) hx hb dX8_ahead_29 (by decide) (fun c_29 => ?_) (fun c_29 => ?_)
      · refine lv_aload_n hx hb dX8_ahead_37 rfl (lv_at hl 1 rfl) ?_
        refine lv_aload_n hx hb dX8_ahead_38 rfl (lv_at hl 1 rfl) ?_
        refine w_getr (ci := 9) (T := TX8) hx hb hts hin_TX8 hown hK hW hM.1.1 hM.1.2 (by decide) rfl 8 (by decide) (hts (.fieldLink RX8 25 "TownClocksModel" "on" "[I") (by decide +kernel)) (fun _ h9 => h9) rfl (mo_8 hM).2.2.2 dX8_ahead_39 ?_
        refine lv_iload_n hx hb dX8_ahead_42 rfl (lv_at hl 2 rfl) ?_
        refine w_iald hx hb hK hW (mo_8 hM).1 (mo_8 hM).2.1 (by rw [(mo_8 hM).2.2.1]; exact inx_v.mpr ⟨c_10.1, by have h9 := c_10.2; show _ < ((40 : Nat) : Int); omega⟩) dX8_ahead_43 ?_
        refine w_i (by rw [u2_ne (by decide)]) ?_
        refine w_i (inx_e (hon _ (inx_c c_10).1)) ?_
        refine w_ci (w_runV ⟨hx, hb, hml, hown, hts⟩ (c_X8_lagOf hxo l D q (u2 V 1000 0 0) J R nP nD ((V 1008 x.toNatClampNeg).toNatClampNeg) hM (by rw [u2_sn (by decide)]; exact hmp) hnP (by rw [u2_sn (by decide)]; exact hmq) hnD (inx_c (hon _ (inx_c c_10).1)).1 hpar) hxo (cwV 1 hts gX8_ahead_X8_lagOf rfl rfl rfl (by decide +kernel) ⟨Nat.le_of_ble_eq_true rfl, Nat.le_of_ble_eq_true rfl⟩) hK hW hS hA hXs (w_rcv hK hW hM.1.1 hM.1.2 (by decide) rfl) rfl hl.1 rfl (Nat.le_of_ble_eq_true rfl) dX8_ahead_44 ⟨Nat.zero_le _, Nat.zero_le _⟩) hW hS hA (fun H locs hW hS => ?_)
        refine lv_bipush (v := 9) hx hb dX8_ahead_47 (by decide) ?_
        refine lv_iadd hx hb dX8_ahead_49 ?_
        refine lv_bipush (v := 10) hx hb dX8_ahead_50 (by decide) ?_
        refine lv_idiv hx hb dX8_ahead_52 (by decide) ?_
        refine lv_bipush (v := 10) hx hb dX8_ahead_53 (by decide) ?_
        refine lv_imul hx hb dX8_ahead_55 ?_
        exact w_iret hx hb hr hlk hW hS (by simp only [m_ahead, if_pos c_10, if_neg c_24, if_pos c_29]; first | done | rfl) rfl rfl rfl dX8_ahead_56
      · refine lv_ldc (v := -1000004) hx hb hown (hts (.constant RX8 174 (-1000004)) (by decide +kernel)) dX8_ahead_32 ?_
        refine lv_goto (tgt := 56) hx hb dX8_ahead_34 (by decide) ?_
        exact w_iret hx hb hr hlk hW hS (by simp only [m_ahead, if_pos c_10, if_neg c_24, if_neg c_29]; first | done | rfl) rfl rfl rfl dX8_ahead_56
  · refine lv_ldc (v := -1000001) hx hb hown (hts (.constant RX8 115 (-1000001)) (by decide +kernel)) dX8_ahead_13 ?_
    exact w_iret hx hb hr hlk hW hS (by simp only [m_ahead, if_neg c_10]; first | done | rfl) rfl rfl rfl dX8_ahead_15
set_option maxHeartbeats 4000000 in
set_option maxRecDepth 100000 in
theorem c_X8_puff {X : (Nat → Prop) → State → Prop} (hxo : xok X) (l : Launch) (D : va_G) (q : Cq) {dm : List Nat} {kd ln ad : Nat → Nat} (V : Mv) (J : Mj) (R : Mr) (nP nD : Nat)  (hM : okM dm kd ln R) (hmp : V 1000 1 = nI nP) (hnP : nP ≤ 30) (hmq : V 1000 7 = nI nD) (hnD : nD ≤ 40) (hpar : ∀ i, i < nP → V 1002 i = -1000000 ∨ ∃ j, j < i ∧ V 1002 i = nI j) (hon : ∀ d, d < nD → inx nP (V 1008 d)) : CtI X l yX8_puff wsX8_puff ({ frames := 1, cells := 0, slots := 0, locals := 22 }) D q dm kd ln ad V J R [.ref (ad 1000)] (m_puffR V nP nD) (m_puffRV V nP nD) (m_puffRJ V J) (R) := by
  refine CtI_of (cc := cX8_puff) (maxL := 3) (ret := (some .int)) (by decide +kernel) rfl (Nat.le_of_ble_eq_true rfl) ?_
  intro p e s m below meth c A hx hb hr hml hts hown hlk hmn hK hW hA hXs ls hl
  have hS : va_S A s.heap s.heap [] := va_S.rf
  have hl : lv_has ls 3 [(0, .ref (ad 1000))] := hl
  have hin_TX8 : ∀ w ∈ u_ws RX8 TX8 48, w ∈ wsX8_puff := by decide +kernel
  obtain ⟨F, hFe⟩ : ∃ r, r = m_puffL nD 0 (m_air nP 0 (u2 (u2 V 1000 0 0) 1000 21 (V 1000 21 + 1))) 0 := ⟨_, rfl⟩
  have JL : ∀ n : Nat, ∀ (i : Nat) (Vw : Mv) (a : Int32) (hn : i + n = nD) (hmqW : Vw 1000 7 = nI nD) (honW : ∀ d, d < nD → inx nP (Vw 1008 d)) (hF : m_puffL n i Vw a = F) (hc11 : ¬ V 1000 21 = 100000) (H : Heap) (locs : List Loc) (ls : Array Slot), wok A D q dm kd ln ad Vw (u2 J 1000 23 (J 1000 23 + (V 1000 22).toInt64)) R H → va_S A s.heap H locs → lv_has ls 3 [(0, .ref (ad 1000)), (1, .int a), (2, .int (nI i))] → W p l e ({ frames := 1, cells := 0, slots := 0, locals := 22 }) s m ([.ref (ad 1000)] : List Value).toArray below meth c H locs 0 0 (MQ below (QI (m_puffR V nP nD) D q dm kd ln ad (m_puffRV V nP nD) (m_puffRJ V J) (R) A) ([.ref (ad 1000)] : List Value).toArray s 0 0 A) (F0 m 49 ls []) := by
    intro n
    induction n with
    | zero =>
      intro i Vw a hn hmqW honW hF hc11 H locs ls hW hS hl
      refine lv_iload_n hx hb dX8_puff_49 rfl (lv_at hl 2 rfl) ?_
      refine lv_aload_n hx hb dX8_puff_50 rfl (lv_at hl 0 rfl) ?_
      refine w_get (ci := 9) (T := TX8) hx hb hts hin_TX8 hown hK hW hM.1.1 hM.1.2 (by decide) rfl 7 (by decide) (hts (.fieldLink RX8 128 "TownClocksModel" "dials" "I") (by decide +kernel)) (fun _ h9 => h9) rfl dX8_puff_51 ?_
      refine lv_icmp_ge (tgt := 255) hx hb dX8_puff_54 (by decide) (fun c_54 => ?_) (fun c_54 => ?_)
      · refine lv_iload_n hx hb dX8_puff_255 rfl (lv_at hl 1 rfl) ?_
        exact w_iret hx hb hr hlk hW hS (by simp only [m_puffR, if_neg hc11, ← hFe, ← hF, m_puffL]) (by simp only [m_puffRV, if_neg hc11, ← hFe, ← hF, m_puffL]) (by simp only [m_puffRJ, if_neg hc11]) rfl dX8_puff_256
      · exact absurd (by rw [hmqW]; exact nI_le (by omega) (by omega)) c_54
    | succ n ih =>
      intro i Vw a hn hmqW honW hF hc11 H locs ls hW hS hl
      have hid : i < nD := by omega
      refine lv_iload_n hx hb dX8_puff_49 rfl (lv_at hl 2 rfl) ?_
      refine lv_aload_n hx hb dX8_puff_50 rfl (lv_at hl 0 rfl) ?_
      refine w_get (ci := 9) (T := TX8) hx hb hts hin_TX8 hown hK hW hM.1.1 hM.1.2 (by decide) rfl 7 (by decide) (hts (.fieldLink RX8 128 "TownClocksModel" "dials" "I") (by decide +kernel)) (fun _ h9 => h9) rfl dX8_puff_51 ?_
      refine lv_icmp_ge (tgt := 255) hx hb dX8_puff_54 (by decide) (fun c_54 => ?_) (fun c_54 => ?_)
      · exact absurd c_54 (by rw [hmqW]; exact nI_ge (by omega) (by omega))
      · refine lv_aload_n hx hb dX8_puff_57 rfl (lv_at hl 0 rfl) ?_
        refine w_getr (ci := 9) (T := TX8) hx hb hts hin_TX8 hown hK hW hM.1.1 hM.1.2 (by decide) rfl 15 (by decide) (hts (.fieldLink RX8 46 "TownClocksModel" "hasMissed" "[Z") (by decide +kernel)) (fun _ h9 => h9) rfl (mo_15 hM).2.2.2 dX8_puff_58 ?_
        refine lv_iload_n hx hb dX8_puff_61 rfl (lv_at hl 2 rfl) ?_
        refine lv_aload_n hx hb dX8_puff_62 rfl (lv_at hl 0 rfl) ?_
        refine w_getr (ci := 9) (T := TX8) hx hb hts hin_TX8 hown hK hW hM.1.1 hM.1.2 (by decide) rfl 6 (by decide) (hts (.fieldLink RX8 22 "TownClocksModel" "air" "[I") (by decide +kernel)) (fun _ h9 => h9) rfl (mo_6 hM).2.2.2 dX8_puff_63 ?_
        refine lv_aload_n hx hb dX8_puff_66 rfl (lv_at hl 0 rfl) ?_
        refine w_getr (ci := 9) (T := TX8) hx hb hts hin_TX8 hown hK hW hM.1.1 hM.1.2 (by decide) rfl 8 (by decide) (hts (.fieldLink RX8 25 "TownClocksModel" "on" "[I") (by decide +kernel)) (fun _ h9 => h9) rfl (mo_8 hM).2.2.2 dX8_puff_67 ?_
        refine lv_iload_n hx hb dX8_puff_70 rfl (lv_at hl 2 rfl) ?_
        refine w_ialdN (t := i) hx hb hK hW (mo_8 hM).1 (mo_8 hM).2.1 ⟨by rw [(mo_8 hM).2.2.1]; omega, by omega⟩ dX8_puff_71 ?_
        refine w_iald hx hb hK hW (mo_6 hM).1 (mo_6 hM).2.1 (by rw [(mo_6 hM).2.2.1]; exact inx_v.mpr ⟨(honW i hid).1, by have h9 := (honW i hid).2; show _ < ((30 : Nat) : Int); omega⟩) dX8_puff_72 ?_
        refine lv_aload_n hx hb dX8_puff_73 rfl (lv_at hl 0 rfl) ?_
        refine w_getr (ci := 9) (T := TX8) hx hb hts hin_TX8 hown hK hW hM.1.1 hM.1.2 (by decide) rfl 9 (by decide) (hts (.fieldLink RX8 28 "TownClocksModel" "need" "[I") (by decide +kernel)) (fun _ h9 => h9) rfl (mo_9 hM).2.2.2 dX8_puff_74 ?_
        refine lv_iload_n hx hb dX8_puff_77 rfl (lv_at hl 2 rfl) ?_
        refine w_ialdN (t := i) hx hb hK hW (mo_9 hM).1 (mo_9 hM).2.1 ⟨by rw [(mo_9 hM).2.2.1]; omega, by omega⟩ dX8_puff_78 ?_
        refine lv_icmp_ge (tgt := 86) hx hb dX8_puff_79 (by decide) (fun c_79 => ?_) (fun c_79 => ?_)
        · refine lv_iconst (v := 0) hx hb dX8_puff_86 (by decide) ?_
          refine w_zastN (t := i) hx hb hK hW hS (mo_15 hM).1 (mo_15 hM).2.1 ⟨by rw [(mo_15 hM).2.2.1]; omega, by omega⟩ dX8_puff_87 (fun H locs hW hS => ?_)
          rw [show vp_nar .boolean 0 = 0 from by decide] at hW
          refine lv_aload_n hx hb dX8_puff_88 rfl (lv_at hl 0 rfl) ?_
          refine w_getr (ci := 9) (T := TX8) hx hb hts hin_TX8 hown hK hW hM.1.1 hM.1.2 (by decide) rfl 11 (by decide) (hts (.fieldLink RX8 34 "TownClocksModel" "late" "[I") (by decide +kernel)) (fun _ h9 => h9) rfl (mo_11 hM).2.2.2 dX8_puff_89 ?_
          refine lv_iload_n hx hb dX8_puff_92 rfl (lv_at hl 2 rfl) ?_
          refine lv_dup2_11 hx hb dX8_puff_93 rfl rfl ?_
          refine w_ialdN (t := i) hx hb hK hW (mo_11 hM).1 (mo_11 hM).2.1 ⟨by rw [(mo_11 hM).2.2.1]; omega, by omega⟩ dX8_puff_94 ?_
          refine w_i (by rw [u2_ne (by decide)]) ?_
          refine lv_aload_n hx hb dX8_puff_95 rfl (lv_at hl 0 rfl) ?_
          refine w_getr (ci := 9) (T := TX8) hx hb hts hin_TX8 hown hK hW hM.1.1 hM.1.2 (by decide) rfl 15 (by decide) (hts (.fieldLink RX8 46 "TownClocksModel" "hasMissed" "[Z") (by decide +kernel)) (fun _ h9 => h9) rfl (mo_15 hM).2.2.2 dX8_puff_96 ?_
          refine lv_iload_n hx hb dX8_puff_99 rfl (lv_at hl 2 rfl) ?_
          refine w_zaldN (t := i) hx hb hK hW (mo_15 hM).1 (mo_15 hM).2.1 ⟨by rw [(mo_15 hM).2.2.1]; omega, by omega⟩ dX8_puff_100 ?_
          refine w_i (by rw [u2_ss]) ?_
          refine lv_if_eq (tgt := 108) hx hb dX8_puff_101 (by decide) (fun _ => ?_) (fun z9 => absurd z9 (by decide))
          refine lv_iconst (v := 0) hx hb dX8_puff_108 (by decide) ?_
          refine lv_iadd hx hb dX8_puff_109 ?_
          refine w_iastN (t := i) hx hb hK hW hS (mo_11 hM).1 (mo_11 hM).2.1 ⟨by rw [(mo_11 hM).2.2.1]; omega, by omega⟩ dX8_puff_110 (fun H locs hW hS => ?_)
          refine lv_aload_n hx hb dX8_puff_111 rfl (lv_at hl 0 rfl) ?_
          refine w_getr (ci := 9) (T := TX8) hx hb hts hin_TX8 hown hK hW hM.1.1 hM.1.2 (by decide) rfl 12 (by decide) (hts (.fieldLink RX8 37 "TownClocksModel" "running" "[I") (by decide +kernel)) (fun _ h9 => h9) rfl (mo_12 hM).2.2.2 dX8_puff_112 ?_
          refine lv_iload_n hx hb dX8_puff_115 rfl (lv_at hl 2 rfl) ?_
          refine lv_aload_n hx hb dX8_puff_116 rfl (lv_at hl 0 rfl) ?_
          refine w_getr (ci := 9) (T := TX8) hx hb hts hin_TX8 hown hK hW hM.1.1 hM.1.2 (by decide) rfl 15 (by decide) (hts (.fieldLink RX8 46 "TownClocksModel" "hasMissed" "[Z") (by decide +kernel)) (fun _ h9 => h9) rfl (mo_15 hM).2.2.2 dX8_puff_117 ?_
          refine lv_iload_n hx hb dX8_puff_120 rfl (lv_at hl 2 rfl) ?_
          refine w_zaldN (t := i) hx hb hK hW (mo_15 hM).1 (mo_15 hM).2.1 ⟨by rw [(mo_15 hM).2.2.1]; omega, by omega⟩ dX8_puff_121 ?_
          refine w_i (by rw [u2_ne (by decide), u2_ss]) ?_
          refine lv_if_eq (tgt := 136) hx hb dX8_puff_122 (by decide) (fun _ => ?_) (fun z9 => absurd z9 (by decide))
          refine lv_iconst (v := 0) hx hb dX8_puff_136 (by decide) ?_
          refine w_iastN (t := i) hx hb hK hW hS (mo_12 hM).1 (mo_12 hM).2.1 ⟨by rw [(mo_12 hM).2.2.1]; omega, by omega⟩ dX8_puff_137 (fun H locs hW hS => ?_)
          refine lv_aload_n hx hb dX8_puff_138 rfl (lv_at hl 0 rfl) ?_
          refine w_getr (ci := 9) (T := TX8) hx hb hts hin_TX8 hown hK hW hM.1.1 hM.1.2 (by decide) rfl 14 (by decide) (hts (.fieldLink RX8 43 "TownClocksModel" "since" "[I") (by decide +kernel)) (fun _ h9 => h9) rfl (mo_14 hM).2.2.2 dX8_puff_139 ?_
          refine lv_iload_n hx hb dX8_puff_142 rfl (lv_at hl 2 rfl) ?_
          refine lv_dup2_11 hx hb dX8_puff_143 rfl rfl ?_
          refine w_ialdN (t := i) hx hb hK hW (mo_14 hM).1 (mo_14 hM).2.1 ⟨by rw [(mo_14 hM).2.2.1]; omega, by omega⟩ dX8_puff_144 ?_
          refine w_i (by rw [u2_ne (by decide), u2_ne (by decide), u2_ne (by decide)]) ?_
          refine lv_iconst (v := 1) hx hb dX8_puff_145 (by decide) ?_
          refine lv_iadd hx hb dX8_puff_146 ?_
          refine w_iastN (t := i) hx hb hK hW hS (mo_14 hM).1 (mo_14 hM).2.1 ⟨by rw [(mo_14 hM).2.2.1]; omega, by omega⟩ dX8_puff_147 (fun H locs hW hS => ?_)
          refine lv_iload_n hx hb dX8_puff_148 rfl (lv_at hl 1 rfl) ?_
          refine lv_aload_n hx hb dX8_puff_149 rfl (lv_at hl 0 rfl) ?_
          refine w_getr (ci := 9) (T := TX8) hx hb hts hin_TX8 hown hK hW hM.1.1 hM.1.2 (by decide) rfl 15 (by decide) (hts (.fieldLink RX8 46 "TownClocksModel" "hasMissed" "[Z") (by decide +kernel)) (fun _ h9 => h9) rfl (mo_15 hM).2.2.2 dX8_puff_150 ?_
          refine lv_iload_n hx hb dX8_puff_153 rfl (lv_at hl 2 rfl) ?_
          refine w_zaldN (t := i) hx hb hK hW (mo_15 hM).1 (mo_15 hM).2.1 ⟨by rw [(mo_15 hM).2.2.1]; omega, by omega⟩ dX8_puff_154 ?_
          refine w_i (by rw [u2_ne (by decide), u2_ne (by decide), u2_ne (by decide), u2_ss]) ?_
          refine lv_if_eq (tgt := 162) hx hb dX8_puff_155 (by decide) (fun _ => ?_) (fun z9 => absurd z9 (by decide))
          refine lv_iconst (v := 0) hx hb dX8_puff_162 (by decide) ?_
          refine lv_iadd hx hb dX8_puff_163 ?_
          refine lv_istore_n (lv' := [(1, .int (a + 0)), (0, .ref (ad 1000)), (2, .int (nI i))]) hx hb dX8_puff_164 rfl hl (by decide) rfl (fun ls hl => ?_)
          refine lv_aload_n hx hb dX8_puff_165 rfl (lv_at hl 1 rfl) ?_
          refine w_getr (ci := 9) (T := TX8) hx hb hts hin_TX8 hown hK hW hM.1.1 hM.1.2 (by decide) rfl 17 (by decide) (hts (.fieldLink RX8 53 "TownClocksModel" "contract" "[I") (by decide +kernel)) (fun _ h9 => h9) rfl (mo_17 hM).2.2.2 dX8_puff_166 ?_
          refine lv_iload_n hx hb dX8_puff_169 rfl (lv_at hl 2 rfl) ?_
          refine w_ialdN (t := i) hx hb hK hW (mo_17 hM).1 (mo_17 hM).2.1 ⟨by rw [(mo_17 hM).2.2.1]; omega, by omega⟩ dX8_puff_170 ?_
          refine w_i (by rw [u2_ne (by decide), u2_ne (by decide), u2_ne (by decide), u2_ne (by decide)]) ?_
          refine lv_iconst (v := 1) hx hb dX8_puff_171 (by decide) ?_
          refine lv_icmp_eq (tgt := 194) hx hb dX8_puff_172 (by decide) (fun c_172 => ?_) (fun c_172 => ?_)
          · refine lv_aload_n hx hb dX8_puff_194 rfl (lv_at hl 1 rfl) ?_
            refine w_getr (ci := 9) (T := TX8) hx hb hts hin_TX8 hown hK hW hM.1.1 hM.1.2 (by decide) rfl 20 (by decide) (hts (.fieldLink RX8 62 "TownClocksModel" "owed" "[I") (by decide +kernel)) (fun _ h9 => h9) rfl (mo_20 hM).2.2.2 dX8_puff_195 ?_
            refine lv_iload_n hx hb dX8_puff_198 rfl (lv_at hl 2 rfl) ?_
            refine lv_dup2_11 hx hb dX8_puff_199 rfl rfl ?_
            refine w_ialdN (t := i) hx hb hK hW (mo_20 hM).1 (mo_20 hM).2.1 ⟨by rw [(mo_20 hM).2.2.1]; omega, by omega⟩ dX8_puff_200 ?_
            refine w_i (by rw [u2_ne (by decide), u2_ne (by decide), u2_ne (by decide), u2_ne (by decide)]) ?_
            refine lv_aload_n hx hb dX8_puff_201 rfl (lv_at hl 1 rfl) ?_
            refine w_getr (ci := 9) (T := TX8) hx hb hts hin_TX8 hown hK hW hM.1.1 hM.1.2 (by decide) rfl 18 (by decide) (hts (.fieldLink RX8 56 "TownClocksModel" "first" "[I") (by decide +kernel)) (fun _ h9 => h9) rfl (mo_18 hM).2.2.2 dX8_puff_202 ?_
            refine lv_iload_n hx hb dX8_puff_205 rfl (lv_at hl 2 rfl) ?_
            refine w_ialdN (t := i) hx hb hK hW (mo_18 hM).1 (mo_18 hM).2.1 ⟨by rw [(mo_18 hM).2.2.1]; omega, by omega⟩ dX8_puff_206 ?_
            refine w_i (by rw [u2_ne (by decide), u2_ne (by decide), u2_ne (by decide), u2_ne (by decide)]) ?_
            refine lv_iadd hx hb dX8_puff_207 ?_
            refine w_iastN (t := i) hx hb hK hW hS (mo_20 hM).1 (mo_20 hM).2.1 ⟨by rw [(mo_20 hM).2.2.1]; omega, by omega⟩ dX8_puff_208 (fun H locs hW hS => ?_)
            refine lv_aload_n hx hb dX8_puff_209 rfl (lv_at hl 1 rfl) ?_
            refine w_getr (ci := 9) (T := TX8) hx hb hts hin_TX8 hown hK hW hM.1.1 hM.1.2 (by decide) rfl 17 (by decide) (hts (.fieldLink RX8 53 "TownClocksModel" "contract" "[I") (by decide +kernel)) (fun _ h9 => h9) rfl (mo_17 hM).2.2.2 dX8_puff_210 ?_
            refine lv_iload_n hx hb dX8_puff_213 rfl (lv_at hl 2 rfl) ?_
            refine w_ialdN (t := i) hx hb hK hW (mo_17 hM).1 (mo_17 hM).2.1 ⟨by rw [(mo_17 hM).2.2.1]; omega, by omega⟩ dX8_puff_214 ?_
            refine w_i (by rw [u2_ne (by decide), u2_ne (by decide), u2_ne (by decide), u2_ne (by decide), u2_ne (by decide)]) ?_
            refine lv_iconst (v := 3) hx hb dX8_puff_215 (by decide) ?_
            refine lv_icmp_ne (tgt := 249) hx hb dX8_puff_216 (by decide) (fun c_216 => ?_) (fun c_216 => ?_)
            · refine lv_iinc (v := nI (i + 1)) (lv' := [(2, .int (nI (i + 1))), (1, .int (a + 0)), (0, .ref (ad 1000))]) hx hb dX8_puff_249 hl (k := 2) rfl (by rw [show Int32.ofInt 1 = 1 from by decide]; exact nI_1 _) (by decide) rfl (fun ls hl => ?_)
              refine lv_goto (tgt := 49) hx hb dX8_puff_252 (by decide) ?_
              exact ih (i + 1) _ _ (by omega) (by exact hmqW) (by exact honW) (by have h := hF; simp only [m_puffL, m_st, m_o1, m_o2, if_neg c_54, if_pos c_79, if_pos c_172, if_neg c_216, ↓reduceIte, u2_ss] at h; exact h) hc11 _ _ _ hW hS (lv_sub hl [2, 1, 0] rfl)
            · refine lv_aload_n hx hb dX8_puff_219 rfl (lv_at hl 1 rfl) ?_
              refine w_getr (ci := 9) (T := TX8) hx hb hts hin_TX8 hown hK hW hM.1.1 hM.1.2 (by decide) rfl 11 (by decide) (hts (.fieldLink RX8 34 "TownClocksModel" "late" "[I") (by decide +kernel)) (fun _ h9 => h9) rfl (mo_11 hM).2.2.2 dX8_puff_220 ?_
              refine lv_iload_n hx hb dX8_puff_223 rfl (lv_at hl 2 rfl) ?_
              refine w_ialdN (t := i) hx hb hK hW (mo_11 hM).1 (mo_11 hM).2.1 ⟨by rw [(mo_11 hM).2.2.1]; omega, by omega⟩ dX8_puff_224 ?_
              refine w_i (by rw [u2_ne (by decide), u2_ne (by decide), u2_ne (by decide), u2_ss]) ?_
              refine lv_aload_n hx hb dX8_puff_225 rfl (lv_at hl 1 rfl) ?_
              refine w_getr (ci := 9) (T := TX8) hx hb hts hin_TX8 hown hK hW hM.1.1 hM.1.2 (by decide) rfl 18 (by decide) (hts (.fieldLink RX8 56 "TownClocksModel" "first" "[I") (by decide +kernel)) (fun _ h9 => h9) rfl (mo_18 hM).2.2.2 dX8_puff_226 ?_
              refine lv_iload_n hx hb dX8_puff_229 rfl (lv_at hl 2 rfl) ?_
              refine w_ialdN (t := i) hx hb hK hW (mo_18 hM).1 (mo_18 hM).2.1 ⟨by rw [(mo_18 hM).2.2.1]; omega, by omega⟩ dX8_puff_230 ?_
              refine w_i (by rw [u2_ne (by decide), u2_ne (by decide), u2_ne (by decide), u2_ne (by decide), u2_ne (by decide)]) ?_
              refine lv_icmp_ge (tgt := 249) hx hb dX8_puff_231 (by decide) (fun c_231 => ?_) (fun c_231 => ?_)
              · refine lv_iinc (v := nI (i + 1)) (lv' := [(2, .int (nI (i + 1))), (1, .int (a + 0)), (0, .ref (ad 1000))]) hx hb dX8_puff_249 hl (k := 2) rfl (by rw [show Int32.ofInt 1 = 1 from by decide]; exact nI_1 _) (by decide) rfl (fun ls hl => ?_)
                refine lv_goto (tgt := 49) hx hb dX8_puff_252 (by decide) ?_
                exact ih (i + 1) _ _ (by omega) (by exact hmqW) (by exact honW) (by have h := hF; simp only [m_puffL, m_st, m_o1, m_o2, if_neg c_54, if_pos c_79, if_pos c_172, if_pos c_216, if_pos c_231, ↓reduceIte, u2_ss] at h; exact h) hc11 _ _ _ hW hS (lv_sub hl [2, 1, 0] rfl)
              · refine lv_aload_n hx hb dX8_puff_234 rfl (lv_at hl 1 rfl) ?_
                refine w_getr (ci := 9) (T := TX8) hx hb hts hin_TX8 hown hK hW hM.1.1 hM.1.2 (by decide) rfl 20 (by decide) (hts (.fieldLink RX8 62 "TownClocksModel" "owed" "[I") (by decide +kernel)) (fun _ h9 => h9) rfl (mo_20 hM).2.2.2 dX8_puff_235 ?_
                refine lv_iload_n hx hb dX8_puff_238 rfl (lv_at hl 2 rfl) ?_
                refine lv_dup2_11 hx hb dX8_puff_239 rfl rfl ?_
                refine w_ialdN (t := i) hx hb hK hW (mo_20 hM).1 (mo_20 hM).2.1 ⟨by rw [(mo_20 hM).2.2.1]; omega, by omega⟩ dX8_puff_240 ?_
                refine w_i (by rw [u2_ss]) ?_
                refine lv_aload_n hx hb dX8_puff_241 rfl (lv_at hl 1 rfl) ?_
                refine w_getr (ci := 9) (T := TX8) hx hb hts hin_TX8 hown hK hW hM.1.1 hM.1.2 (by decide) rfl 19 (by decide) (hts (.fieldLink RX8 59 "TownClocksModel" "second" "[I") (by decide +kernel)) (fun _ h9 => h9) rfl (mo_19 hM).2.2.2 dX8_puff_242 ?_
                refine lv_iload_n hx hb dX8_puff_245 rfl (lv_at hl 2 rfl) ?_
                refine w_ialdN (t := i) hx hb hK hW (mo_19 hM).1 (mo_19 hM).2.1 ⟨by rw [(mo_19 hM).2.2.1]; omega, by omega⟩ dX8_puff_246 ?_
                refine w_i (by rw [u2_ne (by decide), u2_ne (by decide), u2_ne (by decide), u2_ne (by decide), u2_ne (by decide)]) ?_
                refine lv_iadd hx hb dX8_puff_247 ?_
                refine w_iastN (t := i) hx hb hK hW hS (mo_20 hM).1 (mo_20 hM).2.1 ⟨by rw [(mo_20 hM).2.2.1]; omega, by omega⟩ dX8_puff_248 (fun H locs hW hS => ?_)
                refine lv_iinc (v := nI (i + 1)) (lv' := [(2, .int (nI (i + 1))), (1, .int (a + 0)), (0, .ref (ad 1000))]) hx hb dX8_puff_249 hl (k := 2) rfl (by rw [show Int32.ofInt 1 = 1 from by decide]; exact nI_1 _) (by decide) rfl (fun ls hl => ?_)
                refine lv_goto (tgt := 49) hx hb dX8_puff_252 (by decide) ?_
                exact ih (i + 1) _ _ (by omega) (by exact hmqW) (by exact honW) (by have h := hF; simp only [m_puffL, m_st, m_o1, m_o2, if_neg c_54, if_pos c_79, if_pos c_172, if_pos c_216, if_neg c_231, ↓reduceIte, u2_ss] at h; exact h) hc11 _ _ _ hW hS (lv_sub hl [2, 1, 0] rfl)
          · refine lv_aload_n hx hb dX8_puff_175 rfl (lv_at hl 1 rfl) ?_
            refine w_getr (ci := 9) (T := TX8) hx hb hts hin_TX8 hown hK hW hM.1.1 hM.1.2 (by decide) rfl 17 (by decide) (hts (.fieldLink RX8 53 "TownClocksModel" "contract" "[I") (by decide +kernel)) (fun _ h9 => h9) rfl (mo_17 hM).2.2.2 dX8_puff_176 ?_
            refine lv_iload_n hx hb dX8_puff_179 rfl (lv_at hl 2 rfl) ?_
            refine w_ialdN (t := i) hx hb hK hW (mo_17 hM).1 (mo_17 hM).2.1 ⟨by rw [(mo_17 hM).2.2.1]; omega, by omega⟩ dX8_puff_180 ?_
            refine w_i (by rw [u2_ne (by decide), u2_ne (by decide), u2_ne (by decide), u2_ne (by decide)]) ?_
            refine lv_iconst (v := 2) hx hb dX8_puff_181 (by decide) ?_
            refine lv_icmp_ne (tgt := 209) hx hb dX8_puff_182 (by decide) (fun c_182 => ?_) (fun c_182 => ?_)
            · refine lv_aload_n hx hb dX8_puff_209 rfl (lv_at hl 1 rfl) ?_
              refine w_getr (ci := 9) (T := TX8) hx hb hts hin_TX8 hown hK hW hM.1.1 hM.1.2 (by decide) rfl 17 (by decide) (hts (.fieldLink RX8 53 "TownClocksModel" "contract" "[I") (by decide +kernel)) (fun _ h9 => h9) rfl (mo_17 hM).2.2.2 dX8_puff_210 ?_
              refine lv_iload_n hx hb dX8_puff_213 rfl (lv_at hl 2 rfl) ?_
              refine w_ialdN (t := i) hx hb hK hW (mo_17 hM).1 (mo_17 hM).2.1 ⟨by rw [(mo_17 hM).2.2.1]; omega, by omega⟩ dX8_puff_214 ?_
              refine w_i (by rw [u2_ne (by decide), u2_ne (by decide), u2_ne (by decide), u2_ne (by decide)]) ?_
              refine lv_iconst (v := 3) hx hb dX8_puff_215 (by decide) ?_
              refine lv_icmp_ne (tgt := 249) hx hb dX8_puff_216 (by decide) (fun c_216 => ?_) (fun c_216 => ?_)
              · refine lv_iinc (v := nI (i + 1)) (lv' := [(2, .int (nI (i + 1))), (1, .int (a + 0)), (0, .ref (ad 1000))]) hx hb dX8_puff_249 hl (k := 2) rfl (by rw [show Int32.ofInt 1 = 1 from by decide]; exact nI_1 _) (by decide) rfl (fun ls hl => ?_)
                refine lv_goto (tgt := 49) hx hb dX8_puff_252 (by decide) ?_
                exact ih (i + 1) _ _ (by omega) (by exact hmqW) (by exact honW) (by have h := hF; simp only [m_puffL, m_st, m_o1, m_o2, if_neg c_54, if_pos c_79, if_neg c_172, if_neg c_182, if_neg c_216, ↓reduceIte, u2_ss] at h; exact h) hc11 _ _ _ hW hS (lv_sub hl [2, 1, 0] rfl)
              · refine lv_aload_n hx hb dX8_puff_219 rfl (lv_at hl 1 rfl) ?_
                refine w_getr (ci := 9) (T := TX8) hx hb hts hin_TX8 hown hK hW hM.1.1 hM.1.2 (by decide) rfl 11 (by decide) (hts (.fieldLink RX8 34 "TownClocksModel" "late" "[I") (by decide +kernel)) (fun _ h9 => h9) rfl (mo_11 hM).2.2.2 dX8_puff_220 ?_
                refine lv_iload_n hx hb dX8_puff_223 rfl (lv_at hl 2 rfl) ?_
                refine w_ialdN (t := i) hx hb hK hW (mo_11 hM).1 (mo_11 hM).2.1 ⟨by rw [(mo_11 hM).2.2.1]; omega, by omega⟩ dX8_puff_224 ?_
                refine w_i (by rw [u2_ne (by decide), u2_ne (by decide), u2_ss]) ?_
                refine lv_aload_n hx hb dX8_puff_225 rfl (lv_at hl 1 rfl) ?_
                refine w_getr (ci := 9) (T := TX8) hx hb hts hin_TX8 hown hK hW hM.1.1 hM.1.2 (by decide) rfl 18 (by decide) (hts (.fieldLink RX8 56 "TownClocksModel" "first" "[I") (by decide +kernel)) (fun _ h9 => h9) rfl (mo_18 hM).2.2.2 dX8_puff_226 ?_
                refine lv_iload_n hx hb dX8_puff_229 rfl (lv_at hl 2 rfl) ?_
                refine w_ialdN (t := i) hx hb hK hW (mo_18 hM).1 (mo_18 hM).2.1 ⟨by rw [(mo_18 hM).2.2.1]; omega, by omega⟩ dX8_puff_230 ?_
                refine w_i (by rw [u2_ne (by decide), u2_ne (by decide), u2_ne (by decide), u2_ne (by decide)]) ?_
                refine lv_icmp_ge (tgt := 249) hx hb dX8_puff_231 (by decide) (fun c_231 => ?_) (fun c_231 => ?_)
                · refine lv_iinc (v := nI (i + 1)) (lv' := [(2, .int (nI (i + 1))), (1, .int (a + 0)), (0, .ref (ad 1000))]) hx hb dX8_puff_249 hl (k := 2) rfl (by rw [show Int32.ofInt 1 = 1 from by decide]; exact nI_1 _) (by decide) rfl (fun ls hl => ?_)
                  refine lv_goto (tgt := 49) hx hb dX8_puff_252 (by decide) ?_
                  exact ih (i + 1) _ _ (by omega) (by exact hmqW) (by exact honW) (by have h := hF; simp only [m_puffL, m_st, m_o1, m_o2, if_neg c_54, if_pos c_79, if_neg c_172, if_neg c_182, if_pos c_216, if_pos c_231, ↓reduceIte, u2_ss] at h; exact h) hc11 _ _ _ hW hS (lv_sub hl [2, 1, 0] rfl)
                · refine lv_aload_n hx hb dX8_puff_234 rfl (lv_at hl 1 rfl) ?_
                  refine w_getr (ci := 9) (T := TX8) hx hb hts hin_TX8 hown hK hW hM.1.1 hM.1.2 (by decide) rfl 20 (by decide) (hts (.fieldLink RX8 62 "TownClocksModel" "owed" "[I") (by decide +kernel)) (fun _ h9 => h9) rfl (mo_20 hM).2.2.2 dX8_puff_235 ?_
                  refine lv_iload_n hx hb dX8_puff_238 rfl (lv_at hl 2 rfl) ?_
                  refine lv_dup2_11 hx hb dX8_puff_239 rfl rfl ?_
                  refine w_ialdN (t := i) hx hb hK hW (mo_20 hM).1 (mo_20 hM).2.1 ⟨by rw [(mo_20 hM).2.2.1]; omega, by omega⟩ dX8_puff_240 ?_
                  refine w_i (by rw [u2_ne (by decide), u2_ne (by decide), u2_ne (by decide), u2_ne (by decide)]) ?_
                  refine lv_aload_n hx hb dX8_puff_241 rfl (lv_at hl 1 rfl) ?_
                  refine w_getr (ci := 9) (T := TX8) hx hb hts hin_TX8 hown hK hW hM.1.1 hM.1.2 (by decide) rfl 19 (by decide) (hts (.fieldLink RX8 59 "TownClocksModel" "second" "[I") (by decide +kernel)) (fun _ h9 => h9) rfl (mo_19 hM).2.2.2 dX8_puff_242 ?_
                  refine lv_iload_n hx hb dX8_puff_245 rfl (lv_at hl 2 rfl) ?_
                  refine w_ialdN (t := i) hx hb hK hW (mo_19 hM).1 (mo_19 hM).2.1 ⟨by rw [(mo_19 hM).2.2.1]; omega, by omega⟩ dX8_puff_246 ?_
                  refine w_i (by rw [u2_ne (by decide), u2_ne (by decide), u2_ne (by decide), u2_ne (by decide)]) ?_
                  refine lv_iadd hx hb dX8_puff_247 ?_
                  refine w_iastN (t := i) hx hb hK hW hS (mo_20 hM).1 (mo_20 hM).2.1 ⟨by rw [(mo_20 hM).2.2.1]; omega, by omega⟩ dX8_puff_248 (fun H locs hW hS => ?_)
                  refine lv_iinc (v := nI (i + 1)) (lv' := [(2, .int (nI (i + 1))), (1, .int (a + 0)), (0, .ref (ad 1000))]) hx hb dX8_puff_249 hl (k := 2) rfl (by rw [show Int32.ofInt 1 = 1 from by decide]; exact nI_1 _) (by decide) rfl (fun ls hl => ?_)
                  refine lv_goto (tgt := 49) hx hb dX8_puff_252 (by decide) ?_
                  exact ih (i + 1) _ _ (by omega) (by exact hmqW) (by exact honW) (by have h := hF; simp only [m_puffL, m_st, m_o1, m_o2, if_neg c_54, if_pos c_79, if_neg c_172, if_neg c_182, if_pos c_216, if_neg c_231, ↓reduceIte, u2_ss] at h; exact h) hc11 _ _ _ hW hS (lv_sub hl [2, 1, 0] rfl)
            · refine lv_aload_n hx hb dX8_puff_185 rfl (lv_at hl 1 rfl) ?_
              refine w_getr (ci := 9) (T := TX8) hx hb hts hin_TX8 hown hK hW hM.1.1 hM.1.2 (by decide) rfl 15 (by decide) (hts (.fieldLink RX8 46 "TownClocksModel" "hasMissed" "[Z") (by decide +kernel)) (fun _ h9 => h9) rfl (mo_15 hM).2.2.2 dX8_puff_186 ?_
              refine lv_iload_n hx hb dX8_puff_189 rfl (lv_at hl 2 rfl) ?_
              refine w_zaldN (t := i) hx hb hK hW (mo_15 hM).1 (mo_15 hM).2.1 ⟨by rw [(mo_15 hM).2.2.1]; omega, by omega⟩ dX8_puff_190 ?_
              refine w_i (by rw [u2_ne (by decide), u2_ne (by decide), u2_ne (by decide), u2_ss]) ?_
              refine lv_if_ne (tgt := 209) hx hb dX8_puff_191 (by decide) (fun z9 => absurd z9 (by decide)) (fun _ => ?_)
              refine lv_aload_n hx hb dX8_puff_194 rfl (lv_at hl 1 rfl) ?_
              refine w_getr (ci := 9) (T := TX8) hx hb hts hin_TX8 hown hK hW hM.1.1 hM.1.2 (by decide) rfl 20 (by decide) (hts (.fieldLink RX8 62 "TownClocksModel" "owed" "[I") (by decide +kernel)) (fun _ h9 => h9) rfl (mo_20 hM).2.2.2 dX8_puff_195 ?_
              refine lv_iload_n hx hb dX8_puff_198 rfl (lv_at hl 2 rfl) ?_
              refine lv_dup2_11 hx hb dX8_puff_199 rfl rfl ?_
              refine w_ialdN (t := i) hx hb hK hW (mo_20 hM).1 (mo_20 hM).2.1 ⟨by rw [(mo_20 hM).2.2.1]; omega, by omega⟩ dX8_puff_200 ?_
              refine w_i (by rw [u2_ne (by decide), u2_ne (by decide), u2_ne (by decide), u2_ne (by decide)]) ?_
              refine lv_aload_n hx hb dX8_puff_201 rfl (lv_at hl 1 rfl) ?_
              refine w_getr (ci := 9) (T := TX8) hx hb hts hin_TX8 hown hK hW hM.1.1 hM.1.2 (by decide) rfl 18 (by decide) (hts (.fieldLink RX8 56 "TownClocksModel" "first" "[I") (by decide +kernel)) (fun _ h9 => h9) rfl (mo_18 hM).2.2.2 dX8_puff_202 ?_
              refine lv_iload_n hx hb dX8_puff_205 rfl (lv_at hl 2 rfl) ?_
              refine w_ialdN (t := i) hx hb hK hW (mo_18 hM).1 (mo_18 hM).2.1 ⟨by rw [(mo_18 hM).2.2.1]; omega, by omega⟩ dX8_puff_206 ?_
              refine w_i (by rw [u2_ne (by decide), u2_ne (by decide), u2_ne (by decide), u2_ne (by decide)]) ?_
              refine lv_iadd hx hb dX8_puff_207 ?_
              refine w_iastN (t := i) hx hb hK hW hS (mo_20 hM).1 (mo_20 hM).2.1 ⟨by rw [(mo_20 hM).2.2.1]; omega, by omega⟩ dX8_puff_208 (fun H locs hW hS => ?_)
              refine lv_aload_n hx hb dX8_puff_209 rfl (lv_at hl 1 rfl) ?_
              refine w_getr (ci := 9) (T := TX8) hx hb hts hin_TX8 hown hK hW hM.1.1 hM.1.2 (by decide) rfl 17 (by decide) (hts (.fieldLink RX8 53 "TownClocksModel" "contract" "[I") (by decide +kernel)) (fun _ h9 => h9) rfl (mo_17 hM).2.2.2 dX8_puff_210 ?_
              refine lv_iload_n hx hb dX8_puff_213 rfl (lv_at hl 2 rfl) ?_
              refine w_ialdN (t := i) hx hb hK hW (mo_17 hM).1 (mo_17 hM).2.1 ⟨by rw [(mo_17 hM).2.2.1]; omega, by omega⟩ dX8_puff_214 ?_
              refine w_i (by rw [u2_ne (by decide), u2_ne (by decide), u2_ne (by decide), u2_ne (by decide), u2_ne (by decide)]) ?_
              refine lv_iconst (v := 3) hx hb dX8_puff_215 (by decide) ?_
              refine lv_icmp_ne (tgt := 249) hx hb dX8_puff_216 (by decide) (fun c_216 => ?_) (fun c_216 => ?_)
              · refine lv_iinc (v := nI (i + 1)) (lv' := [(2, .int (nI (i + 1))), (1, .int (a + 0)), (0, .ref (ad 1000))]) hx hb dX8_puff_249 hl (k := 2) rfl (by rw [show Int32.ofInt 1 = 1 from by decide]; exact nI_1 _) (by decide) rfl (fun ls hl => ?_)
                refine lv_goto (tgt := 49) hx hb dX8_puff_252 (by decide) ?_
                exact ih (i + 1) _ _ (by omega) (by exact hmqW) (by exact honW) (by have h := hF; simp only [m_puffL, m_st, m_o1, m_o2, if_neg c_54, if_pos c_79, if_neg c_172, if_pos c_182, if_neg c_216, ↓reduceIte, u2_ss] at h; exact h) hc11 _ _ _ hW hS (lv_sub hl [2, 1, 0] rfl)
              · refine lv_aload_n hx hb dX8_puff_219 rfl (lv_at hl 1 rfl) ?_
                refine w_getr (ci := 9) (T := TX8) hx hb hts hin_TX8 hown hK hW hM.1.1 hM.1.2 (by decide) rfl 11 (by decide) (hts (.fieldLink RX8 34 "TownClocksModel" "late" "[I") (by decide +kernel)) (fun _ h9 => h9) rfl (mo_11 hM).2.2.2 dX8_puff_220 ?_
                refine lv_iload_n hx hb dX8_puff_223 rfl (lv_at hl 2 rfl) ?_
                refine w_ialdN (t := i) hx hb hK hW (mo_11 hM).1 (mo_11 hM).2.1 ⟨by rw [(mo_11 hM).2.2.1]; omega, by omega⟩ dX8_puff_224 ?_
                refine w_i (by rw [u2_ne (by decide), u2_ne (by decide), u2_ne (by decide), u2_ss]) ?_
                refine lv_aload_n hx hb dX8_puff_225 rfl (lv_at hl 1 rfl) ?_
                refine w_getr (ci := 9) (T := TX8) hx hb hts hin_TX8 hown hK hW hM.1.1 hM.1.2 (by decide) rfl 18 (by decide) (hts (.fieldLink RX8 56 "TownClocksModel" "first" "[I") (by decide +kernel)) (fun _ h9 => h9) rfl (mo_18 hM).2.2.2 dX8_puff_226 ?_
                refine lv_iload_n hx hb dX8_puff_229 rfl (lv_at hl 2 rfl) ?_
                refine w_ialdN (t := i) hx hb hK hW (mo_18 hM).1 (mo_18 hM).2.1 ⟨by rw [(mo_18 hM).2.2.1]; omega, by omega⟩ dX8_puff_230 ?_
                refine w_i (by rw [u2_ne (by decide), u2_ne (by decide), u2_ne (by decide), u2_ne (by decide), u2_ne (by decide)]) ?_
                refine lv_icmp_ge (tgt := 249) hx hb dX8_puff_231 (by decide) (fun c_231 => ?_) (fun c_231 => ?_)
                · refine lv_iinc (v := nI (i + 1)) (lv' := [(2, .int (nI (i + 1))), (1, .int (a + 0)), (0, .ref (ad 1000))]) hx hb dX8_puff_249 hl (k := 2) rfl (by rw [show Int32.ofInt 1 = 1 from by decide]; exact nI_1 _) (by decide) rfl (fun ls hl => ?_)
                  refine lv_goto (tgt := 49) hx hb dX8_puff_252 (by decide) ?_
                  exact ih (i + 1) _ _ (by omega) (by exact hmqW) (by exact honW) (by have h := hF; simp only [m_puffL, m_st, m_o1, m_o2, if_neg c_54, if_pos c_79, if_neg c_172, if_pos c_182, if_pos c_216, if_pos c_231, ↓reduceIte, u2_ss] at h; exact h) hc11 _ _ _ hW hS (lv_sub hl [2, 1, 0] rfl)
                · refine lv_aload_n hx hb dX8_puff_234 rfl (lv_at hl 1 rfl) ?_
                  refine w_getr (ci := 9) (T := TX8) hx hb hts hin_TX8 hown hK hW hM.1.1 hM.1.2 (by decide) rfl 20 (by decide) (hts (.fieldLink RX8 62 "TownClocksModel" "owed" "[I") (by decide +kernel)) (fun _ h9 => h9) rfl (mo_20 hM).2.2.2 dX8_puff_235 ?_
                  refine lv_iload_n hx hb dX8_puff_238 rfl (lv_at hl 2 rfl) ?_
                  refine lv_dup2_11 hx hb dX8_puff_239 rfl rfl ?_
                  refine w_ialdN (t := i) hx hb hK hW (mo_20 hM).1 (mo_20 hM).2.1 ⟨by rw [(mo_20 hM).2.2.1]; omega, by omega⟩ dX8_puff_240 ?_
                  refine w_i (by rw [u2_ss]) ?_
                  refine lv_aload_n hx hb dX8_puff_241 rfl (lv_at hl 1 rfl) ?_
                  refine w_getr (ci := 9) (T := TX8) hx hb hts hin_TX8 hown hK hW hM.1.1 hM.1.2 (by decide) rfl 19 (by decide) (hts (.fieldLink RX8 59 "TownClocksModel" "second" "[I") (by decide +kernel)) (fun _ h9 => h9) rfl (mo_19 hM).2.2.2 dX8_puff_242 ?_
                  refine lv_iload_n hx hb dX8_puff_245 rfl (lv_at hl 2 rfl) ?_
                  refine w_ialdN (t := i) hx hb hK hW (mo_19 hM).1 (mo_19 hM).2.1 ⟨by rw [(mo_19 hM).2.2.1]; omega, by omega⟩ dX8_puff_246 ?_
                  refine w_i (by rw [u2_ne (by decide), u2_ne (by decide), u2_ne (by decide), u2_ne (by decide), u2_ne (by decide)]) ?_
                  refine lv_iadd hx hb dX8_puff_247 ?_
                  refine w_iastN (t := i) hx hb hK hW hS (mo_20 hM).1 (mo_20 hM).2.1 ⟨by rw [(mo_20 hM).2.2.1]; omega, by omega⟩ dX8_puff_248 (fun H locs hW hS => ?_)
                  refine lv_iinc (v := nI (i + 1)) (lv' := [(2, .int (nI (i + 1))), (1, .int (a + 0)), (0, .ref (ad 1000))]) hx hb dX8_puff_249 hl (k := 2) rfl (by rw [show Int32.ofInt 1 = 1 from by decide]; exact nI_1 _) (by decide) rfl (fun ls hl => ?_)
                  refine lv_goto (tgt := 49) hx hb dX8_puff_252 (by decide) ?_
                  exact ih (i + 1) _ _ (by omega) (by exact hmqW) (by exact honW) (by have h := hF; simp only [m_puffL, m_st, m_o1, m_o2, if_neg c_54, if_pos c_79, if_neg c_172, if_pos c_182, if_pos c_216, if_neg c_231, ↓reduceIte, u2_ss] at h; exact h) hc11 _ _ _ hW hS (lv_sub hl [2, 1, 0] rfl)
        · refine lv_iconst (v := 1) hx hb dX8_puff_82 (by decide) ?_
          refine lv_goto (tgt := 87) hx hb dX8_puff_83 (by decide) ?_
          refine w_zastN (t := i) hx hb hK hW hS (mo_15 hM).1 (mo_15 hM).2.1 ⟨by rw [(mo_15 hM).2.2.1]; omega, by omega⟩ dX8_puff_87 (fun H locs hW hS => ?_)
          rw [show vp_nar .boolean 1 = 1 from by decide] at hW
          refine lv_aload_n hx hb dX8_puff_88 rfl (lv_at hl 0 rfl) ?_
          refine w_getr (ci := 9) (T := TX8) hx hb hts hin_TX8 hown hK hW hM.1.1 hM.1.2 (by decide) rfl 11 (by decide) (hts (.fieldLink RX8 34 "TownClocksModel" "late" "[I") (by decide +kernel)) (fun _ h9 => h9) rfl (mo_11 hM).2.2.2 dX8_puff_89 ?_
          refine lv_iload_n hx hb dX8_puff_92 rfl (lv_at hl 2 rfl) ?_
          refine lv_dup2_11 hx hb dX8_puff_93 rfl rfl ?_
          refine w_ialdN (t := i) hx hb hK hW (mo_11 hM).1 (mo_11 hM).2.1 ⟨by rw [(mo_11 hM).2.2.1]; omega, by omega⟩ dX8_puff_94 ?_
          refine w_i (by rw [u2_ne (by decide)]) ?_
          refine lv_aload_n hx hb dX8_puff_95 rfl (lv_at hl 0 rfl) ?_
          refine w_getr (ci := 9) (T := TX8) hx hb hts hin_TX8 hown hK hW hM.1.1 hM.1.2 (by decide) rfl 15 (by decide) (hts (.fieldLink RX8 46 "TownClocksModel" "hasMissed" "[Z") (by decide +kernel)) (fun _ h9 => h9) rfl (mo_15 hM).2.2.2 dX8_puff_96 ?_
          refine lv_iload_n hx hb dX8_puff_99 rfl (lv_at hl 2 rfl) ?_
          refine w_zaldN (t := i) hx hb hK hW (mo_15 hM).1 (mo_15 hM).2.1 ⟨by rw [(mo_15 hM).2.2.1]; omega, by omega⟩ dX8_puff_100 ?_
          refine w_i (by rw [u2_ss]) ?_
          refine lv_if_eq (tgt := 108) hx hb dX8_puff_101 (by decide) (fun z9 => absurd z9 (by decide)) (fun _ => ?_)
          refine lv_iconst (v := 1) hx hb dX8_puff_104 (by decide) ?_
          refine lv_goto (tgt := 109) hx hb dX8_puff_105 (by decide) ?_
          refine lv_iadd hx hb dX8_puff_109 ?_
          refine w_iastN (t := i) hx hb hK hW hS (mo_11 hM).1 (mo_11 hM).2.1 ⟨by rw [(mo_11 hM).2.2.1]; omega, by omega⟩ dX8_puff_110 (fun H locs hW hS => ?_)
          refine lv_aload_n hx hb dX8_puff_111 rfl (lv_at hl 0 rfl) ?_
          refine w_getr (ci := 9) (T := TX8) hx hb hts hin_TX8 hown hK hW hM.1.1 hM.1.2 (by decide) rfl 12 (by decide) (hts (.fieldLink RX8 37 "TownClocksModel" "running" "[I") (by decide +kernel)) (fun _ h9 => h9) rfl (mo_12 hM).2.2.2 dX8_puff_112 ?_
          refine lv_iload_n hx hb dX8_puff_115 rfl (lv_at hl 2 rfl) ?_
          refine lv_aload_n hx hb dX8_puff_116 rfl (lv_at hl 0 rfl) ?_
          refine w_getr (ci := 9) (T := TX8) hx hb hts hin_TX8 hown hK hW hM.1.1 hM.1.2 (by decide) rfl 15 (by decide) (hts (.fieldLink RX8 46 "TownClocksModel" "hasMissed" "[Z") (by decide +kernel)) (fun _ h9 => h9) rfl (mo_15 hM).2.2.2 dX8_puff_117 ?_
          refine lv_iload_n hx hb dX8_puff_120 rfl (lv_at hl 2 rfl) ?_
          refine w_zaldN (t := i) hx hb hK hW (mo_15 hM).1 (mo_15 hM).2.1 ⟨by rw [(mo_15 hM).2.2.1]; omega, by omega⟩ dX8_puff_121 ?_
          refine w_i (by rw [u2_ne (by decide), u2_ss]) ?_
          refine lv_if_eq (tgt := 136) hx hb dX8_puff_122 (by decide) (fun z9 => absurd z9 (by decide)) (fun _ => ?_)
          refine lv_aload_n hx hb dX8_puff_125 rfl (lv_at hl 0 rfl) ?_
          refine w_getr (ci := 9) (T := TX8) hx hb hts hin_TX8 hown hK hW hM.1.1 hM.1.2 (by decide) rfl 12 (by decide) (hts (.fieldLink RX8 37 "TownClocksModel" "running" "[I") (by decide +kernel)) (fun _ h9 => h9) rfl (mo_12 hM).2.2.2 dX8_puff_126 ?_
          refine lv_iload_n hx hb dX8_puff_129 rfl (lv_at hl 2 rfl) ?_
          refine w_ialdN (t := i) hx hb hK hW (mo_12 hM).1 (mo_12 hM).2.1 ⟨by rw [(mo_12 hM).2.2.1]; omega, by omega⟩ dX8_puff_130 ?_
          refine w_i (by rw [u2_ne (by decide), u2_ne (by decide)]) ?_
          refine lv_iconst (v := 1) hx hb dX8_puff_131 (by decide) ?_
          refine lv_iadd hx hb dX8_puff_132 ?_
          refine lv_goto (tgt := 137) hx hb dX8_puff_133 (by decide) ?_
          refine w_iastN (t := i) hx hb hK hW hS (mo_12 hM).1 (mo_12 hM).2.1 ⟨by rw [(mo_12 hM).2.2.1]; omega, by omega⟩ dX8_puff_137 (fun H locs hW hS => ?_)
          refine lv_aload_n hx hb dX8_puff_138 rfl (lv_at hl 0 rfl) ?_
          refine w_getr (ci := 9) (T := TX8) hx hb hts hin_TX8 hown hK hW hM.1.1 hM.1.2 (by decide) rfl 14 (by decide) (hts (.fieldLink RX8 43 "TownClocksModel" "since" "[I") (by decide +kernel)) (fun _ h9 => h9) rfl (mo_14 hM).2.2.2 dX8_puff_139 ?_
          refine lv_iload_n hx hb dX8_puff_142 rfl (lv_at hl 2 rfl) ?_
          refine lv_dup2_11 hx hb dX8_puff_143 rfl rfl ?_
          refine w_ialdN (t := i) hx hb hK hW (mo_14 hM).1 (mo_14 hM).2.1 ⟨by rw [(mo_14 hM).2.2.1]; omega, by omega⟩ dX8_puff_144 ?_
          refine w_i (by rw [u2_ne (by decide), u2_ne (by decide), u2_ne (by decide)]) ?_
          refine lv_iconst (v := 1) hx hb dX8_puff_145 (by decide) ?_
          refine lv_iadd hx hb dX8_puff_146 ?_
          refine w_iastN (t := i) hx hb hK hW hS (mo_14 hM).1 (mo_14 hM).2.1 ⟨by rw [(mo_14 hM).2.2.1]; omega, by omega⟩ dX8_puff_147 (fun H locs hW hS => ?_)
          refine lv_iload_n hx hb dX8_puff_148 rfl (lv_at hl 1 rfl) ?_
          refine lv_aload_n hx hb dX8_puff_149 rfl (lv_at hl 0 rfl) ?_
          refine w_getr (ci := 9) (T := TX8) hx hb hts hin_TX8 hown hK hW hM.1.1 hM.1.2 (by decide) rfl 15 (by decide) (hts (.fieldLink RX8 46 "TownClocksModel" "hasMissed" "[Z") (by decide +kernel)) (fun _ h9 => h9) rfl (mo_15 hM).2.2.2 dX8_puff_150 ?_
          refine lv_iload_n hx hb dX8_puff_153 rfl (lv_at hl 2 rfl) ?_
          refine w_zaldN (t := i) hx hb hK hW (mo_15 hM).1 (mo_15 hM).2.1 ⟨by rw [(mo_15 hM).2.2.1]; omega, by omega⟩ dX8_puff_154 ?_
          refine w_i (by rw [u2_ne (by decide), u2_ne (by decide), u2_ne (by decide), u2_ss]) ?_
          refine lv_if_eq (tgt := 162) hx hb dX8_puff_155 (by decide) (fun z9 => absurd z9 (by decide)) (fun _ => ?_)
          refine lv_iconst (v := 1) hx hb dX8_puff_158 (by decide) ?_
          refine lv_goto (tgt := 163) hx hb dX8_puff_159 (by decide) ?_
          refine lv_iadd hx hb dX8_puff_163 ?_
          refine lv_istore_n (lv' := [(1, .int (a + 1)), (0, .ref (ad 1000)), (2, .int (nI i))]) hx hb dX8_puff_164 rfl hl (by decide) rfl (fun ls hl => ?_)
          refine lv_aload_n hx hb dX8_puff_165 rfl (lv_at hl 1 rfl) ?_
          refine w_getr (ci := 9) (T := TX8) hx hb hts hin_TX8 hown hK hW hM.1.1 hM.1.2 (by decide) rfl 17 (by decide) (hts (.fieldLink RX8 53 "TownClocksModel" "contract" "[I") (by decide +kernel)) (fun _ h9 => h9) rfl (mo_17 hM).2.2.2 dX8_puff_166 ?_
          refine lv_iload_n hx hb dX8_puff_169 rfl (lv_at hl 2 rfl) ?_
          refine w_ialdN (t := i) hx hb hK hW (mo_17 hM).1 (mo_17 hM).2.1 ⟨by rw [(mo_17 hM).2.2.1]; omega, by omega⟩ dX8_puff_170 ?_
          refine w_i (by rw [u2_ne (by decide), u2_ne (by decide), u2_ne (by decide), u2_ne (by decide)]) ?_
          refine lv_iconst (v := 1) hx hb dX8_puff_171 (by decide) ?_
          refine lv_icmp_eq (tgt := 194) hx hb dX8_puff_172 (by decide) (fun c_172 => ?_) (fun c_172 => ?_)
          · refine lv_aload_n hx hb dX8_puff_194 rfl (lv_at hl 1 rfl) ?_
            refine w_getr (ci := 9) (T := TX8) hx hb hts hin_TX8 hown hK hW hM.1.1 hM.1.2 (by decide) rfl 20 (by decide) (hts (.fieldLink RX8 62 "TownClocksModel" "owed" "[I") (by decide +kernel)) (fun _ h9 => h9) rfl (mo_20 hM).2.2.2 dX8_puff_195 ?_
            refine lv_iload_n hx hb dX8_puff_198 rfl (lv_at hl 2 rfl) ?_
            refine lv_dup2_11 hx hb dX8_puff_199 rfl rfl ?_
            refine w_ialdN (t := i) hx hb hK hW (mo_20 hM).1 (mo_20 hM).2.1 ⟨by rw [(mo_20 hM).2.2.1]; omega, by omega⟩ dX8_puff_200 ?_
            refine w_i (by rw [u2_ne (by decide), u2_ne (by decide), u2_ne (by decide), u2_ne (by decide)]) ?_
            refine lv_aload_n hx hb dX8_puff_201 rfl (lv_at hl 1 rfl) ?_
            refine w_getr (ci := 9) (T := TX8) hx hb hts hin_TX8 hown hK hW hM.1.1 hM.1.2 (by decide) rfl 18 (by decide) (hts (.fieldLink RX8 56 "TownClocksModel" "first" "[I") (by decide +kernel)) (fun _ h9 => h9) rfl (mo_18 hM).2.2.2 dX8_puff_202 ?_
            refine lv_iload_n hx hb dX8_puff_205 rfl (lv_at hl 2 rfl) ?_
            refine w_ialdN (t := i) hx hb hK hW (mo_18 hM).1 (mo_18 hM).2.1 ⟨by rw [(mo_18 hM).2.2.1]; omega, by omega⟩ dX8_puff_206 ?_
            refine w_i (by rw [u2_ne (by decide), u2_ne (by decide), u2_ne (by decide), u2_ne (by decide)]) ?_
            refine lv_iadd hx hb dX8_puff_207 ?_
            refine w_iastN (t := i) hx hb hK hW hS (mo_20 hM).1 (mo_20 hM).2.1 ⟨by rw [(mo_20 hM).2.2.1]; omega, by omega⟩ dX8_puff_208 (fun H locs hW hS => ?_)
            refine lv_aload_n hx hb dX8_puff_209 rfl (lv_at hl 1 rfl) ?_
            refine w_getr (ci := 9) (T := TX8) hx hb hts hin_TX8 hown hK hW hM.1.1 hM.1.2 (by decide) rfl 17 (by decide) (hts (.fieldLink RX8 53 "TownClocksModel" "contract" "[I") (by decide +kernel)) (fun _ h9 => h9) rfl (mo_17 hM).2.2.2 dX8_puff_210 ?_
            refine lv_iload_n hx hb dX8_puff_213 rfl (lv_at hl 2 rfl) ?_
            refine w_ialdN (t := i) hx hb hK hW (mo_17 hM).1 (mo_17 hM).2.1 ⟨by rw [(mo_17 hM).2.2.1]; omega, by omega⟩ dX8_puff_214 ?_
            refine w_i (by rw [u2_ne (by decide), u2_ne (by decide), u2_ne (by decide), u2_ne (by decide), u2_ne (by decide)]) ?_
            refine lv_iconst (v := 3) hx hb dX8_puff_215 (by decide) ?_
            refine lv_icmp_ne (tgt := 249) hx hb dX8_puff_216 (by decide) (fun c_216 => ?_) (fun c_216 => ?_)
            · refine lv_iinc (v := nI (i + 1)) (lv' := [(2, .int (nI (i + 1))), (1, .int (a + 1)), (0, .ref (ad 1000))]) hx hb dX8_puff_249 hl (k := 2) rfl (by rw [show Int32.ofInt 1 = 1 from by decide]; exact nI_1 _) (by decide) rfl (fun ls hl => ?_)
              refine lv_goto (tgt := 49) hx hb dX8_puff_252 (by decide) ?_
              exact ih (i + 1) _ _ (by omega) (by exact hmqW) (by exact honW) (by have h := hF; simp only [m_puffL, m_st, m_o1, m_o2, if_neg c_54, if_neg c_79, if_pos c_172, if_neg c_216, ↓reduceIte, u2_ss] at h; exact h) hc11 _ _ _ hW hS (lv_sub hl [2, 1, 0] rfl)
            · refine lv_aload_n hx hb dX8_puff_219 rfl (lv_at hl 1 rfl) ?_
              refine w_getr (ci := 9) (T := TX8) hx hb hts hin_TX8 hown hK hW hM.1.1 hM.1.2 (by decide) rfl 11 (by decide) (hts (.fieldLink RX8 34 "TownClocksModel" "late" "[I") (by decide +kernel)) (fun _ h9 => h9) rfl (mo_11 hM).2.2.2 dX8_puff_220 ?_
              refine lv_iload_n hx hb dX8_puff_223 rfl (lv_at hl 2 rfl) ?_
              refine w_ialdN (t := i) hx hb hK hW (mo_11 hM).1 (mo_11 hM).2.1 ⟨by rw [(mo_11 hM).2.2.1]; omega, by omega⟩ dX8_puff_224 ?_
              refine w_i (by rw [u2_ne (by decide), u2_ne (by decide), u2_ne (by decide), u2_ss]) ?_
              refine lv_aload_n hx hb dX8_puff_225 rfl (lv_at hl 1 rfl) ?_
              refine w_getr (ci := 9) (T := TX8) hx hb hts hin_TX8 hown hK hW hM.1.1 hM.1.2 (by decide) rfl 18 (by decide) (hts (.fieldLink RX8 56 "TownClocksModel" "first" "[I") (by decide +kernel)) (fun _ h9 => h9) rfl (mo_18 hM).2.2.2 dX8_puff_226 ?_
              refine lv_iload_n hx hb dX8_puff_229 rfl (lv_at hl 2 rfl) ?_
              refine w_ialdN (t := i) hx hb hK hW (mo_18 hM).1 (mo_18 hM).2.1 ⟨by rw [(mo_18 hM).2.2.1]; omega, by omega⟩ dX8_puff_230 ?_
              refine w_i (by rw [u2_ne (by decide), u2_ne (by decide), u2_ne (by decide), u2_ne (by decide), u2_ne (by decide)]) ?_
              refine lv_icmp_ge (tgt := 249) hx hb dX8_puff_231 (by decide) (fun c_231 => ?_) (fun c_231 => ?_)
              · refine lv_iinc (v := nI (i + 1)) (lv' := [(2, .int (nI (i + 1))), (1, .int (a + 1)), (0, .ref (ad 1000))]) hx hb dX8_puff_249 hl (k := 2) rfl (by rw [show Int32.ofInt 1 = 1 from by decide]; exact nI_1 _) (by decide) rfl (fun ls hl => ?_)
                refine lv_goto (tgt := 49) hx hb dX8_puff_252 (by decide) ?_
                exact ih (i + 1) _ _ (by omega) (by exact hmqW) (by exact honW) (by have h := hF; simp only [m_puffL, m_st, m_o1, m_o2, if_neg c_54, if_neg c_79, if_pos c_172, if_pos c_216, if_pos c_231, ↓reduceIte, u2_ss] at h; exact h) hc11 _ _ _ hW hS (lv_sub hl [2, 1, 0] rfl)
              · refine lv_aload_n hx hb dX8_puff_234 rfl (lv_at hl 1 rfl) ?_
                refine w_getr (ci := 9) (T := TX8) hx hb hts hin_TX8 hown hK hW hM.1.1 hM.1.2 (by decide) rfl 20 (by decide) (hts (.fieldLink RX8 62 "TownClocksModel" "owed" "[I") (by decide +kernel)) (fun _ h9 => h9) rfl (mo_20 hM).2.2.2 dX8_puff_235 ?_
                refine lv_iload_n hx hb dX8_puff_238 rfl (lv_at hl 2 rfl) ?_
                refine lv_dup2_11 hx hb dX8_puff_239 rfl rfl ?_
                refine w_ialdN (t := i) hx hb hK hW (mo_20 hM).1 (mo_20 hM).2.1 ⟨by rw [(mo_20 hM).2.2.1]; omega, by omega⟩ dX8_puff_240 ?_
                refine w_i (by rw [u2_ss]) ?_
                refine lv_aload_n hx hb dX8_puff_241 rfl (lv_at hl 1 rfl) ?_
                refine w_getr (ci := 9) (T := TX8) hx hb hts hin_TX8 hown hK hW hM.1.1 hM.1.2 (by decide) rfl 19 (by decide) (hts (.fieldLink RX8 59 "TownClocksModel" "second" "[I") (by decide +kernel)) (fun _ h9 => h9) rfl (mo_19 hM).2.2.2 dX8_puff_242 ?_
                refine lv_iload_n hx hb dX8_puff_245 rfl (lv_at hl 2 rfl) ?_
                refine w_ialdN (t := i) hx hb hK hW (mo_19 hM).1 (mo_19 hM).2.1 ⟨by rw [(mo_19 hM).2.2.1]; omega, by omega⟩ dX8_puff_246 ?_
                refine w_i (by rw [u2_ne (by decide), u2_ne (by decide), u2_ne (by decide), u2_ne (by decide), u2_ne (by decide)]) ?_
                refine lv_iadd hx hb dX8_puff_247 ?_
                refine w_iastN (t := i) hx hb hK hW hS (mo_20 hM).1 (mo_20 hM).2.1 ⟨by rw [(mo_20 hM).2.2.1]; omega, by omega⟩ dX8_puff_248 (fun H locs hW hS => ?_)
                refine lv_iinc (v := nI (i + 1)) (lv' := [(2, .int (nI (i + 1))), (1, .int (a + 1)), (0, .ref (ad 1000))]) hx hb dX8_puff_249 hl (k := 2) rfl (by rw [show Int32.ofInt 1 = 1 from by decide]; exact nI_1 _) (by decide) rfl (fun ls hl => ?_)
                refine lv_goto (tgt := 49) hx hb dX8_puff_252 (by decide) ?_
                exact ih (i + 1) _ _ (by omega) (by exact hmqW) (by exact honW) (by have h := hF; simp only [m_puffL, m_st, m_o1, m_o2, if_neg c_54, if_neg c_79, if_pos c_172, if_pos c_216, if_neg c_231, ↓reduceIte, u2_ss] at h; exact h) hc11 _ _ _ hW hS (lv_sub hl [2, 1, 0] rfl)
          · refine lv_aload_n hx hb dX8_puff_175 rfl (lv_at hl 1 rfl) ?_
            refine w_getr (ci := 9) (T := TX8) hx hb hts hin_TX8 hown hK hW hM.1.1 hM.1.2 (by decide) rfl 17 (by decide) (hts (.fieldLink RX8 53 "TownClocksModel" "contract" "[I") (by decide +kernel)) (fun _ h9 => h9) rfl (mo_17 hM).2.2.2 dX8_puff_176 ?_
            refine lv_iload_n hx hb dX8_puff_179 rfl (lv_at hl 2 rfl) ?_
            refine w_ialdN (t := i) hx hb hK hW (mo_17 hM).1 (mo_17 hM).2.1 ⟨by rw [(mo_17 hM).2.2.1]; omega, by omega⟩ dX8_puff_180 ?_
            refine w_i (by rw [u2_ne (by decide), u2_ne (by decide), u2_ne (by decide), u2_ne (by decide)]) ?_
            refine lv_iconst (v := 2) hx hb dX8_puff_181 (by decide) ?_
            refine lv_icmp_ne (tgt := 209) hx hb dX8_puff_182 (by decide) (fun c_182 => ?_) (fun c_182 => ?_)
            · refine lv_aload_n hx hb dX8_puff_209 rfl (lv_at hl 1 rfl) ?_
              refine w_getr (ci := 9) (T := TX8) hx hb hts hin_TX8 hown hK hW hM.1.1 hM.1.2 (by decide) rfl 17 (by decide) (hts (.fieldLink RX8 53 "TownClocksModel" "contract" "[I") (by decide +kernel)) (fun _ h9 => h9) rfl (mo_17 hM).2.2.2 dX8_puff_210 ?_
              refine lv_iload_n hx hb dX8_puff_213 rfl (lv_at hl 2 rfl) ?_
              refine w_ialdN (t := i) hx hb hK hW (mo_17 hM).1 (mo_17 hM).2.1 ⟨by rw [(mo_17 hM).2.2.1]; omega, by omega⟩ dX8_puff_214 ?_
              refine w_i (by rw [u2_ne (by decide), u2_ne (by decide), u2_ne (by decide), u2_ne (by decide)]) ?_
              refine lv_iconst (v := 3) hx hb dX8_puff_215 (by decide) ?_
              refine lv_icmp_ne (tgt := 249) hx hb dX8_puff_216 (by decide) (fun c_216 => ?_) (fun c_216 => ?_)
              · refine lv_iinc (v := nI (i + 1)) (lv' := [(2, .int (nI (i + 1))), (1, .int (a + 1)), (0, .ref (ad 1000))]) hx hb dX8_puff_249 hl (k := 2) rfl (by rw [show Int32.ofInt 1 = 1 from by decide]; exact nI_1 _) (by decide) rfl (fun ls hl => ?_)
                refine lv_goto (tgt := 49) hx hb dX8_puff_252 (by decide) ?_
                exact ih (i + 1) _ _ (by omega) (by exact hmqW) (by exact honW) (by have h := hF; simp only [m_puffL, m_st, m_o1, m_o2, if_neg c_54, if_neg c_79, if_neg c_172, if_neg c_182, if_neg c_216, ↓reduceIte, u2_ss] at h; exact h) hc11 _ _ _ hW hS (lv_sub hl [2, 1, 0] rfl)
              · refine lv_aload_n hx hb dX8_puff_219 rfl (lv_at hl 1 rfl) ?_
                refine w_getr (ci := 9) (T := TX8) hx hb hts hin_TX8 hown hK hW hM.1.1 hM.1.2 (by decide) rfl 11 (by decide) (hts (.fieldLink RX8 34 "TownClocksModel" "late" "[I") (by decide +kernel)) (fun _ h9 => h9) rfl (mo_11 hM).2.2.2 dX8_puff_220 ?_
                refine lv_iload_n hx hb dX8_puff_223 rfl (lv_at hl 2 rfl) ?_
                refine w_ialdN (t := i) hx hb hK hW (mo_11 hM).1 (mo_11 hM).2.1 ⟨by rw [(mo_11 hM).2.2.1]; omega, by omega⟩ dX8_puff_224 ?_
                refine w_i (by rw [u2_ne (by decide), u2_ne (by decide), u2_ss]) ?_
                refine lv_aload_n hx hb dX8_puff_225 rfl (lv_at hl 1 rfl) ?_
                refine w_getr (ci := 9) (T := TX8) hx hb hts hin_TX8 hown hK hW hM.1.1 hM.1.2 (by decide) rfl 18 (by decide) (hts (.fieldLink RX8 56 "TownClocksModel" "first" "[I") (by decide +kernel)) (fun _ h9 => h9) rfl (mo_18 hM).2.2.2 dX8_puff_226 ?_
                refine lv_iload_n hx hb dX8_puff_229 rfl (lv_at hl 2 rfl) ?_
                refine w_ialdN (t := i) hx hb hK hW (mo_18 hM).1 (mo_18 hM).2.1 ⟨by rw [(mo_18 hM).2.2.1]; omega, by omega⟩ dX8_puff_230 ?_
                refine w_i (by rw [u2_ne (by decide), u2_ne (by decide), u2_ne (by decide), u2_ne (by decide)]) ?_
                refine lv_icmp_ge (tgt := 249) hx hb dX8_puff_231 (by decide) (fun c_231 => ?_) (fun c_231 => ?_)
                · refine lv_iinc (v := nI (i + 1)) (lv' := [(2, .int (nI (i + 1))), (1, .int (a + 1)), (0, .ref (ad 1000))]) hx hb dX8_puff_249 hl (k := 2) rfl (by rw [show Int32.ofInt 1 = 1 from by decide]; exact nI_1 _) (by decide) rfl (fun ls hl => ?_)
                  refine lv_goto (tgt := 49) hx hb dX8_puff_252 (by decide) ?_
                  exact ih (i + 1) _ _ (by omega) (by exact hmqW) (by exact honW) (by have h := hF; simp only [m_puffL, m_st, m_o1, m_o2, if_neg c_54, if_neg c_79, if_neg c_172, if_neg c_182, if_pos c_216, if_pos c_231, ↓reduceIte, u2_ss] at h; exact h) hc11 _ _ _ hW hS (lv_sub hl [2, 1, 0] rfl)
                · refine lv_aload_n hx hb dX8_puff_234 rfl (lv_at hl 1 rfl) ?_
                  refine w_getr (ci := 9) (T := TX8) hx hb hts hin_TX8 hown hK hW hM.1.1 hM.1.2 (by decide) rfl 20 (by decide) (hts (.fieldLink RX8 62 "TownClocksModel" "owed" "[I") (by decide +kernel)) (fun _ h9 => h9) rfl (mo_20 hM).2.2.2 dX8_puff_235 ?_
                  refine lv_iload_n hx hb dX8_puff_238 rfl (lv_at hl 2 rfl) ?_
                  refine lv_dup2_11 hx hb dX8_puff_239 rfl rfl ?_
                  refine w_ialdN (t := i) hx hb hK hW (mo_20 hM).1 (mo_20 hM).2.1 ⟨by rw [(mo_20 hM).2.2.1]; omega, by omega⟩ dX8_puff_240 ?_
                  refine w_i (by rw [u2_ne (by decide), u2_ne (by decide), u2_ne (by decide), u2_ne (by decide)]) ?_
                  refine lv_aload_n hx hb dX8_puff_241 rfl (lv_at hl 1 rfl) ?_
                  refine w_getr (ci := 9) (T := TX8) hx hb hts hin_TX8 hown hK hW hM.1.1 hM.1.2 (by decide) rfl 19 (by decide) (hts (.fieldLink RX8 59 "TownClocksModel" "second" "[I") (by decide +kernel)) (fun _ h9 => h9) rfl (mo_19 hM).2.2.2 dX8_puff_242 ?_
                  refine lv_iload_n hx hb dX8_puff_245 rfl (lv_at hl 2 rfl) ?_
                  refine w_ialdN (t := i) hx hb hK hW (mo_19 hM).1 (mo_19 hM).2.1 ⟨by rw [(mo_19 hM).2.2.1]; omega, by omega⟩ dX8_puff_246 ?_
                  refine w_i (by rw [u2_ne (by decide), u2_ne (by decide), u2_ne (by decide), u2_ne (by decide)]) ?_
                  refine lv_iadd hx hb dX8_puff_247 ?_
                  refine w_iastN (t := i) hx hb hK hW hS (mo_20 hM).1 (mo_20 hM).2.1 ⟨by rw [(mo_20 hM).2.2.1]; omega, by omega⟩ dX8_puff_248 (fun H locs hW hS => ?_)
                  refine lv_iinc (v := nI (i + 1)) (lv' := [(2, .int (nI (i + 1))), (1, .int (a + 1)), (0, .ref (ad 1000))]) hx hb dX8_puff_249 hl (k := 2) rfl (by rw [show Int32.ofInt 1 = 1 from by decide]; exact nI_1 _) (by decide) rfl (fun ls hl => ?_)
                  refine lv_goto (tgt := 49) hx hb dX8_puff_252 (by decide) ?_
                  exact ih (i + 1) _ _ (by omega) (by exact hmqW) (by exact honW) (by have h := hF; simp only [m_puffL, m_st, m_o1, m_o2, if_neg c_54, if_neg c_79, if_neg c_172, if_neg c_182, if_pos c_216, if_neg c_231, ↓reduceIte, u2_ss] at h; exact h) hc11 _ _ _ hW hS (lv_sub hl [2, 1, 0] rfl)
            · refine lv_aload_n hx hb dX8_puff_185 rfl (lv_at hl 1 rfl) ?_
              refine w_getr (ci := 9) (T := TX8) hx hb hts hin_TX8 hown hK hW hM.1.1 hM.1.2 (by decide) rfl 15 (by decide) (hts (.fieldLink RX8 46 "TownClocksModel" "hasMissed" "[Z") (by decide +kernel)) (fun _ h9 => h9) rfl (mo_15 hM).2.2.2 dX8_puff_186 ?_
              refine lv_iload_n hx hb dX8_puff_189 rfl (lv_at hl 2 rfl) ?_
              refine w_zaldN (t := i) hx hb hK hW (mo_15 hM).1 (mo_15 hM).2.1 ⟨by rw [(mo_15 hM).2.2.1]; omega, by omega⟩ dX8_puff_190 ?_
              refine w_i (by rw [u2_ne (by decide), u2_ne (by decide), u2_ne (by decide), u2_ss]) ?_
              refine lv_if_ne (tgt := 209) hx hb dX8_puff_191 (by decide) (fun _ => ?_) (fun z9 => absurd z9 (by decide))
              refine lv_aload_n hx hb dX8_puff_209 rfl (lv_at hl 1 rfl) ?_
              refine w_getr (ci := 9) (T := TX8) hx hb hts hin_TX8 hown hK hW hM.1.1 hM.1.2 (by decide) rfl 17 (by decide) (hts (.fieldLink RX8 53 "TownClocksModel" "contract" "[I") (by decide +kernel)) (fun _ h9 => h9) rfl (mo_17 hM).2.2.2 dX8_puff_210 ?_
              refine lv_iload_n hx hb dX8_puff_213 rfl (lv_at hl 2 rfl) ?_
              refine w_ialdN (t := i) hx hb hK hW (mo_17 hM).1 (mo_17 hM).2.1 ⟨by rw [(mo_17 hM).2.2.1]; omega, by omega⟩ dX8_puff_214 ?_
              refine w_i (by rw [u2_ne (by decide), u2_ne (by decide), u2_ne (by decide), u2_ne (by decide)]) ?_
              refine lv_iconst (v := 3) hx hb dX8_puff_215 (by decide) ?_
              refine lv_icmp_ne (tgt := 249) hx hb dX8_puff_216 (by decide) (fun c_216 => ?_) (fun c_216 => ?_)
              · refine lv_iinc (v := nI (i + 1)) (lv' := [(2, .int (nI (i + 1))), (1, .int (a + 1)), (0, .ref (ad 1000))]) hx hb dX8_puff_249 hl (k := 2) rfl (by rw [show Int32.ofInt 1 = 1 from by decide]; exact nI_1 _) (by decide) rfl (fun ls hl => ?_)
                refine lv_goto (tgt := 49) hx hb dX8_puff_252 (by decide) ?_
                exact ih (i + 1) _ _ (by omega) (by exact hmqW) (by exact honW) (by have h := hF; simp only [m_puffL, m_st, m_o1, m_o2, if_neg c_54, if_neg c_79, if_neg c_172, if_pos c_182, if_neg c_216, ↓reduceIte, u2_ss] at h; exact h) hc11 _ _ _ hW hS (lv_sub hl [2, 1, 0] rfl)
              · refine lv_aload_n hx hb dX8_puff_219 rfl (lv_at hl 1 rfl) ?_
                refine w_getr (ci := 9) (T := TX8) hx hb hts hin_TX8 hown hK hW hM.1.1 hM.1.2 (by decide) rfl 11 (by decide) (hts (.fieldLink RX8 34 "TownClocksModel" "late" "[I") (by decide +kernel)) (fun _ h9 => h9) rfl (mo_11 hM).2.2.2 dX8_puff_220 ?_
                refine lv_iload_n hx hb dX8_puff_223 rfl (lv_at hl 2 rfl) ?_
                refine w_ialdN (t := i) hx hb hK hW (mo_11 hM).1 (mo_11 hM).2.1 ⟨by rw [(mo_11 hM).2.2.1]; omega, by omega⟩ dX8_puff_224 ?_
                refine w_i (by rw [u2_ne (by decide), u2_ne (by decide), u2_ss]) ?_
                refine lv_aload_n hx hb dX8_puff_225 rfl (lv_at hl 1 rfl) ?_
                refine w_getr (ci := 9) (T := TX8) hx hb hts hin_TX8 hown hK hW hM.1.1 hM.1.2 (by decide) rfl 18 (by decide) (hts (.fieldLink RX8 56 "TownClocksModel" "first" "[I") (by decide +kernel)) (fun _ h9 => h9) rfl (mo_18 hM).2.2.2 dX8_puff_226 ?_
                refine lv_iload_n hx hb dX8_puff_229 rfl (lv_at hl 2 rfl) ?_
                refine w_ialdN (t := i) hx hb hK hW (mo_18 hM).1 (mo_18 hM).2.1 ⟨by rw [(mo_18 hM).2.2.1]; omega, by omega⟩ dX8_puff_230 ?_
                refine w_i (by rw [u2_ne (by decide), u2_ne (by decide), u2_ne (by decide), u2_ne (by decide)]) ?_
                refine lv_icmp_ge (tgt := 249) hx hb dX8_puff_231 (by decide) (fun c_231 => ?_) (fun c_231 => ?_)
                · refine lv_iinc (v := nI (i + 1)) (lv' := [(2, .int (nI (i + 1))), (1, .int (a + 1)), (0, .ref (ad 1000))]) hx hb dX8_puff_249 hl (k := 2) rfl (by rw [show Int32.ofInt 1 = 1 from by decide]; exact nI_1 _) (by decide) rfl (fun ls hl => ?_)
                  refine lv_goto (tgt := 49) hx hb dX8_puff_252 (by decide) ?_
                  exact ih (i + 1) _ _ (by omega) (by exact hmqW) (by exact honW) (by have h := hF; simp only [m_puffL, m_st, m_o1, m_o2, if_neg c_54, if_neg c_79, if_neg c_172, if_pos c_182, if_pos c_216, if_pos c_231, ↓reduceIte, u2_ss] at h; exact h) hc11 _ _ _ hW hS (lv_sub hl [2, 1, 0] rfl)
                · refine lv_aload_n hx hb dX8_puff_234 rfl (lv_at hl 1 rfl) ?_
                  refine w_getr (ci := 9) (T := TX8) hx hb hts hin_TX8 hown hK hW hM.1.1 hM.1.2 (by decide) rfl 20 (by decide) (hts (.fieldLink RX8 62 "TownClocksModel" "owed" "[I") (by decide +kernel)) (fun _ h9 => h9) rfl (mo_20 hM).2.2.2 dX8_puff_235 ?_
                  refine lv_iload_n hx hb dX8_puff_238 rfl (lv_at hl 2 rfl) ?_
                  refine lv_dup2_11 hx hb dX8_puff_239 rfl rfl ?_
                  refine w_ialdN (t := i) hx hb hK hW (mo_20 hM).1 (mo_20 hM).2.1 ⟨by rw [(mo_20 hM).2.2.1]; omega, by omega⟩ dX8_puff_240 ?_
                  refine w_i (by rw [u2_ne (by decide), u2_ne (by decide), u2_ne (by decide), u2_ne (by decide)]) ?_
                  refine lv_aload_n hx hb dX8_puff_241 rfl (lv_at hl 1 rfl) ?_
                  refine w_getr (ci := 9) (T := TX8) hx hb hts hin_TX8 hown hK hW hM.1.1 hM.1.2 (by decide) rfl 19 (by decide) (hts (.fieldLink RX8 59 "TownClocksModel" "second" "[I") (by decide +kernel)) (fun _ h9 => h9) rfl (mo_19 hM).2.2.2 dX8_puff_242 ?_
                  refine lv_iload_n hx hb dX8_puff_245 rfl (lv_at hl 2 rfl) ?_
                  refine w_ialdN (t := i) hx hb hK hW (mo_19 hM).1 (mo_19 hM).2.1 ⟨by rw [(mo_19 hM).2.2.1]; omega, by omega⟩ dX8_puff_246 ?_
                  refine w_i (by rw [u2_ne (by decide), u2_ne (by decide), u2_ne (by decide), u2_ne (by decide)]) ?_
                  refine lv_iadd hx hb dX8_puff_247 ?_
                  refine w_iastN (t := i) hx hb hK hW hS (mo_20 hM).1 (mo_20 hM).2.1 ⟨by rw [(mo_20 hM).2.2.1]; omega, by omega⟩ dX8_puff_248 (fun H locs hW hS => ?_)
                  refine lv_iinc (v := nI (i + 1)) (lv' := [(2, .int (nI (i + 1))), (1, .int (a + 1)), (0, .ref (ad 1000))]) hx hb dX8_puff_249 hl (k := 2) rfl (by rw [show Int32.ofInt 1 = 1 from by decide]; exact nI_1 _) (by decide) rfl (fun ls hl => ?_)
                  refine lv_goto (tgt := 49) hx hb dX8_puff_252 (by decide) ?_
                  exact ih (i + 1) _ _ (by omega) (by exact hmqW) (by exact honW) (by have h := hF; simp only [m_puffL, m_st, m_o1, m_o2, if_neg c_54, if_neg c_79, if_neg c_172, if_pos c_182, if_pos c_216, if_neg c_231, ↓reduceIte, u2_ss] at h; exact h) hc11 _ _ _ hW hS (lv_sub hl [2, 1, 0] rfl)
  refine lv_aload_n hx hb dX8_puff_0 rfl (lv_at hl 0 rfl) ?_
  refine lv_iconst (v := 0) hx hb dX8_puff_1 (by decide) ?_
  refine w_puti (ci := 9) (T := TX8) (ty := .int) hx hb hts hin_TX8 tyX8 tyX8_ok nmX8 hown hK hW hS hM.1.1 hM.1.2 (by decide) rfl 0 (by decide) (hts (.fieldLink RX8 95 "TownClocksModel" "thrown" "I") (by decide +kernel)) (fun _ h9 => h9) rfl (tyX8_ok 0 (by decide)) rfl rfl (Nat.le_of_ble_eq_true rfl) rfl dX8_puff_2 (fun H locs hW hS => ?_)
  refine lv_aload_n hx hb dX8_puff_5 rfl (lv_at hl 0 rfl) ?_
  refine w_get (ci := 9) (T := TX8) hx hb hts hin_TX8 hown hK hW hM.1.1 hM.1.2 (by decide) rfl 21 (by decide) (hts (.fieldLink RX8 133 "TownClocksModel" "minute" "I") (by decide +kernel)) (fun _ h9 => h9) rfl dX8_puff_6 ?_
  refine w_i (by rw [u2_sn (by decide)]) ?_
  refine lv_ldc (v := 100000) hx hb hown (hts (.constant RX8 136 (100000)) (by decide +kernel)) dX8_puff_9 ?_
  refine lv_icmp_ne (tgt := 17) hx hb dX8_puff_11 (by decide) (fun c_11 => ?_) (fun c_11 => ?_)
  · refine lv_aload_n hx hb dX8_puff_17 rfl (lv_at hl 0 rfl) ?_
    refine lv_dup hx hb dX8_puff_18 rfl ?_
    refine w_get (ci := 9) (T := TX8) hx hb hts hin_TX8 hown hK hW hM.1.1 hM.1.2 (by decide) rfl 21 (by decide) (hts (.fieldLink RX8 133 "TownClocksModel" "minute" "I") (by decide +kernel)) (fun _ h9 => h9) rfl dX8_puff_19 ?_
    refine w_i (by rw [u2_sn (by decide)]) ?_
    refine lv_iconst (v := 1) hx hb dX8_puff_22 (by decide) ?_
    refine lv_iadd hx hb dX8_puff_23 ?_
    refine w_puti (ci := 9) (T := TX8) (ty := .int) hx hb hts hin_TX8 tyX8 tyX8_ok nmX8 hown hK hW hS hM.1.1 hM.1.2 (by decide) rfl 21 (by decide) (hts (.fieldLink RX8 133 "TownClocksModel" "minute" "I") (by decide +kernel)) (fun _ h9 => h9) rfl (tyX8_ok 21 (by decide)) rfl rfl (Nat.le_of_ble_eq_true rfl) rfl dX8_puff_24 (fun H locs hW hS => ?_)
    refine lv_aload_n hx hb dX8_puff_27 rfl (lv_at hl 0 rfl) ?_
    refine lv_dup hx hb dX8_puff_28 rfl ?_
    refine w_get (ci := 9) (T := TX8) hx hb hts hin_TX8 hown hK hW hM.1.1 hM.1.2 (by decide) rfl 23 (by decide) (hts (.fieldLink RX8 138 "TownClocksModel" "off" "J") (by decide +kernel)) (fun _ h9 => h9) rfl dX8_puff_29 ?_
    refine lv_aload_n hx hb dX8_puff_32 rfl (lv_at hl 0 rfl) ?_
    refine w_get (ci := 9) (T := TX8) hx hb hts hin_TX8 hown hK hW hM.1.1 hM.1.2 (by decide) rfl 22 (by decide) (hts (.fieldLink RX8 142 "TownClocksModel" "drift" "I") (by decide +kernel)) (fun _ h9 => h9) rfl dX8_puff_33 ?_
    refine w_i (by rw [u2_sn (by decide), u2_sn (by decide)]) ?_
    refine lv_i2l hx hb dX8_puff_36 rfl ?_
    refine lv_ladd hx hb dX8_puff_37 ?_
    refine w_putl (ci := 9) (T := TX8) (ty := .long) hx hb hts hin_TX8 tyX8 tyX8_ok nmX8 hown hK hW hS hM.1.1 hM.1.2 (by decide) rfl 23 (by decide) (hts (.fieldLink RX8 138 "TownClocksModel" "off" "J") (by decide +kernel)) (fun _ h9 => h9) rfl (tyX8_ok 23 (by decide)) rfl rfl (Nat.le_of_ble_eq_true rfl) rfl dX8_puff_38 (fun H locs hW hS => ?_)
    refine lv_aload_n hx hb dX8_puff_41 rfl (lv_at hl 0 rfl) ?_
    refine w_cv (w_runV ⟨hx, hb, hml, hown, hts⟩ (c_X8_findAir hxo l D q (u2 (u2 V 1000 0 0) 1000 21 ((V 1000 21) + 1)) (u2 J 1000 23 ((J 1000 23) + ((V 1000 22).toInt64))) R nP nD hM (by rw [u2_sn (by decide), u2_sn (by decide)]; exact hmp) hnP (by rw [u2_sn (by decide), u2_sn (by decide)]; exact hmq) hnD hpar) hxo (cwV 0 hts gX8_puff_X8_findAir rfl rfl rfl (by decide +kernel) ⟨Nat.le_of_ble_eq_true rfl, Nat.le_of_ble_eq_true rfl⟩) hK hW hS hA hXs (w_rcv hK hW hM.1.1 hM.1.2 (by decide) rfl) rfl hl.1 rfl (Nat.le_of_ble_eq_true rfl) dX8_puff_42 ⟨Nat.zero_le _, Nat.zero_le _⟩) hW hS hA (fun H locs hW hS => ?_)
    refine lv_iconst (v := 0) hx hb dX8_puff_45 (by decide) ?_
    refine lv_istore_n (lv' := [(1, .int 0), (0, .ref (ad 1000))]) hx hb dX8_puff_46 rfl hl (by decide) rfl (fun ls hl => ?_)
    refine lv_iconst (v := 0) hx hb dX8_puff_47 (by decide) ?_
    refine lv_istore_n (lv' := [(2, .int 0), (1, .int 0), (0, .ref (ad 1000))]) hx hb dX8_puff_48 rfl hl (by decide) rfl (fun ls hl => ?_)
    exact JL nD 0 _ 0 (by omega) (by rw [m_air_ne (by decide)]; exact hmq) (fun d hd => by rw [m_air_ne (by decide)]; exact hon d hd) hFe.symm c_11 _ _ _ hW hS (lv_sub hl [2, 1, 0] rfl)
  · refine lv_ldc (v := -1000002) hx hb hown (hts (.constant RX8 137 (-1000002)) (by decide +kernel)) dX8_puff_14 ?_
    exact w_iret hx hb hr hlk hW hS (by first | rfl | (simp only [m_puffR, m_puffRV, m_puffRJ, if_pos c_11, c_11, ↓reduceIte]; done) | simp [bz, m_puffR, m_puffRV, m_puffRJ, if_pos c_11, c_11]) (by first | rfl | (simp only [m_puffR, m_puffRV, m_puffRJ, if_pos c_11, c_11, ↓reduceIte]; done) | simp [bz, m_puffR, m_puffRV, m_puffRJ, if_pos c_11, c_11]) (by first | rfl | (simp only [m_puffR, m_puffRV, m_puffRJ, if_pos c_11, c_11, ↓reduceIte]; done) | simp [bz, m_puffR, m_puffRV, m_puffRJ, if_pos c_11, c_11]) rfl dX8_puff_16
set_option maxHeartbeats 4000000 in
set_option maxRecDepth 100000 in
theorem c_X8_mark {X : (Nat → Prop) → State → Prop} (hxo : xok X) (l : Launch) (D : va_G) (q : Cq) {dm : List Nat} {kd ln ad : Nat → Nat} (V : Mv) (J : Mj) (R : Mr) (nP nD : Nat) (x v : Int32) (hM : okM dm kd ln R) (hmp : V 1000 1 = nI nP) (hnP : nP ≤ 30) (hmq : V 1000 7 = nI nD) (hnD : nD ≤ 40)  : CtI X l yX8_mark wsX8_mark ({ frames := 2, cells := 0, slots := 0, locals := 46 }) D q dm kd ln ad V J R [.ref (ad 1000), .int x, .int v] (m_mark V nD x v) (m_markV V nD x v) (J) (R) := by
  refine CtI_of (cc := cX8_mark) (maxL := 5) (ret := (some .int)) (by decide +kernel) rfl (Nat.le_of_ble_eq_true rfl) ?_
  intro p e s m below meth c A hx hb hr hml hts hown hlk hmn hK hW hA hXs ls hl
  have hS : va_S A s.heap s.heap [] := va_S.rf
  have hl : lv_has ls 5 [(0, .ref (ad 1000)), (1, .int x), (2, .int v)] := hl
  have hin_TX8 : ∀ w ∈ u_ws RX8 TX8 48, w ∈ wsX8_mark := by decide +kernel
  obtain ⟨RV, hRV⟩ : ∃ r, r = lpI (fun i a => if m_markV V nD x v 1016 i = 0 then a + 0 else a + 1) nD 0 0 := ⟨_, rfl⟩
  have hmqW : m_markV V nD x v 1000 7 = nI nD := by rw [m_markV_7]; exact hmq
  have JL : ∀ n : Nat, ∀ (i : Nat) (a : Int32) (hn : i + n = nD) (hF : lpI (fun i a => if m_markV V nD x v 1016 i = 0 then a + 0 else a + 1) n i a = RV) (hc1 : inx nD x) (hc2 : 0 ≤ v ∧ v ≤ 1) (H : Heap) (locs : List Loc) (ls : Array Slot), wok A D q dm kd ln ad (m_markV V nD x v) J R H → va_S A s.heap H locs → lv_has ls 5 [(0, .ref (ad 1000)), (3, .int a), (4, .int (nI i))] → W p l e ({ frames := 2, cells := 0, slots := 0, locals := 46 }) s m ([.ref (ad 1000), .int x, .int v] : List Value).toArray below meth c H locs 0 0 (MQ below (QI (m_mark V nD x v) D q dm kd ln ad (m_markV V nD x v) (J) (R) A) ([.ref (ad 1000), .int x, .int v] : List Value).toArray s 0 0 A) (F0 m 47 ls []) := by
    intro n
    induction n with
    | zero =>
      intro i a hn hF hc1 hc2 H locs ls hW hS hl
      refine lv_iload hx hb dX8_mark_47 (lv_at hl 2 rfl) ?_
      refine lv_aload_n hx hb dX8_mark_49 rfl (lv_at hl 0 rfl) ?_
      refine w_get (ci := 9) (T := TX8) hx hb hts hin_TX8 hown hK hW hM.1.1 hM.1.2 (by decide) rfl 7 (by decide) (hts (.fieldLink RX8 128 "TownClocksModel" "dials" "I") (by decide +kernel)) (fun _ h9 => h9) rfl dX8_mark_50 ?_
      refine lv_icmp_ge (tgt := 80) hx hb dX8_mark_53 (by decide) (fun c_53 => ?_) (fun c_53 => ?_)
      · refine lv_iload_n hx hb dX8_mark_80 rfl (lv_at hl 1 rfl) ?_
        exact w_iret hx hb hr hlk hW hS (by rw [m_mark, if_pos hc1, if_pos hc2, ← hRV, ← hF]; rfl) rfl rfl rfl dX8_mark_81
      · exact absurd (by rw [hmqW]; exact nI_le (by omega) (by omega)) c_53
    | succ n ih =>
      intro i a hn hF hc1 hc2 H locs ls hW hS hl
      have hid : i < nD := by omega
      refine lv_iload hx hb dX8_mark_47 (lv_at hl 2 rfl) ?_
      refine lv_aload_n hx hb dX8_mark_49 rfl (lv_at hl 0 rfl) ?_
      refine w_get (ci := 9) (T := TX8) hx hb hts hin_TX8 hown hK hW hM.1.1 hM.1.2 (by decide) rfl 7 (by decide) (hts (.fieldLink RX8 128 "TownClocksModel" "dials" "I") (by decide +kernel)) (fun _ h9 => h9) rfl dX8_mark_50 ?_
      refine lv_icmp_ge (tgt := 80) hx hb dX8_mark_53 (by decide) (fun c_53 => ?_) (fun c_53 => ?_)
      · exact absurd c_53 (by rw [hmqW]; exact nI_ge (by omega) (by omega))
      · refine lv_iload_n hx hb dX8_mark_56 rfl (lv_at hl 1 rfl) ?_
        refine lv_aload_n hx hb dX8_mark_57 rfl (lv_at hl 0 rfl) ?_
        refine w_getr (ci := 9) (T := TX8) hx hb hts hin_TX8 hown hK hW hM.1.1 hM.1.2 (by decide) rfl 16 (by decide) (hts (.fieldLink RX8 50 "TownClocksModel" "isMarked" "[Z") (by decide +kernel)) (fun _ h9 => h9) rfl (mo_16 hM).2.2.2 dX8_mark_58 ?_
        refine lv_iload hx hb dX8_mark_61 (lv_at hl 2 rfl) ?_
        refine w_zaldN (t := i) hx hb hK hW (mo_16 hM).1 (mo_16 hM).2.1 ⟨by rw [(mo_16 hM).2.2.1]; omega, by omega⟩ dX8_mark_63 ?_
        refine lv_if_eq (tgt := 71) hx hb dX8_mark_64 (by decide) (fun c_64 => ?_) (fun c_64 => ?_)
        · refine lv_iconst (v := 0) hx hb dX8_mark_71 (by decide) ?_
          refine lv_iadd hx hb dX8_mark_72 ?_
          refine lv_istore_n (lv' := [(3, .int (a + 0)), (0, .ref (ad 1000)), (4, .int (nI i))]) hx hb dX8_mark_73 rfl hl (by decide) rfl (fun ls hl => ?_)
          refine lv_iinc (v := nI (i + 1)) (lv' := [(4, .int (nI (i + 1))), (3, .int (a + 0)), (0, .ref (ad 1000))]) hx hb dX8_mark_74 hl (k := 2) rfl (by rw [show Int32.ofInt 1 = 1 from by decide]; exact nI_1 _) (by decide) rfl (fun ls hl => ?_)
          refine lv_goto (tgt := 47) hx hb dX8_mark_77 (by decide) ?_
          exact ih (i + 1) _ (by omega) (by have h := hF; simp only [lpI, if_neg c_53, if_pos c_64] at h; exact h) hc1 hc2 _ _ _ hW hS (lv_sub hl [2, 1, 0] rfl)
        · refine lv_iconst (v := 1) hx hb dX8_mark_67 (by decide) ?_
          refine lv_goto (tgt := 72) hx hb dX8_mark_68 (by decide) ?_
          refine lv_iadd hx hb dX8_mark_72 ?_
          refine lv_istore_n (lv' := [(3, .int (a + 1)), (0, .ref (ad 1000)), (4, .int (nI i))]) hx hb dX8_mark_73 rfl hl (by decide) rfl (fun ls hl => ?_)
          refine lv_iinc (v := nI (i + 1)) (lv' := [(4, .int (nI (i + 1))), (3, .int (a + 1)), (0, .ref (ad 1000))]) hx hb dX8_mark_74 hl (k := 2) rfl (by rw [show Int32.ofInt 1 = 1 from by decide]; exact nI_1 _) (by decide) rfl (fun ls hl => ?_)
          refine lv_goto (tgt := 47) hx hb dX8_mark_77 (by decide) ?_
          exact ih (i + 1) _ (by omega) (by have h := hF; simp only [lpI, if_neg c_53, if_neg c_64] at h; exact h) hc1 hc2 _ _ _ hW hS (lv_sub hl [2, 1, 0] rfl)
  refine lv_aload_n hx hb dX8_mark_0 rfl (lv_at hl 0 rfl) ?_
  refine lv_iconst (v := 0) hx hb dX8_mark_1 (by decide) ?_
  refine w_puti (ci := 9) (T := TX8) (ty := .int) hx hb hts hin_TX8 tyX8 tyX8_ok nmX8 hown hK hW hS hM.1.1 hM.1.2 (by decide) rfl 0 (by decide) (hts (.fieldLink RX8 95 "TownClocksModel" "thrown" "I") (by decide +kernel)) (fun _ h9 => h9) rfl (tyX8_ok 0 (by decide)) rfl rfl (Nat.le_of_ble_eq_true rfl) rfl dX8_mark_2 (fun H locs hW hS => ?_)
  refine lv_aload_n hx hb dX8_mark_5 rfl (lv_at hl 0 rfl) ?_
  refine lv_iload_n hx hb dX8_mark_6 rfl (lv_at hl 1 rfl) ?_
  refine w_ci (w_runV ⟨hx, hb, hml, hown, hts⟩ (c_X8_isDial hxo l D q (u2 V 1000 0 0) J R nD x hM (by rw [u2_sn (by decide)]; exact hmq) hnD) hxo (cwV 1 hts gX8_mark_X8_isDial rfl rfl rfl (by decide +kernel) ⟨Nat.le_of_ble_eq_true rfl, Nat.le_of_ble_eq_true rfl⟩) hK hW hS hA hXs (w_rcv hK hW hM.1.1 hM.1.2 (by decide) rfl) rfl hl.1 rfl (Nat.le_of_ble_eq_true rfl) dX8_mark_7 ⟨Nat.zero_le _, Nat.zero_le _⟩) hW hS hA (fun H locs hW hS => ?_)
  refine w_ifz (tgt := 23) hx hb dX8_mark_10 (by decide) (fun c_10 => ?_) (fun c_10 => ?_)
  · refine lv_ldc (v := -1000001) hx hb hown (hts (.constant RX8 115 (-1000001)) (by decide +kernel)) dX8_mark_23 ?_
    exact w_iret hx hb hr hlk hW hS (by first | rfl | (simp only [m_mark, m_markV, if_neg c_10, c_10, ↓reduceIte]; done) | simp [bz, m_mark, m_markV, if_neg c_10, c_10]) (by first | rfl | (simp only [m_mark, m_markV, if_neg c_10, c_10, ↓reduceIte]; done) | simp [bz, m_mark, m_markV, if_neg c_10, c_10]) rfl rfl dX8_mark_25
  · refine lv_iload_n hx hb dX8_mark_13 rfl (lv_at hl 2 rfl) ?_
    refine lv_i2l hx hb dX8_mark_14 rfl ?_
    refine lv_lconst (v := 0) hx hb dX8_mark_15 (by decide) ?_
    refine lv_lconst (v := 1) hx hb dX8_mark_16 (by decide) ?_
    refine w_ci (w_runS ⟨hx, hb, hml, hown, hts⟩ (c_X8_in hxo l D q (u2 V 1000 0 0) J R v.toInt64 0 1 ) hxo (va_cwS 3 hts gX8_mark_X8_in rfl rfl rfl (by decide +kernel) ⟨Nat.le_of_ble_eq_true rfl, Nat.le_of_ble_eq_true rfl⟩) hK hW hS hA hXs rfl hl.1 rfl (Nat.le_of_ble_eq_true rfl) dX8_mark_17 ⟨Nat.zero_le _, Nat.zero_le _⟩) hW hS hA (fun H locs hW hS => ?_)
    refine w_i (bz_iff (wid_l (c := 0) (d := 1) (by decide) (by decide))) ?_
    refine w_ifnz (tgt := 26) hx hb dX8_mark_20 (by decide) (fun c_20 => ?_) (fun c_20 => ?_)
    · refine lv_aload_n hx hb dX8_mark_26 rfl (lv_at hl 0 rfl) ?_
      refine w_getr (ci := 9) (T := TX8) hx hb hts hin_TX8 hown hK hW hM.1.1 hM.1.2 (by decide) rfl 16 (by decide) (hts (.fieldLink RX8 50 "TownClocksModel" "isMarked" "[Z") (by decide +kernel)) (fun _ h9 => h9) rfl (mo_16 hM).2.2.2 dX8_mark_27 ?_
      refine lv_iload_n hx hb dX8_mark_30 rfl (lv_at hl 1 rfl) ?_
      refine lv_iload_n hx hb dX8_mark_31 rfl (lv_at hl 2 rfl) ?_
      refine lv_iconst (v := 1) hx hb dX8_mark_32 (by decide) ?_
      refine lv_icmp_ne (tgt := 40) hx hb dX8_mark_33 (by decide) (fun c_33 => ?_) (fun c_33 => ?_)
      · refine lv_iconst (v := 0) hx hb dX8_mark_40 (by decide) ?_
        refine w_zast hx hb hK hW hS (mo_16 hM).1 (mo_16 hM).2.1 (by rw [(mo_16 hM).2.2.1]; exact inx_v.mpr ⟨c_10.1, by have h9 := c_10.2; show _ < ((40 : Nat) : Int); omega⟩) dX8_mark_41 (fun H locs hW hS => ?_)
        rw [show vp_nar .boolean 0 = 0 from by decide] at hW
        rw [show u2 (u2 V 1000 0 0) 1016 x.toNatClampNeg 0 = m_markV V nD x v from by simp only [m_markV, if_pos c_10, if_pos c_20, if_neg c_33]] at hW
        refine lv_iconst (v := 0) hx hb dX8_mark_42 (by decide) ?_
        refine lv_istore_n (lv' := [(3, .int 0), (0, .ref (ad 1000)), (1, .int x), (2, .int v)]) hx hb dX8_mark_43 rfl hl (by decide) rfl (fun ls hl => ?_)
        refine lv_iconst (v := 0) hx hb dX8_mark_44 (by decide) ?_
        refine lv_istore (lv' := [(4, .int 0), (3, .int 0), (0, .ref (ad 1000)), (1, .int x), (2, .int v)]) hx hb dX8_mark_45 hl (by decide) rfl (fun ls hl => ?_)
        exact JL nD 0 0 (by omega) hRV.symm c_10 c_20 _ _ _ hW hS (lv_sub hl [2, 1, 0] rfl)
      · refine lv_iconst (v := 1) hx hb dX8_mark_36 (by decide) ?_
        refine lv_goto (tgt := 41) hx hb dX8_mark_37 (by decide) ?_
        refine w_zast hx hb hK hW hS (mo_16 hM).1 (mo_16 hM).2.1 (by rw [(mo_16 hM).2.2.1]; exact inx_v.mpr ⟨c_10.1, by have h9 := c_10.2; show _ < ((40 : Nat) : Int); omega⟩) dX8_mark_41 (fun H locs hW hS => ?_)
        rw [show vp_nar .boolean 1 = 1 from by decide] at hW
        rw [show u2 (u2 V 1000 0 0) 1016 x.toNatClampNeg 1 = m_markV V nD x v from by simp only [m_markV, if_pos c_10, if_pos c_20, if_pos c_33]] at hW
        refine lv_iconst (v := 0) hx hb dX8_mark_42 (by decide) ?_
        refine lv_istore_n (lv' := [(3, .int 0), (0, .ref (ad 1000)), (1, .int x), (2, .int v)]) hx hb dX8_mark_43 rfl hl (by decide) rfl (fun ls hl => ?_)
        refine lv_iconst (v := 0) hx hb dX8_mark_44 (by decide) ?_
        refine lv_istore (lv' := [(4, .int 0), (3, .int 0), (0, .ref (ad 1000)), (1, .int x), (2, .int v)]) hx hb dX8_mark_45 hl (by decide) rfl (fun ls hl => ?_)
        exact JL nD 0 0 (by omega) hRV.symm c_10 c_20 _ _ _ hW hS (lv_sub hl [2, 1, 0] rfl)
    · refine lv_ldc (v := -1000001) hx hb hown (hts (.constant RX8 115 (-1000001)) (by decide +kernel)) dX8_mark_23 ?_
      exact w_iret hx hb hr hlk hW hS (by first | rfl | (simp only [m_mark, m_markV, if_pos c_10, if_neg c_20, c_10, c_20, ↓reduceIte]; done) | simp [bz, m_mark, m_markV, if_pos c_10, if_neg c_20, c_10, c_20]) (by first | rfl | (simp only [m_mark, m_markV, if_pos c_10, if_neg c_20, c_10, c_20, ↓reduceIte]; done) | simp [bz, m_mark, m_markV, if_pos c_10, if_neg c_20, c_10, c_20]) rfl rfl dX8_mark_25
set_option maxHeartbeats 4000000 in
set_option maxRecDepth 100000 in
theorem c_X8_round {X : (Nat → Prop) → State → Prop} (hxo : xok X) (l : Launch) (D : va_G) (q : Cq) {dm : List Nat} {kd ln ad : Nat → Nat} (V : Mv) (J : Mj) (R : Mr) (nP nD : Nat) (x : Int32) (hM : okM dm kd ln R) (hmp : V 1000 1 = nI nP) (hnP : nP ≤ 30) (hmq : V 1000 7 = nI nD) (hnD : nD ≤ 40)  : CtI X l yX8_round wsX8_round ({ frames := 1, cells := 0, slots := 0, locals := 25 }) D q dm kd ln ad V J R [.ref (ad 1000), .int x] (m_round V nD x) (m_roundV V nD x) (J) (R) := by
  refine CtI_of (cc := cX8_round) (maxL := 6) (ret := (some .int)) (by decide +kernel) rfl (Nat.le_of_ble_eq_true rfl) ?_
  intro p e s m below meth c A hx hb hr hml hts hown hlk hmn hK hW hA hXs ls hl
  have hS : va_S A s.heap s.heap [] := va_S.rf
  have hl : lv_has ls 6 [(0, .ref (ad 1000)), (1, .int x)] := hl
  have hin_TX8 : ∀ w ∈ u_ws RX8 TX8 48, w ∈ wsX8_round := by decide +kernel
  obtain ⟨K, hKe⟩ : ∃ k, k = x.toNatClampNeg := ⟨_, rfl⟩
  obtain ⟨F, hFe⟩ : ∃ r, r = m_roundL nD x.toNatClampNeg (u2 V 1000 0 0) 0 := ⟨_, rfl⟩
  have JL : ∀ n : Nat, ∀ (d : Nat) (Vw : Mv) (hn : d + n = K) (hmqW : Vw 1000 7 = nI nD) (hF : m_roundL nD n Vw (nI d) = F) (hcx : 1 ≤ x ∧ x ≤ 10) (hxK : x = nI K) (hK10 : K ≤ 10) (H : Heap) (locs : List Loc) (ls : Array Slot), wok A D q dm kd ln ad Vw J R H → va_S A s.heap H locs → lv_has ls 6 [(0, .ref (ad 1000)), (1, .int x), (2, .int (nI d)), (3, .int 1)] → W p l e ({ frames := 1, cells := 0, slots := 0, locals := 25 }) s m ([.ref (ad 1000), .int x] : List Value).toArray below meth c H locs 0 0 (MQ below (QI (m_round V nD x) D q dm kd ln ad (m_roundV V nD x) (J) (R) A) ([.ref (ad 1000), .int x] : List Value).toArray s 0 0 A) (F0 m 24 ls []) := by
    intro n
    induction n with
    | zero =>
      intro d Vw hn hmqW hF hcx hxK hK10 H locs ls hW hS hl
      refine lv_iload_n hx hb dX8_round_24 rfl (lv_at hl 3 rfl) ?_
      refine lv_if_eq (tgt := 128) hx hb dX8_round_25 (by decide) (fun z9 => absurd z9 (by decide)) (fun _ => ?_)
      refine lv_iload_n hx hb dX8_round_28 rfl (lv_at hl 2 rfl) ?_
      refine lv_iload_n hx hb dX8_round_29 rfl (lv_at hl 1 rfl) ?_
      refine lv_icmp_ge (tgt := 128) hx hb dX8_round_30 (by decide) (fun c_30 => ?_) (fun c_30 => ?_)
      · refine lv_iload_n hx hb dX8_round_128 rfl (lv_at hl 2 rfl) ?_
        exact w_iret hx hb hr hlk hW hS (by simp only [m_round, if_pos hcx, ← hFe, ← hF, m_roundL]) (by simp only [m_roundV, if_pos hcx, ← hFe, ← hF, m_roundL]) rfl rfl dX8_round_129
      · exact absurd (by rw [hxK]; exact nI_le (by omega) (by omega)) c_30
    | succ n ih =>
      intro d Vw hn hmqW hF hcx hxK hK10 H locs ls hW hS hl
      obtain ⟨BB, hBe⟩ : ∃ b, m_mw Vw nD 0 (-1000000) = b := ⟨_, rfl⟩
      have J40 : ∀ n2 : Nat, ∀ (i : Nat) (bb : Int32) (hn2 : i + n2 = nD) (hbb : bb = -1000000 ∨ inx nD bb) (hB : m_mw Vw n2 i bb = BB) (H : Heap) (locs : List Loc) (ls : Array Slot), wok A D q dm kd ln ad Vw J R H → va_S A s.heap H locs → lv_has ls 6 [(0, .ref (ad 1000)), (1, .int x), (2, .int (nI d)), (3, .int 1), (4, .int bb), (5, .int (nI i))] → W p l e ({ frames := 1, cells := 0, slots := 0, locals := 25 }) s m ([.ref (ad 1000), .int x] : List Value).toArray below meth c H locs 0 0 (MQ below (QI (m_round V nD x) D q dm kd ln ad (m_roundV V nD x) (J) (R) A) ([.ref (ad 1000), .int x] : List Value).toArray s 0 0 A) (F0 m 40 ls []) := by
        intro n2
        induction n2 with
        | zero =>
          intro i bb hn2 hbb hB H locs ls hW hS hl
          have hB2 : bb = BB := hB
          subst hB2
          refine lv_iload hx hb dX8_round_40 (lv_at hl 5 rfl) ?_
          refine lv_aload_n hx hb dX8_round_42 rfl (lv_at hl 0 rfl) ?_
          refine w_get (ci := 9) (T := TX8) hx hb hts hin_TX8 hown hK hW hM.1.1 hM.1.2 (by decide) rfl 7 (by decide) (hts (.fieldLink RX8 128 "TownClocksModel" "dials" "I") (by decide +kernel)) (fun _ h9 => h9) rfl dX8_round_43 ?_
          refine lv_icmp_ge (tgt := 99) hx hb dX8_round_46 (by decide) (fun c_46 => ?_) (fun c_46 => ?_)
          · refine lv_iload hx hb dX8_round_99 (lv_at hl 4 rfl) ?_
            refine lv_ldc (v := -1000000) hx hb hown (hts (.constant RX8 106 (-1000000)) (by decide +kernel)) dX8_round_101 ?_
            refine lv_icmp_eq (tgt := 110) hx hb dX8_round_103 (by decide) (fun c_103 => ?_) (fun c_103 => ?_)
            · refine lv_iconst (v := 0) hx hb dX8_round_110 (by decide) ?_
              refine lv_istore_n (lv' := [(3, .int 0), (0, .ref (ad 1000)), (1, .int x), (2, .int (nI d)), (4, .int bb), (5, .int (nI i))]) hx hb dX8_round_111 rfl hl (by decide) rfl (fun ls hl => ?_)
              refine lv_iload_n hx hb dX8_round_112 rfl (lv_at hl 0 rfl) ?_
              refine lv_if_eq (tgt := 125) hx hb dX8_round_113 (by decide) (fun _ => ?_) (fun z9 => absurd z9 (by decide))
              refine lv_goto (tgt := 24) hx hb dX8_round_125 (by decide) ?_
              refine lv_iload_n hx hb dX8_round_24 rfl (lv_at hl 0 rfl) ?_
              refine lv_if_eq (tgt := 128) hx hb dX8_round_25 (by decide) (fun _ => ?_) (fun z9 => absurd z9 (by decide))
              refine lv_iload_n hx hb dX8_round_128 rfl (lv_at hl 3 rfl) ?_
              exact w_iret hx hb hr hlk hW hS (by simp only [m_round, if_pos hcx, ← hFe, ← hF, m_roundL, hBe, if_pos c_103]) (by simp only [m_roundV, if_pos hcx, ← hFe, ← hF, m_roundL, hBe, if_pos c_103]) rfl rfl dX8_round_129
            · refine lv_iconst (v := 1) hx hb dX8_round_106 (by decide) ?_
              refine lv_goto (tgt := 111) hx hb dX8_round_107 (by decide) ?_
              refine lv_istore_n (lv' := [(3, .int 1), (0, .ref (ad 1000)), (1, .int x), (2, .int (nI d)), (4, .int bb), (5, .int (nI i))]) hx hb dX8_round_111 rfl hl (by decide) rfl (fun ls hl => ?_)
              refine lv_iload_n hx hb dX8_round_112 rfl (lv_at hl 0 rfl) ?_
              refine lv_if_eq (tgt := 125) hx hb dX8_round_113 (by decide) (fun z9 => absurd z9 (by decide)) (fun _ => ?_)
              refine lv_aload_n hx hb dX8_round_116 rfl (lv_at hl 1 rfl) ?_
              refine lv_iload hx hb dX8_round_117 (lv_at hl 4 rfl) ?_
              refine w_cv (w_runV ⟨hx, hb, hml, hown, hts⟩ (c_X8_makeRight hxo l D q Vw J R bb hM (by have h9 := hbb.resolve_left c_103; exact ⟨h9.1, by have h8 := h9.2; show _ < ((40 : Nat) : Int); omega⟩)) hxo (cwV 1 hts gX8_round_X8_makeRight rfl rfl rfl (by decide +kernel) ⟨Nat.le_of_ble_eq_true rfl, Nat.le_of_ble_eq_true rfl⟩) hK hW hS hA hXs (w_rcv hK hW hM.1.1 hM.1.2 (by decide) rfl) rfl hl.1 rfl (Nat.le_of_ble_eq_true rfl) dX8_round_119 ⟨Nat.zero_le _, Nat.zero_le _⟩) hW hS hA (fun H locs hW hS => ?_)
              refine lv_iinc (v := nI (d + 1)) (lv' := [(2, .int (nI (d + 1))), (3, .int 1), (0, .ref (ad 1000)), (1, .int x), (4, .int bb), (5, .int (nI i))]) hx hb dX8_round_122 hl (k := 3) rfl (by rw [show Int32.ofInt 1 = 1 from by decide]; exact nI_1 _) (by decide) rfl (fun ls hl => ?_)
              refine lv_goto (tgt := 24) hx hb dX8_round_125 (by decide) ?_
              exact ih (d + 1) (m_rt Vw bb.toNatClampNeg) (by omega) (show m_rt Vw bb.toNatClampNeg 1000 7 = nI nD from hmqW) (by have h := hF; simp only [m_roundL, hBe, if_neg c_103, nI_1] at h; exact h) hcx hxK hK10 _ _ _ hW hS (lv_sub hl [2, 3, 0, 1] rfl)
          · exact absurd (by rw [hmqW]; exact nI_le (by omega) (by omega)) c_46
        | succ n2 ih2 =>
          intro i bb hn2 hbb hB H locs ls hW hS hl
          have hid : i < nD := by omega
          refine lv_iload hx hb dX8_round_40 (lv_at hl 5 rfl) ?_
          refine lv_aload_n hx hb dX8_round_42 rfl (lv_at hl 0 rfl) ?_
          refine w_get (ci := 9) (T := TX8) hx hb hts hin_TX8 hown hK hW hM.1.1 hM.1.2 (by decide) rfl 7 (by decide) (hts (.fieldLink RX8 128 "TownClocksModel" "dials" "I") (by decide +kernel)) (fun _ h9 => h9) rfl dX8_round_43 ?_
          refine lv_icmp_ge (tgt := 99) hx hb dX8_round_46 (by decide) (fun c_46 => ?_) (fun c_46 => ?_)
          · exact absurd c_46 (by rw [hmqW]; exact nI_ge (by omega) (by omega))
          · refine lv_aload_n hx hb dX8_round_49 rfl (lv_at hl 0 rfl) ?_
            refine w_getr (ci := 9) (T := TX8) hx hb hts hin_TX8 hown hK hW hM.1.1 hM.1.2 (by decide) rfl 11 (by decide) (hts (.fieldLink RX8 34 "TownClocksModel" "late" "[I") (by decide +kernel)) (fun _ h9 => h9) rfl (mo_11 hM).2.2.2 dX8_round_50 ?_
            refine lv_iload hx hb dX8_round_53 (lv_at hl 5 rfl) ?_
            refine w_ialdN (t := i) hx hb hK hW (mo_11 hM).1 (mo_11 hM).2.1 ⟨by rw [(mo_11 hM).2.2.1]; omega, by omega⟩ dX8_round_55 ?_
            refine lv_if_eq (tgt := 93) hx hb dX8_round_56 (by decide) (fun c_56 => ?_) (fun c_56 => ?_)
            · refine lv_iinc (v := nI (i + 1)) (lv' := [(5, .int (nI (i + 1))), (0, .ref (ad 1000)), (1, .int x), (2, .int (nI d)), (3, .int 1), (4, .int bb)]) hx hb dX8_round_93 hl (k := 5) rfl (by rw [show Int32.ofInt 1 = 1 from by decide]; exact nI_1 _) (by decide) rfl (fun ls hl => ?_)
              refine lv_goto (tgt := 40) hx hb dX8_round_96 (by decide) ?_
              exact ih2 (i + 1) _ (by omega) hbb (by have h := hB; simp only [m_mw, if_neg c_46, if_pos c_56] at h; exact h) _ _ _ hW hS (lv_sub hl [1, 2, 3, 4, 5, 0] rfl)
            · refine lv_iload hx hb dX8_round_59 (lv_at hl 4 rfl) ?_
              refine lv_ldc (v := -1000000) hx hb hown (hts (.constant RX8 106 (-1000000)) (by decide +kernel)) dX8_round_61 ?_
              refine lv_icmp_eq (tgt := 89) hx hb dX8_round_63 (by decide) (fun c_63 => ?_) (fun c_63 => ?_)
              · refine lv_iload hx hb dX8_round_89 (lv_at hl 5 rfl) ?_
                refine lv_istore (lv' := [(4, .int (nI i)), (0, .ref (ad 1000)), (1, .int x), (2, .int (nI d)), (3, .int 1), (5, .int (nI i))]) hx hb dX8_round_91 hl (by decide) rfl (fun ls hl => ?_)
                refine lv_iinc (v := nI (i + 1)) (lv' := [(5, .int (nI (i + 1))), (4, .int (nI i)), (0, .ref (ad 1000)), (1, .int x), (2, .int (nI d)), (3, .int 1)]) hx hb dX8_round_93 hl (k := 5) rfl (by rw [show Int32.ofInt 1 = 1 from by decide]; exact nI_1 _) (by decide) rfl (fun ls hl => ?_)
                refine lv_goto (tgt := 40) hx hb dX8_round_96 (by decide) ?_
                exact ih2 (i + 1) _ (by omega) (Or.inr (inx_n hid (by omega))) (by have h := hB; simp only [m_mw, if_neg c_46, if_neg c_56, if_pos c_63] at h; exact h) _ _ _ hW hS (lv_sub hl [2, 3, 4, 5, 1, 0] rfl)
              · refine lv_aload_n hx hb dX8_round_66 rfl (lv_at hl 0 rfl) ?_
                refine w_getr (ci := 9) (T := TX8) hx hb hts hin_TX8 hown hK hW hM.1.1 hM.1.2 (by decide) rfl 11 (by decide) (hts (.fieldLink RX8 34 "TownClocksModel" "late" "[I") (by decide +kernel)) (fun _ h9 => h9) rfl (mo_11 hM).2.2.2 dX8_round_67 ?_
                refine lv_iload hx hb dX8_round_70 (lv_at hl 5 rfl) ?_
                refine w_ialdN (t := i) hx hb hK hW (mo_11 hM).1 (mo_11 hM).2.1 ⟨by rw [(mo_11 hM).2.2.1]; omega, by omega⟩ dX8_round_72 ?_
                refine w_ci (w_runS ⟨hx, hb, hml, hown, hts⟩ (c_X8_size hxo l D q Vw J R (Vw 1011 i) ) hxo (va_cwS 1 hts gX8_round_X8_size rfl rfl rfl (by decide +kernel) ⟨Nat.le_of_ble_eq_true rfl, Nat.le_of_ble_eq_true rfl⟩) hK hW hS hA hXs rfl hl.1 rfl (Nat.le_of_ble_eq_true rfl) dX8_round_73 ⟨Nat.zero_le _, Nat.zero_le _⟩) hW hS hA (fun H locs hW hS => ?_)
                refine lv_aload_n hx hb dX8_round_76 rfl (lv_at hl 0 rfl) ?_
                refine w_getr (ci := 9) (T := TX8) hx hb hts hin_TX8 hown hK hW hM.1.1 hM.1.2 (by decide) rfl 11 (by decide) (hts (.fieldLink RX8 34 "TownClocksModel" "late" "[I") (by decide +kernel)) (fun _ h9 => h9) rfl (mo_11 hM).2.2.2 dX8_round_77 ?_
                refine lv_iload hx hb dX8_round_80 (lv_at hl 4 rfl) ?_
                refine w_iald hx hb hK hW (mo_11 hM).1 (mo_11 hM).2.1 (by rw [(mo_11 hM).2.2.1]; have h9 := hbb.resolve_left c_63; exact inx_v.mpr ⟨h9.1, by have h8 := h9.2; show _ < ((40 : Nat) : Int); omega⟩) dX8_round_82 ?_
                refine w_ci (w_runS ⟨hx, hb, hml, hown, hts⟩ (c_X8_size hxo l D q Vw J R (Vw 1011 bb.toNatClampNeg) ) hxo (va_cwS 1 hts gX8_round_X8_size rfl rfl rfl (by decide +kernel) ⟨Nat.le_of_ble_eq_true rfl, Nat.le_of_ble_eq_true rfl⟩) hK hW hS hA hXs rfl hl.1 rfl (Nat.le_of_ble_eq_true rfl) dX8_round_83 ⟨Nat.zero_le _, Nat.zero_le _⟩) hW hS hA (fun H locs hW hS => ?_)
                refine lv_icmp_le (tgt := 93) hx hb dX8_round_86 (by decide) (fun c_86 => ?_) (fun c_86 => ?_)
                · refine lv_iinc (v := nI (i + 1)) (lv' := [(5, .int (nI (i + 1))), (0, .ref (ad 1000)), (1, .int x), (2, .int (nI d)), (3, .int 1), (4, .int bb)]) hx hb dX8_round_93 hl (k := 5) rfl (by rw [show Int32.ofInt 1 = 1 from by decide]; exact nI_1 _) (by decide) rfl (fun ls hl => ?_)
                  refine lv_goto (tgt := 40) hx hb dX8_round_96 (by decide) ?_
                  exact ih2 (i + 1) _ (by omega) hbb (by have h := hB; simp only [m_mw, if_neg c_46, if_neg c_56, if_neg c_63, if_pos c_86] at h; exact h) _ _ _ hW hS (lv_sub hl [1, 2, 3, 4, 5, 0] rfl)
                · refine lv_iload hx hb dX8_round_89 (lv_at hl 5 rfl) ?_
                  refine lv_istore (lv' := [(4, .int (nI i)), (0, .ref (ad 1000)), (1, .int x), (2, .int (nI d)), (3, .int 1), (5, .int (nI i))]) hx hb dX8_round_91 hl (by decide) rfl (fun ls hl => ?_)
                  refine lv_iinc (v := nI (i + 1)) (lv' := [(5, .int (nI (i + 1))), (4, .int (nI i)), (0, .ref (ad 1000)), (1, .int x), (2, .int (nI d)), (3, .int 1)]) hx hb dX8_round_93 hl (k := 5) rfl (by rw [show Int32.ofInt 1 = 1 from by decide]; exact nI_1 _) (by decide) rfl (fun ls hl => ?_)
                  refine lv_goto (tgt := 40) hx hb dX8_round_96 (by decide) ?_
                  exact ih2 (i + 1) _ (by omega) (Or.inr (inx_n hid (by omega))) (by have h := hB; simp only [m_mw, if_neg c_46, if_neg c_56, if_neg c_63, if_neg c_86] at h; exact h) _ _ _ hW hS (lv_sub hl [2, 3, 4, 5, 1, 0] rfl)
      refine lv_iload_n hx hb dX8_round_24 rfl (lv_at hl 3 rfl) ?_
      refine lv_if_eq (tgt := 128) hx hb dX8_round_25 (by decide) (fun z9 => absurd z9 (by decide)) (fun _ => ?_)
      refine lv_iload_n hx hb dX8_round_28 rfl (lv_at hl 2 rfl) ?_
      refine lv_iload_n hx hb dX8_round_29 rfl (lv_at hl 1 rfl) ?_
      refine lv_icmp_ge (tgt := 128) hx hb dX8_round_30 (by decide) (fun c_30 => ?_) (fun c_30 => ?_)
      · exact absurd c_30 (by rw [hxK]; exact nI_ge (by omega) (by omega))
      · refine lv_ldc (v := -1000000) hx hb hown (hts (.constant RX8 106 (-1000000)) (by decide +kernel)) dX8_round_33 ?_
        refine lv_istore (lv' := [(4, .int (-1000000)), (0, .ref (ad 1000)), (1, .int x), (2, .int (nI d)), (3, .int 1)]) hx hb dX8_round_35 hl (by decide) rfl (fun ls hl => ?_)
        refine lv_iconst (v := 0) hx hb dX8_round_37 (by decide) ?_
        refine lv_istore (lv' := [(5, .int 0), (4, .int (-1000000)), (0, .ref (ad 1000)), (1, .int x), (2, .int (nI d)), (3, .int 1)]) hx hb dX8_round_38 hl (by decide) rfl (fun ls hl => ?_)
        exact J40 nD 0 (-1000000) (by omega) (Or.inl rfl) hBe _ _ _ hW hS (lv_sub hl [2, 3, 4, 5, 1, 0] rfl)
  refine lv_aload_n hx hb dX8_round_0 rfl (lv_at hl 0 rfl) ?_
  refine lv_iconst (v := 0) hx hb dX8_round_1 (by decide) ?_
  refine w_puti (ci := 9) (T := TX8) (ty := .int) hx hb hts hin_TX8 tyX8 tyX8_ok nmX8 hown hK hW hS hM.1.1 hM.1.2 (by decide) rfl 0 (by decide) (hts (.fieldLink RX8 95 "TownClocksModel" "thrown" "I") (by decide +kernel)) (fun _ h9 => h9) rfl (tyX8_ok 0 (by decide)) rfl rfl (Nat.le_of_ble_eq_true rfl) rfl dX8_round_2 (fun H locs hW hS => ?_)
  refine lv_iload_n hx hb dX8_round_5 rfl (lv_at hl 1 rfl) ?_
  refine lv_i2l hx hb dX8_round_6 rfl ?_
  refine lv_lconst (v := 1) hx hb dX8_round_7 (by decide) ?_
  refine lv_ldc2 (v := 10) hx hb hown (hts (.constantLong RX8 166 (10)) (by decide +kernel)) dX8_round_8 ?_
  refine w_ci (w_runS ⟨hx, hb, hml, hown, hts⟩ (c_X8_in hxo l D q (u2 V 1000 0 0) J R x.toInt64 1 10 ) hxo (va_cwS 3 hts gX8_round_X8_in rfl rfl rfl (by decide +kernel) ⟨Nat.le_of_ble_eq_true rfl, Nat.le_of_ble_eq_true rfl⟩) hK hW hS hA hXs rfl hl.1 rfl (Nat.le_of_ble_eq_true rfl) dX8_round_11 ⟨Nat.zero_le _, Nat.zero_le _⟩) hW hS hA (fun H locs hW hS => ?_)
  refine w_i (bz_iff (wid_l (c := 1) (d := 10) (by decide) (by decide))) ?_
  refine w_ifnz (tgt := 20) hx hb dX8_round_14 (by decide) (fun c_14 => ?_) (fun c_14 => ?_)
  · refine lv_iconst (v := 0) hx hb dX8_round_20 (by decide) ?_
    refine lv_istore_n (lv' := [(2, .int 0), (0, .ref (ad 1000)), (1, .int x)]) hx hb dX8_round_21 rfl hl (by decide) rfl (fun ls hl => ?_)
    refine lv_iconst (v := 1) hx hb dX8_round_22 (by decide) ?_
    refine lv_istore_n (lv' := [(3, .int 1), (2, .int 0), (0, .ref (ad 1000)), (1, .int x)]) hx hb dX8_round_23 rfl hl (by decide) rfl (fun ls hl => ?_)
    exact JL K 0 (u2 V 1000 0 0) (by omega) hmq (by rw [hFe, hKe]; rfl) c_14 (by rw [hKe]; exact (r_k c_14).1) (by rw [hKe]; exact (r_k c_14).2) _ _ _ hW hS (lv_sub hl [2, 3, 1, 0] rfl)
  · refine lv_ldc (v := -1000001) hx hb hown (hts (.constant RX8 115 (-1000001)) (by decide +kernel)) dX8_round_17 ?_
    exact w_iret hx hb hr hlk hW hS (by first | rfl | (simp only [m_round, m_roundV, if_neg c_14, c_14, ↓reduceIte]; done) | simp [bz, m_round, m_roundV, if_neg c_14, c_14]) (by first | rfl | (simp only [m_round, m_roundV, if_neg c_14, c_14, ↓reduceIte]; done) | simp [bz, m_round, m_roundV, if_neg c_14, c_14]) rfl rfl dX8_round_19
