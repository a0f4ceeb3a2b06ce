theorem mo_2 {dm : List Nat} {kd ln : Nat → Nat} {R : Mr} (hM : okM dm kd ln R) : 1002 ∈ dm ∧ kd 1002 = 10 ∧ ln 1002 = 30 ∧ R 1000 2 = some 1002 := hM.2 2 (by decide)
theorem mo_3 {dm : List Nat} {kd ln : Nat → Nat} {R : Mr} (hM : okM dm kd ln R) : 1003 ∈ dm ∧ kd 1003 = 10 ∧ ln 1003 = 30 ∧ R 1000 3 = some 1003 := hM.2 3 (by decide)
theorem mo_4 {dm : List Nat} {kd ln : Nat → Nat} {R : Mr} (hM : okM dm kd ln R) : 1004 ∈ dm ∧ kd 1004 = 10 ∧ ln 1004 = 30 ∧ R 1000 4 = some 1004 := hM.2 4 (by decide)
theorem mo_5 {dm : List Nat} {kd ln : Nat → Nat} {R : Mr} (hM : okM dm kd ln R) : 1005 ∈ dm ∧ kd 1005 = 10 ∧ ln 1005 = 30 ∧ R 1000 5 = some 1005 := hM.2 5 (by decide)
theorem mo_6 {dm : List Nat} {kd ln : Nat → Nat} {R : Mr} (hM : okM dm kd ln R) : 1006 ∈ dm ∧ kd 1006 = 10 ∧ ln 1006 = 30 ∧ R 1000 6 = some 1006 := hM.2 6 (by decide)
theorem mo_8 {dm : List Nat} {kd ln : Nat → Nat} {R : Mr} (hM : okM dm kd ln R) : 1008 ∈ dm ∧ kd 1008 = 10 ∧ ln 1008 = 40 ∧ R 1000 8 = some 1008 := hM.2 8 (by decide)
theorem mo_9 {dm : List Nat} {kd ln : Nat → Nat} {R : Mr} (hM : okM dm kd ln R) : 1009 ∈ dm ∧ kd 1009 = 10 ∧ ln 1009 = 40 ∧ R 1000 9 = some 1009 := hM.2 9 (by decide)
theorem mo_10 {dm : List Nat} {kd ln : Nat → Nat} {R : Mr} (hM : okM dm kd ln R) : 1010 ∈ dm ∧ kd 1010 = 10 ∧ ln 1010 = 40 ∧ R 1000 10 = some 1010 := hM.2 10 (by decide)
theorem mo_11 {dm : List Nat} {kd ln : Nat → Nat} {R : Mr} (hM : okM dm kd ln R) : 1011 ∈ dm ∧ kd 1011 = 10 ∧ ln 1011 = 40 ∧ R 1000 11 = some 1011 := hM.2 11 (by decide)
theorem mo_12 {dm : List Nat} {kd ln : Nat → Nat} {R : Mr} (hM : okM dm kd ln R) : 1012 ∈ dm ∧ kd 1012 = 10 ∧ ln 1012 = 40 ∧ R 1000 12 = some 1012 := hM.2 12 (by decide)
theorem mo_13 {dm : List Nat} {kd ln : Nat → Nat} {R : Mr} (hM : okM dm kd ln R) : 1013 ∈ dm ∧ kd 1013 = 10 ∧ ln 1013 = 40 ∧ R 1000 13 = some 1013 := hM.2 13 (by decide)
theorem mo_14 {dm : List Nat} {kd ln : Nat → Nat} {R : Mr} (hM : okM dm kd ln R) : 1014 ∈ dm ∧ kd 1014 = 10 ∧ ln 1014 = 40 ∧ R 1000 14 = some 1014 := hM.2 14 (by decide)
theorem mo_15 {dm : List Nat} {kd ln : Nat → Nat} {R : Mr} (hM : okM dm kd ln R) : 1015 ∈ dm ∧ kd 1015 = 12 ∧ ln 1015 = 40 ∧ R 1000 15 = some 1015 := hM.2 15 (by decide)
theorem mo_16 {dm : List Nat} {kd ln : Nat → Nat} {R : Mr} (hM : okM dm kd ln R) : 1016 ∈ dm ∧ kd 1016 = 12 ∧ ln 1016 = 40 ∧ R 1000 16 = some 1016 := hM.2 16 (by decide)
theorem mo_17 {dm : List Nat} {kd ln : Nat → Nat} {R : Mr} (hM : okM dm kd ln R) : 1017 ∈ dm ∧ kd 1017 = 10 ∧ ln 1017 = 40 ∧ R 1000 17 = some 1017 := hM.2 17 (by decide)
theorem mo_18 {dm : List Nat} {kd ln : Nat → Nat} {R : Mr} (hM : okM dm kd ln R) : 1018 ∈ dm ∧ kd 1018 = 10 ∧ ln 1018 = 40 ∧ R 1000 18 = some 1018 := hM.2 18 (by decide)
theorem mo_19 {dm : List Nat} {kd ln : Nat → Nat} {R : Mr} (hM : okM dm kd ln R) : 1019 ∈ dm ∧ kd 1019 = 10 ∧ ln 1019 = 40 ∧ R 1000 19 = some 1019 := hM.2 19 (by decide)
theorem mo_20 {dm : List Nat} {kd ln : Nat → Nat} {R : Mr} (hM : okM dm kd ln R) : 1020 ∈ dm ∧ kd 1020 = 10 ∧ ln 1020 = 40 ∧ R 1000 20 = some 1020 := hM.2 20 (by decide)
theorem mo_27 {dm : List Nat} {kd ln : Nat → Nat} {R : Mr} (hM : okM dm kd ln R) : 1027 ∈ dm ∧ kd 1027 = 10 ∧ ln 1027 = 30 ∧ R 1000 27 = some 1027 := hM.2 27 (by decide)
theorem mo_28 {dm : List Nat} {kd ln : Nat → Nat} {R : Mr} (hM : okM dm kd ln R) : 1028 ∈ dm ∧ kd 1028 = 10 ∧ ln 1028 = 30 ∧ R 1000 28 = some 1028 := hM.2 28 (by decide)
theorem mo_29 {dm : List Nat} {kd ln : Nat → Nat} {R : Mr} (hM : okM dm kd ln R) : 1029 ∈ dm ∧ kd 1029 = 12 ∧ ln 1029 = 40 ∧ R 1000 29 = some 1029 := hM.2 29 (by decide)
theorem mo_30 {dm : List Nat} {kd ln : Nat → Nat} {R : Mr} (hM : okM dm kd ln R) : 1030 ∈ dm ∧ kd 1030 = 10 ∧ ln 1030 = 900 ∧ R 1000 30 = some 1030 := hM.2 30 (by decide)
theorem mo_31 {dm : List Nat} {kd ln : Nat → Nat} {R : Mr} (hM : okM dm kd ln R) : 1031 ∈ dm ∧ kd 1031 = 10 ∧ ln 1031 = 300 ∧ R 1000 31 = some 1031 := hM.2 31 (by decide)
theorem mo_42 {dm : List Nat} {kd ln : Nat → Nat} {R : Mr} (hM : okM dm kd ln R) : 1042 ∈ dm ∧ kd 1042 = 10 ∧ ln 1042 = 40 ∧ R 1000 42 = some 1042 := hM.2 42 (by decide)
theorem mo_43 {dm : List Nat} {kd ln : Nat → Nat} {R : Mr} (hM : okM dm kd ln R) : 1043 ∈ dm ∧ kd 1043 = 10 ∧ ln 1043 = 40 ∧ R 1000 43 = some 1043 := hM.2 43 (by decide)
theorem mo_44 {dm : List Nat} {kd ln : Nat → Nat} {R : Mr} (hM : okM dm kd ln R) : 1044 ∈ dm ∧ kd 1044 = 10 ∧ ln 1044 = 40 ∧ R 1000 44 = some 1044 := hM.2 44 (by decide)
theorem mo_45 {dm : List Nat} {kd ln : Nat → Nat} {R : Mr} (hM : okM dm kd ln R) : 1045 ∈ dm ∧ kd 1045 = 10 ∧ ln 1045 = 40 ∧ R 1000 45 = some 1045 := hM.2 45 (by decide)
theorem mo_46 {dm : List Nat} {kd ln : Nat → Nat} {R : Mr} (hM : okM dm kd ln R) : 1046 ∈ dm ∧ kd 1046 = 10 ∧ ln 1046 = 16 ∧ R 1000 46 = some 1046 := hM.2 46 (by decide)
def m_get (V : Mv) (nD : Nat) (x : Int32) (k : Nat) : Int32 := if inx nD x then V k x.toNatClampNeg else -1000001
def m_leak (V : Mv) (nP : Nat) (x v : Int32) : Int32 := if inx nP x then (if 0 ≤ v ∧ v ≤ 60 then V 1005 x.toNatClampNeg else -1000001) else -1000001
def m_leakV (V : Mv) (nP : Nat) (x v : Int32) : Mv := if inx nP x then (if 0 ≤ v ∧ v ≤ 60 then u2 (u2 V 1000 0 0) 1005 x.toNatClampNeg v else u2 V 1000 0 0) else u2 V 1000 0 0
def m_drift (V : Mv) (v : Int32) : Int32 := if -5 ≤ v ∧ v ≤ 5 then V 1000 22 else -1000001
def m_driftV (V : Mv) (v : Int32) : Mv := if -5 ≤ v ∧ v ≤ 5 then u2 (u2 V 1000 0 0) 1000 22 v else u2 V 1000 0 0
def m_now (V : Mv) (J : Mj) (x : Int32) : Int64 := if x = 0 then (V 1000 21).toInt64 else if x = 1 then J 1000 23 else if x = 2 then -5 * (V 1000 21 - V 1000 24).toInt64 else if x = 3 then 5 * (V 1000 21 - V 1000 24).toInt64 else if x = 4 then (V 1000 25).toInt64 else -1000001
def m_lookV (V : Mv) (nD : Nat) (x : Int32) : Mv := if inx nD x then u2 (u2 (u2 V 1000 0 0) 1013 x.toNatClampNeg (V 1011 x.toNatClampNeg)) 1014 x.toNatClampNeg 0 else u2 V 1000 0 0
def m_state (V : Mv) (nD : Nat) (x v : Int32) : Int32 := if inx nD x then (if 0 ≤ v ∧ v ≤ 5 then (if v = 0 then V 1011 x.toNatClampNeg else if v = 1 then V 1013 x.toNatClampNeg else if v = 2 then V 1013 x.toNatClampNeg + V 1014 x.toNatClampNeg else if v = 3 then V 1012 x.toNatClampNeg else if v = 4 then V 1008 x.toNatClampNeg else V 1009 x.toNatClampNeg) else -1000001) else -1000001
def m_put (V : Mv) (nD : Nat) (x v : Int32) : Int32 := if inx nD x then (if -60 ≤ v ∧ v ≤ 60 then (if v = 0 then -1000001 else V 1011 x.toNatClampNeg - v) else -1000001) else -1000001
def m_putV (V : Mv) (nD : Nat) (x v : Int32) : Mv := if inx nD x then (if -60 ≤ v ∧ v ≤ 60 then (if v = 0 then u2 V 1000 0 0 else u2 (u2 (u2 V 1000 0 0) 1011 x.toNatClampNeg (V 1011 x.toNatClampNeg - v)) 1013 x.toNatClampNeg (V 1013 x.toNatClampNeg - v)) else u2 V 1000 0 0) else u2 V 1000 0 0
def m_rt (V : Mv) (t : Nat) : Mv := u2 (u2 (u2 (u2 V 1011 t 0) 1013 t 0) 1014 t 0) 1012 t 0
def m_rightV (V : Mv) (nD : Nat) (x : Int32) : Mv := if inx nD x then m_rt (u2 V 1000 0 0) x.toNatClampNeg else u2 V 1000 0 0
def m_size (a : Int32) : Int32 := if 0 ≤ a then a else -a
def m_kind (V : Mv) (t : Nat) : Int32 := if V 1012 t < 10 then V 1010 t else 3
theorem m_kind0 {V : Mv} {t : Nat} {a : Int32} {k j : Nat} (h : k = 1000) : m_kind (u2 V k j a) t = m_kind V t := by
  subst h
  rfl
def m_kindR (V : Mv) (nD : Nat) (x : Int32) : Int32 := if inx nD x then m_kind V x.toNatClampNeg else -1000001
def m_as (V : Mv) (nD : Nat) (x v : Int32) : Int32 := if inx nD x then (if 0 ≤ v ∧ v ≤ 3 then (if v = 0 then V 1011 x.toNatClampNeg else if m_kind V x.toNatClampNeg = v then V 1011 x.toNatClampNeg else if v = 1 then (if m_kind V x.toNatClampNeg = 2 then V 1011 x.toNatClampNeg else -1000004) else -1000004) else -1000001) else -1000001
def m_trace (V : Mv) (nT : Nat) (x : Int32) : Int32 := if inx nT x then V 1046 x.toNatClampNeg else -1000000
theorem m_npar {i j : Nat} (h : j < i) (hi : i < 1000) : ¬ nI j = -1000000 := by
  intro e
  have h1 := congrArg Int32.toInt e
  rw [nI_toInt (n := j) (by omega)] at h1
  have h2 : (-1000000 : Int32).toInt = -1000000 := by decide
  rw [h2] at h1
  omega
theorem m_npar' {i j : Nat} {x : Int32} (hx : x = nI j) (h : j < i) (hi : i < 1000) : ¬ x = -1000000 := by
  rw [hx]
  exact m_npar h hi
theorem m_npar2 {j : Nat} (h : j < 500) : ¬ nI j = -1000000 := m_npar (i := j + 1) (by omega) (by omega)
def m_par (V : Mv) (i : Nat) : Int32 := if V 1002 i = -1000000 then 100 else V 1006 (V 1002 i).toNatClampNeg
def m_air : Nat → Nat → Mv → Mv
  | 0, _, V => V
  | n + 1, i, V => m_air n (i + 1) (u2 V 1006 i (if 0 ≤ m_par V i - V 1003 i - V 1005 i then m_par V i - V 1003 i - V 1005 i else 0))
def m_airB (one l2 : Int32) : Nat → Nat → Mv → Mv
  | 0, _, V => V
  | n + 1, i, V => m_airB one l2 n (i + 1) (u2 V 1006 i (if 0 ≤ m_par V i - V 1003 i - (if nI i = one then l2 else 0) then m_par V i - V 1003 i - (if nI i = one then l2 else 0) else 0))
def m_lag (V : Mv) : Nat → Nat → Int32 → Int32
  | 0, _, a => a
  | n + 1, i, a => if V 1002 i = -1000000 then a + V 1004 i else m_lag V n (V 1002 i).toNatClampNeg (a + V 1004 i)
set_option maxHeartbeats 4000000 in
set_option maxRecDepth 100000 in
theorem c_X8_leak {X : (Nat → Prop) → State → Prop} (hxo : xok X) (l : Launch) (D : va_G) (q : Cq) {dm : List Nat} {kd ln ad : Nat → Nat} (V : Mv) (J : Mj) (R : Mr) (nP nD : Nat) (x v : Int32) (hM : okM dm kd ln R) (hmp : V 1000 1 = nI nP) (hnP : nP ≤ 30) (hmq : V 1000 7 = nI nD) (hnD : nD ≤ 40)  : CtI X l yX8_leak wsX8_leak ({ frames := 2, cells := 0, slots := 0, locals := 46 }) D q dm kd ln ad V J R [.ref (ad 1000), .int x, .int v] (m_leak V nP x v) (m_leakV V nP x v) (J) (R) := by
  refine CtI_of (cc := cX8_leak) (maxL := 4) (ret := (some .int)) (by decide +kernel) rfl (Nat.le_of_ble_eq_true rfl) ?_
  intro p e s m below meth c A hx hb hr hml hts hown hlk hmn hK hW hA hXs ls hl
  have hS : va_S A s.heap s.heap [] := va_S.rf
  have hl : lv_has ls 4 [(0, .ref (ad 1000)), (1, .int x), (2, .int v)] := hl
  have hin_TX8 : ∀ w ∈ u_ws RX8 TX8 48, w ∈ wsX8_leak := by decide +kernel
  refine lv_aload_n hx hb dX8_leak_0 rfl (lv_at hl 0 rfl) ?_
  refine lv_iconst (v := 0) hx hb dX8_leak_1 (by decide) ?_
  refine w_puti (ci := 9) (T := TX8) (ty := .int) hx hb hts hin_TX8 tyX8 tyX8_ok nmX8 hown hK hW hS hM.1.1 hM.1.2 (by decide) rfl 0 (by decide) (hts (.fieldLink RX8 95 "TownClocksModel" "thrown" "I") (by decide +kernel)) (fun _ h9 => h9) rfl (tyX8_ok 0 (by decide)) rfl rfl (Nat.le_of_ble_eq_true rfl) rfl dX8_leak_2 (fun H locs hW hS => ?_)
  refine lv_aload_n hx hb dX8_leak_5 rfl (lv_at hl 0 rfl) ?_
  refine lv_iload_n hx hb dX8_leak_6 rfl (lv_at hl 1 rfl) ?_
  refine w_ci (w_runV ⟨hx, hb, hml, hown, hts⟩ (c_X8_isPipe hxo l D q (u2 V 1000 0 0) J R nP x hM (by rw [u2_sn (by decide)]; exact hmp) hnP) hxo (cwV 1 hts gX8_leak_X8_isPipe rfl rfl rfl (by decide +kernel) ⟨Nat.le_of_ble_eq_true rfl, Nat.le_of_ble_eq_true rfl⟩) hK hW hS hA hXs (w_rcv hK hW hM.1.1 hM.1.2 (by decide) rfl) rfl hl.1 rfl (Nat.le_of_ble_eq_true rfl) dX8_leak_7 ⟨Nat.zero_le _, Nat.zero_le _⟩) hW hS hA (fun H locs hW hS => ?_)
  refine w_ifz (tgt := 25) hx hb dX8_leak_10 (by decide) (fun c_10 => ?_) (fun c_10 => ?_)
  · refine lv_ldc (v := -1000001) hx hb hown (hts (.constant RX8 115 (-1000001)) (by decide +kernel)) dX8_leak_25 ?_
    exact w_iret hx hb hr hlk hW hS (by first | rfl | (simp only [m_leak, m_leakV, if_neg c_10, c_10, ↓reduceIte]; done) | simp [bz, m_leak, m_leakV, if_neg c_10, c_10]) (by first | rfl | (simp only [m_leak, m_leakV, if_neg c_10, c_10, ↓reduceIte]; done) | simp [bz, m_leak, m_leakV, if_neg c_10, c_10]) rfl rfl dX8_leak_27
  · refine lv_iload_n hx hb dX8_leak_13 rfl (lv_at hl 2 rfl) ?_
    refine lv_i2l hx hb dX8_leak_14 rfl ?_
    refine lv_lconst (v := 0) hx hb dX8_leak_15 (by decide) ?_
    refine lv_ldc2 (v := 60) hx hb hown (hts (.constantLong RX8 117 (60)) (by decide +kernel)) dX8_leak_16 ?_
    refine w_ci (w_runS ⟨hx, hb, hml, hown, hts⟩ (c_X8_in hxo l D q (u2 V 1000 0 0) J R v.toInt64 0 60 ) hxo (va_cwS 3 hts gX8_leak_X8_in rfl rfl rfl (by decide +kernel) ⟨Nat.le_of_ble_eq_true rfl, Nat.le_of_ble_eq_true rfl⟩) hK hW hS hA hXs rfl hl.1 rfl (Nat.le_of_ble_eq_true rfl) dX8_leak_19 ⟨Nat.zero_le _, Nat.zero_le _⟩) hW hS hA (fun H locs hW hS => ?_)
    refine w_i (bz_iff (wid_l (c := 0) (d := 60) (by decide) (by decide))) ?_
    refine w_ifnz (tgt := 28) hx hb dX8_leak_22 (by decide) (fun c_22 => ?_) (fun c_22 => ?_)
    · refine lv_aload_n hx hb dX8_leak_28 rfl (lv_at hl 0 rfl) ?_
      refine w_getr (ci := 9) (T := TX8) hx hb hts hin_TX8 hown hK hW hM.1.1 hM.1.2 (by decide) rfl 5 (by decide) (hts (.fieldLink RX8 19 "TownClocksModel" "leak" "[I") (by decide +kernel)) (fun _ h9 => h9) rfl (mo_5 hM).2.2.2 dX8_leak_29 ?_
      refine lv_iload_n hx hb dX8_leak_32 rfl (lv_at hl 1 rfl) ?_
      refine w_iald hx hb hK hW (mo_5 hM).1 (mo_5 hM).2.1 (by rw [(mo_5 hM).2.2.1]; exact inx_v.mpr ⟨c_10.1, by have h9 := c_10.2; show _ < ((30 : Nat) : Int); omega⟩) dX8_leak_33 ?_
      refine w_i (by rw [u2_ne (by decide)]) ?_
      refine lv_istore_n (lv' := [(3, .int (V 1005 x.toNatClampNeg)), (0, .ref (ad 1000)), (1, .int x), (2, .int v)]) hx hb dX8_leak_34 rfl hl (by decide) rfl (fun ls hl => ?_)
      refine lv_aload_n hx hb dX8_leak_35 rfl (lv_at hl 1 rfl) ?_
      refine w_getr (ci := 9) (T := TX8) hx hb hts hin_TX8 hown hK hW hM.1.1 hM.1.2 (by decide) rfl 5 (by decide) (hts (.fieldLink RX8 19 "TownClocksModel" "leak" "[I") (by decide +kernel)) (fun _ h9 => h9) rfl (mo_5 hM).2.2.2 dX8_leak_36 ?_
      refine lv_iload_n hx hb dX8_leak_39 rfl (lv_at hl 2 rfl) ?_
      refine lv_iload_n hx hb dX8_leak_40 rfl (lv_at hl 3 rfl) ?_
      refine w_iast hx hb hK hW hS (mo_5 hM).1 (mo_5 hM).2.1 (by rw [(mo_5 hM).2.2.1]; exact inx_v.mpr ⟨c_10.1, by have h9 := c_10.2; show _ < ((30 : Nat) : Int); omega⟩) dX8_leak_41 (fun H locs hW hS => ?_)
      refine lv_iload_n hx hb dX8_leak_42 rfl (lv_at hl 0 rfl) ?_
      exact w_iret hx hb hr hlk hW hS (by first | rfl | (simp only [m_leak, m_leakV, if_pos c_10, if_pos c_22, c_10, c_22, ↓reduceIte]; done) | simp [bz, m_leak, m_leakV, if_pos c_10, if_pos c_22, c_10, c_22]) (by first | rfl | (simp only [m_leak, m_leakV, if_pos c_10, if_pos c_22, c_10, c_22, ↓reduceIte]; done) | simp [bz, m_leak, m_leakV, if_pos c_10, if_pos c_22, c_10, c_22]) rfl rfl dX8_leak_43
    · refine lv_ldc (v := -1000001) hx hb hown (hts (.constant RX8 115 (-1000001)) (by decide +kernel)) dX8_leak_25 ?_
      exact w_iret hx hb hr hlk hW hS (by first | rfl | (simp only [m_leak, m_leakV, if_pos c_10, if_neg c_22, c_10, c_22, ↓reduceIte]; done) | simp [bz, m_leak, m_leakV, if_pos c_10, if_neg c_22, c_10, c_22]) (by first | rfl | (simp only [m_leak, m_leakV, if_pos c_10, if_neg c_22, c_10, c_22, ↓reduceIte]; done) | simp [bz, m_leak, m_leakV, if_pos c_10, if_neg c_22, c_10, c_22]) rfl rfl dX8_leak_27
set_option maxHeartbeats 4000000 in
set_option maxRecDepth 100000 in
theorem c_X8_drift {X : (Nat → Prop) → State → Prop} (hxo : xok X) (l : Launch) (D : va_G) (q : Cq) {dm : List Nat} {kd ln ad : Nat → Nat} (V : Mv) (J : Mj) (R : Mr) (nP nD : Nat) (v : Int32) (hM : okM dm kd ln R) (hmp : V 1000 1 = nI nP) (hnP : nP ≤ 30) (hmq : V 1000 7 = nI nD) (hnD : nD ≤ 40)  : CtI X l yX8_drift wsX8_drift ({ frames := 1, cells := 0, slots := 0, locals := 25 }) D q dm kd ln ad V J R [.ref (ad 1000), .int v] (m_drift V v) (m_driftV V v) (J) (R) := by
  refine CtI_of (cc := cX8_drift) (maxL := 3) (ret := (some .int)) (by decide +kernel) rfl (Nat.le_of_ble_eq_true rfl) ?_
  intro p e s m below meth c A hx hb hr hml hts hown hlk hmn hK hW hA hXs ls hl
  have hS : va_S A s.heap s.heap [] := va_S.rf
  have hl : lv_has ls 3 [(0, .ref (ad 1000)), (1, .int v)] := hl
  have hin_TX8 : ∀ w ∈ u_ws RX8 TX8 48, w ∈ wsX8_drift := by decide +kernel
  refine lv_aload_n hx hb dX8_drift_0 rfl (lv_at hl 0 rfl) ?_
  refine lv_iconst (v := 0) hx hb dX8_drift_1 (by decide) ?_
  refine w_puti (ci := 9) (T := TX8) (ty := .int) hx hb hts hin_TX8 tyX8 tyX8_ok nmX8 hown hK hW hS hM.1.1 hM.1.2 (by decide) rfl 0 (by decide) (hts (.fieldLink RX8 95 "TownClocksModel" "thrown" "I") (by decide +kernel)) (fun _ h9 => h9) rfl (tyX8_ok 0 (by decide)) rfl rfl (Nat.le_of_ble_eq_true rfl) rfl dX8_drift_2 (fun H locs hW hS => ?_)
  refine lv_iload_n hx hb dX8_drift_5 rfl (lv_at hl 1 rfl) ?_
  refine lv_i2l hx hb dX8_drift_6 rfl ?_
  refine lv_ldc2 (v := -5) hx hb hown (hts (.constantLong RX8 145 (-5)) (by decide +kernel)) dX8_drift_7 ?_
  refine lv_ldc2 (v := 5) hx hb hown (hts (.constantLong RX8 147 (5)) (by decide +kernel)) dX8_drift_10 ?_
  refine w_ci (w_runS ⟨hx, hb, hml, hown, hts⟩ (c_X8_in hxo l D q (u2 V 1000 0 0) J R v.toInt64 (-5) 5 ) hxo (va_cwS 3 hts gX8_drift_X8_in rfl rfl rfl (by decide +kernel) ⟨Nat.le_of_ble_eq_true rfl, Nat.le_of_ble_eq_true rfl⟩) hK hW hS hA hXs rfl hl.1 rfl (Nat.le_of_ble_eq_true rfl) dX8_drift_13 ⟨Nat.zero_le _, Nat.zero_le _⟩) hW hS hA (fun H locs hW hS => ?_)
  refine w_i (bz_iff (wid_l (c := (-5)) (d := 5) (by decide) (by decide))) ?_
  refine w_ifnz (tgt := 22) hx hb dX8_drift_16 (by decide) (fun c_16 => ?_) (fun c_16 => ?_)
  · refine lv_aload_n hx hb dX8_drift_22 rfl (lv_at hl 0 rfl) ?_
    refine w_get (ci := 9) (T := TX8) hx hb hts hin_TX8 hown hK hW hM.1.1 hM.1.2 (by decide) rfl 22 (by decide) (hts (.fieldLink RX8 142 "TownClocksModel" "drift" "I") (by decide +kernel)) (fun _ h9 => h9) rfl dX8_drift_23 ?_
    refine w_i (by rw [u2_sn (by decide)]) ?_
    refine lv_istore_n (lv' := [(2, .int (V 1000 22)), (0, .ref (ad 1000)), (1, .int v)]) hx hb dX8_drift_26 rfl hl (by decide) rfl (fun ls hl => ?_)
    refine lv_aload_n hx hb dX8_drift_27 rfl (lv_at hl 1 rfl) ?_
    refine lv_iload_n hx hb dX8_drift_28 rfl (lv_at hl 2 rfl) ?_
    refine w_puti (ci := 9) (T := TX8) (ty := .int) hx hb hts hin_TX8 tyX8 tyX8_ok nmX8 hown hK hW hS hM.1.1 hM.1.2 (by decide) rfl 22 (by decide) (hts (.fieldLink RX8 142 "TownClocksModel" "drift" "I") (by decide +kernel)) (fun _ h9 => h9) rfl (tyX8_ok 22 (by decide)) rfl rfl (Nat.le_of_ble_eq_true rfl) rfl dX8_drift_29 (fun H locs hW hS => ?_)
    refine lv_iload_n hx hb dX8_drift_32 rfl (lv_at hl 0 rfl) ?_
    exact w_iret hx hb hr hlk hW hS (by first | rfl | (simp only [m_drift, m_driftV, if_pos c_16, c_16, ↓reduceIte]; done) | simp [bz, m_drift, m_driftV, if_pos c_16, c_16]) (by first | rfl | (simp only [m_drift, m_driftV, if_pos c_16, c_16, ↓reduceIte]; done) | simp [bz, m_drift, m_driftV, if_pos c_16, c_16]) rfl rfl dX8_drift_33
  · refine lv_ldc (v := -1000001) hx hb hown (hts (.constant RX8 115 (-1000001)) (by decide +kernel)) dX8_drift_19 ?_
    exact w_iret hx hb hr hlk hW hS (by first | rfl | (simp only [m_drift, m_driftV, if_neg c_16, c_16, ↓reduceIte]; done) | simp [bz, m_drift, m_driftV, if_neg c_16, c_16]) (by first | rfl | (simp only [m_drift, m_driftV, if_neg c_16, c_16, ↓reduceIte]; done) | simp [bz, m_drift, m_driftV, if_neg c_16, c_16]) rfl rfl dX8_drift_21
set_option maxHeartbeats 4000000 in
set_option maxRecDepth 100000 in
theorem c_X8_sight {X : (Nat → Prop) → State → Prop} (hxo : xok X) (l : Launch) (D : va_G) (q : Cq) {dm : List Nat} {kd ln ad : Nat → Nat} (V : Mv) (J : Mj) (R : Mr) (nP nD : Nat)  (hM : okM dm kd ln R) (hmp : V 1000 1 = nI nP) (hnP : nP ≤ 30) (hmq : V 1000 7 = nI nD) (hnD : nD ≤ 40)  : CtL X l yX8_sight wsX8_sight ({ frames := 0, cells := 0, slots := 0, locals := 0 }) D q dm kd ln ad V J R [.ref (ad 1000)] (J 1000 23) (u2 (u2 (u2 V 1000 0 0) 1000 24 (V 1000 21)) 1000 25 (V 1000 25 + 1)) (u2 J 1000 23 0) (R) := by
  refine CtL_of (cc := cX8_sight) (maxL := 3) (ret := (some .long)) (by decide +kernel) rfl (Nat.le_of_ble_eq_true rfl) ?_
  intro p e s m below meth c A hx hb hr hml hts hown hlk hmn hK hW hA hXs ls hl
  have hS : va_S A s.heap s.heap [] := va_S.rf
  have hl : lv_has ls 3 [(0, .ref (ad 1000))] := hl
  have hin_TX8 : ∀ w ∈ u_ws RX8 TX8 48, w ∈ wsX8_sight := by decide +kernel
  refine lv_aload_n hx hb dX8_sight_0 rfl (lv_at hl 0 rfl) ?_
  refine lv_iconst (v := 0) hx hb dX8_sight_1 (by decide) ?_
  refine w_puti (ci := 9) (T := TX8) (ty := .int) hx hb hts hin_TX8 tyX8 tyX8_ok nmX8 hown hK hW hS hM.1.1 hM.1.2 (by decide) rfl 0 (by decide) (hts (.fieldLink RX8 95 "TownClocksModel" "thrown" "I") (by decide +kernel)) (fun _ h9 => h9) rfl (tyX8_ok 0 (by decide)) rfl rfl (Nat.le_of_ble_eq_true rfl) rfl dX8_sight_2 (fun H locs hW hS => ?_)
  refine lv_aload_n hx hb dX8_sight_5 rfl (lv_at hl 0 rfl) ?_
  refine w_get (ci := 9) (T := TX8) hx hb hts hin_TX8 hown hK hW hM.1.1 hM.1.2 (by decide) rfl 23 (by decide) (hts (.fieldLink RX8 138 "TownClocksModel" "off" "J") (by decide +kernel)) (fun _ h9 => h9) rfl dX8_sight_6 ?_
  refine lv_lstore_n (lv' := [(1, .long (J 1000 23)), (0, .ref (ad 1000))]) hx hb dX8_sight_9 rfl hl (by decide) rfl (fun ls hl => ?_)
  refine lv_aload_n hx hb dX8_sight_10 rfl (lv_at hl 1 rfl) ?_
  refine lv_lconst (v := 0) hx hb dX8_sight_11 (by decide) ?_
  refine w_putl (ci := 9) (T := TX8) (ty := .long) hx hb hts hin_TX8 tyX8 tyX8_ok nmX8 hown hK hW hS hM.1.1 hM.1.2 (by decide) rfl 23 (by decide) (hts (.fieldLink RX8 138 "TownClocksModel" "off" "J") (by decide +kernel)) (fun _ h9 => h9) rfl (tyX8_ok 23 (by decide)) rfl rfl (Nat.le_of_ble_eq_true rfl) rfl dX8_sight_12 (fun H locs hW hS => ?_)
  refine lv_aload_n hx hb dX8_sight_15 rfl (lv_at hl 1 rfl) ?_
  refine lv_aload_n hx hb dX8_sight_16 rfl (lv_at hl 1 rfl) ?_
  refine w_get (ci := 9) (T := TX8) hx hb hts hin_TX8 hown hK hW hM.1.1 hM.1.2 (by decide) rfl 21 (by decide) (hts (.fieldLink RX8 133 "TownClocksModel" "minute" "I") (by decide +kernel)) (fun _ h9 => h9) rfl dX8_sight_17 ?_
  refine w_i (by rw [u2_sn (by decide)]) ?_
  refine w_puti (ci := 9) (T := TX8) (ty := .int) hx hb hts hin_TX8 tyX8 tyX8_ok nmX8 hown hK hW hS hM.1.1 hM.1.2 (by decide) rfl 24 (by decide) (hts (.fieldLink RX8 149 "TownClocksModel" "sightedAt" "I") (by decide +kernel)) (fun _ h9 => h9) rfl (tyX8_ok 24 (by decide)) rfl rfl (Nat.le_of_ble_eq_true rfl) rfl dX8_sight_20 (fun H locs hW hS => ?_)
  refine lv_aload_n hx hb dX8_sight_23 rfl (lv_at hl 1 rfl) ?_
  refine lv_dup hx hb dX8_sight_24 rfl ?_
  refine w_get (ci := 9) (T := TX8) hx hb hts hin_TX8 hown hK hW hM.1.1 hM.1.2 (by decide) rfl 25 (by decide) (hts (.fieldLink RX8 152 "TownClocksModel" "sightings" "I") (by decide +kernel)) (fun _ h9 => h9) rfl dX8_sight_25 ?_
  refine w_i (by rw [u2_sn (by decide), u2_sn (by decide)]) ?_
  refine lv_iconst (v := 1) hx hb dX8_sight_28 (by decide) ?_
  refine lv_iadd hx hb dX8_sight_29 ?_
  refine w_puti (ci := 9) (T := TX8) (ty := .int) hx hb hts hin_TX8 tyX8 tyX8_ok nmX8 hown hK hW hS hM.1.1 hM.1.2 (by decide) rfl 25 (by decide) (hts (.fieldLink RX8 152 "TownClocksModel" "sightings" "I") (by decide +kernel)) (fun _ h9 => h9) rfl (tyX8_ok 25 (by decide)) rfl rfl (Nat.le_of_ble_eq_true rfl) rfl dX8_sight_30 (fun H locs hW hS => ?_)
  refine lv_lload_n hx hb dX8_sight_33 rfl (lv_at hl 0 rfl) ?_
  exact w_lret hx hb hr hlk hW hS rfl rfl rfl rfl dX8_sight_34
set_option maxHeartbeats 4000000 in
set_option maxRecDepth 100000 in
theorem c_X8_now {X : (Nat → Prop) → State → Prop} (hxo : xok X) (l : Launch) (D : va_G) (q : Cq) {dm : List Nat} {kd ln ad : Nat → Nat} (V : Mv) (J : Mj) (R : Mr) (nP nD : Nat) (x : Int32) (hM : okM dm kd ln R) (hmp : V 1000 1 = nI nP) (hnP : nP ≤ 30) (hmq : V 1000 7 = nI nD) (hnD : nD ≤ 40)  : CtL X l yX8_now wsX8_now ({ frames := 0, cells := 0, slots := 0, locals := 0 }) D q dm kd ln ad V J R [.ref (ad 1000), .int x] (m_now V J x) (u2 V 1000 0 0) (J) (R) := by
  refine CtL_of (cc := cX8_now) (maxL := 4) (ret := (some .long)) (by decide +kernel) rfl (Nat.le_of_ble_eq_true rfl) ?_
  intro p e s m below meth c A hx hb hr hml hts hown hlk hmn hK hW hA hXs ls hl
  have hS : va_S A s.heap s.heap [] := va_S.rf
  have hl : lv_has ls 4 [(0, .ref (ad 1000)), (1, .int x)] := hl
  have hin_TX8 : ∀ w ∈ u_ws RX8 TX8 48, w ∈ wsX8_now := by decide +kernel
  refine lv_aload_n hx hb dX8_now_0 rfl (lv_at hl 0 rfl) ?_
  refine lv_iconst (v := 0) hx hb dX8_now_1 (by decide) ?_
  refine w_puti (ci := 9) (T := TX8) (ty := .int) hx hb hts hin_TX8 tyX8 tyX8_ok nmX8 hown hK hW hS hM.1.1 hM.1.2 (by decide) rfl 0 (by decide) (hts (.fieldLink RX8 95 "TownClocksModel" "thrown" "I") (by decide +kernel)) (fun _ h9 => h9) rfl (tyX8_ok 0 (by decide)) rfl rfl (Nat.le_of_ble_eq_true rfl) rfl dX8_now_2 (fun H locs hW hS => ?_)
  refine lv_aload_n hx hb dX8_now_5 rfl (lv_at hl 0 rfl) ?_
  refine w_get (ci := 9) (T := TX8) hx hb hts hin_TX8 hown hK hW hM.1.1 hM.1.2 (by decide) rfl 21 (by decide) (hts (.fieldLink RX8 133 "TownClocksModel" "minute" "I") (by decide +kernel)) (fun _ h9 => h9) rfl dX8_now_6 ?_
  refine w_i (by rw [u2_sn (by decide)]) ?_
  refine lv_aload_n hx hb dX8_now_9 rfl (lv_at hl 0 rfl) ?_
  refine w_get (ci := 9) (T := TX8) hx hb hts hin_TX8 hown hK hW hM.1.1 hM.1.2 (by decide) rfl 24 (by decide) (hts (.fieldLink RX8 149 "TownClocksModel" "sightedAt" "I") (by decide +kernel)) (fun _ h9 => h9) rfl dX8_now_10 ?_
  refine w_i (by rw [u2_sn (by decide)]) ?_
  refine lv_isub hx hb dX8_now_13 ?_
  refine lv_i2l hx hb dX8_now_14 rfl ?_
  refine lv_lstore_n (lv' := [(2, .long ((V 1000 21) - (V 1000 24)).toInt64), (0, .ref (ad 1000)), (1, .int x)]) hx hb dX8_now_15 rfl hl (by decide) rfl (fun ls hl => ?_)
  refine lv_iload_n hx hb dX8_now_16 rfl (lv_at hl 2 rfl) ?_
  refine lv_if_ne (tgt := 28) hx hb dX8_now_17 (by decide) (fun c_17 => ?_) (fun c_17 => ?_)
  · refine lv_iload_n hx hb dX8_now_28 rfl (lv_at hl 2 rfl) ?_
    refine lv_iconst (v := 1) hx hb dX8_now_29 (by decide) ?_
    refine lv_icmp_ne (tgt := 40) hx hb dX8_now_30 (by decide) (fun c_30 => ?_) (fun c_30 => ?_)
    · refine lv_iload_n hx hb dX8_now_40 rfl (lv_at hl 2 rfl) ?_
      refine lv_iconst (v := 2) hx hb dX8_now_41 (by decide) ?_
      refine lv_icmp_ne (tgt := 53) hx hb dX8_now_42 (by decide) (fun c_42 => ?_) (fun c_42 => ?_)
      · refine lv_iload_n hx hb dX8_now_53 rfl (lv_at hl 2 rfl) ?_
        refine lv_iconst (v := 3) hx hb dX8_now_54 (by decide) ?_
        refine lv_icmp_ne (tgt := 66) hx hb dX8_now_55 (by decide) (fun c_55 => ?_) (fun c_55 => ?_)
        · refine lv_iload_n hx hb dX8_now_66 rfl (lv_at hl 2 rfl) ?_
          refine lv_iconst (v := 4) hx hb dX8_now_67 (by decide) ?_
          refine lv_icmp_ne (tgt := 79) hx hb dX8_now_68 (by decide) (fun c_68 => ?_) (fun c_68 => ?_)
          · refine lv_ldc2 (v := -1000001) hx hb hown (hts (.constantLong RX8 155 (-1000001)) (by decide +kernel)) dX8_now_79 ?_
            exact w_lret hx hb hr hlk hW hS (by first | rfl | (simp only [m_now, if_neg c_17, if_neg c_30, if_neg c_42, if_neg c_55, if_neg c_68, c_17, c_30, c_42, c_55, c_68, ↓reduceIte]; done) | simp [bz, m_now, if_neg c_17, if_neg c_30, if_neg c_42, if_neg c_55, if_neg c_68, c_17, c_30, c_42, c_55, c_68]) rfl rfl rfl dX8_now_82
          · refine lv_aload_n hx hb dX8_now_71 rfl (lv_at hl 1 rfl) ?_
            refine w_get (ci := 9) (T := TX8) hx hb hts hin_TX8 hown hK hW hM.1.1 hM.1.2 (by decide) rfl 25 (by decide) (hts (.fieldLink RX8 152 "TownClocksModel" "sightings" "I") (by decide +kernel)) (fun _ h9 => h9) rfl dX8_now_72 ?_
            refine w_i (by rw [u2_sn (by decide)]) ?_
            refine lv_i2l hx hb dX8_now_75 rfl ?_
            refine lv_goto (tgt := 82) hx hb dX8_now_76 (by decide) ?_
            exact w_lret hx hb hr hlk hW hS (by first | rfl | (simp only [m_now, if_neg c_17, if_neg c_30, if_neg c_42, if_neg c_55, if_pos c_68, c_17, c_30, c_42, c_55, c_68, ↓reduceIte]; done) | simp [bz, m_now, if_neg c_17, if_neg c_30, if_neg c_42, if_neg c_55, if_pos c_68, c_17, c_30, c_42, c_55, c_68]) rfl rfl rfl dX8_now_82
        · refine lv_ldc2 (v := 5) hx hb hown (hts (.constantLong RX8 147 (5)) (by decide +kernel)) dX8_now_58 ?_
          refine lv_lload_n hx hb dX8_now_61 rfl (lv_at hl 0 rfl) ?_
          refine lv_lmul hx hb dX8_now_62 ?_
          refine lv_goto (tgt := 82) hx hb dX8_now_63 (by decide) ?_
          exact w_lret hx hb hr hlk hW hS (by first | rfl | (simp only [m_now, if_neg c_17, if_neg c_30, if_neg c_42, if_pos c_55, c_17, c_30, c_42, c_55, ↓reduceIte]; done) | simp [bz, m_now, if_neg c_17, if_neg c_30, if_neg c_42, if_pos c_55, c_17, c_30, c_42, c_55]) rfl rfl rfl dX8_now_82
      · refine lv_ldc2 (v := -5) hx hb hown (hts (.constantLong RX8 145 (-5)) (by decide +kernel)) dX8_now_45 ?_
        refine lv_lload_n hx hb dX8_now_48 rfl (lv_at hl 0 rfl) ?_
        refine lv_lmul hx hb dX8_now_49 ?_
        refine lv_goto (tgt := 82) hx hb dX8_now_50 (by decide) ?_
        exact w_lret hx hb hr hlk hW hS (by first | rfl | (simp only [m_now, if_neg c_17, if_neg c_30, if_pos c_42, c_17, c_30, c_42, ↓reduceIte]; done) | simp [bz, m_now, if_neg c_17, if_neg c_30, if_pos c_42, c_17, c_30, c_42]) rfl rfl rfl dX8_now_82
    · refine lv_aload_n hx hb dX8_now_33 rfl (lv_at hl 1 rfl) ?_
      refine w_get (ci := 9) (T := TX8) hx hb hts hin_TX8 hown hK hW hM.1.1 hM.1.2 (by decide) rfl 23 (by decide) (hts (.fieldLink RX8 138 "TownClocksModel" "off" "J") (by decide +kernel)) (fun _ h9 => h9) rfl dX8_now_34 ?_
      refine lv_goto (tgt := 82) hx hb dX8_now_37 (by decide) ?_
      exact w_lret hx hb hr hlk hW hS (by first | rfl | (simp only [m_now, if_neg c_17, if_pos c_30, c_17, c_30, ↓reduceIte]; done) | simp [bz, m_now, if_neg c_17, if_pos c_30, c_17, c_30]) rfl rfl rfl dX8_now_82
  · refine lv_aload_n hx hb dX8_now_20 rfl (lv_at hl 1 rfl) ?_
    refine w_get (ci := 9) (T := TX8) hx hb hts hin_TX8 hown hK hW hM.1.1 hM.1.2 (by decide) rfl 21 (by decide) (hts (.fieldLink RX8 133 "TownClocksModel" "minute" "I") (by decide +kernel)) (fun _ h9 => h9) rfl dX8_now_21 ?_
    refine w_i (by rw [u2_sn (by decide)]) ?_
    refine lv_i2l hx hb dX8_now_24 rfl ?_
    refine lv_goto (tgt := 82) hx hb dX8_now_25 (by decide) ?_
    exact w_lret hx hb hr hlk hW hS (by first | rfl | (simp only [m_now, if_pos c_17, c_17, ↓reduceIte]; done) | simp [bz, m_now, if_pos c_17, c_17]) rfl rfl rfl dX8_now_82
set_option maxHeartbeats 4000000 in
set_option maxRecDepth 100000 in
theorem c_X8_look {X : (Nat → Prop) → State → Prop} (hxo : xok X) (l : Launch) (D : va_G) (q : Cq) {dm : List Nat} {kd ln ad : Nat → Nat} (V : Mv) (J : Mj) (R : Mr) (nP nD : Nat) (x : Int32) (hM : okM dm kd ln R) (hmp : V 1000 1 = nI nP) (hnP : nP ≤ 30) (hmq : V 1000 7 = nI nD) (hnD : nD ≤ 40)  : CtI X l yX8_look wsX8_look ({ frames := 2, cells := 0, slots := 0, locals := 46 }) D q dm kd ln ad V J R [.ref (ad 1000), .int x] (m_get V nD x 1011) (m_lookV V nD x) (J) (R) := by
  refine CtI_of (cc := cX8_look) (maxL := 2) (ret := (some .int)) (by decide +kernel) rfl (Nat.le_of_ble_eq_true rfl) ?_
  intro p e s m below meth c A hx hb hr hml hts hown hlk hmn hK hW hA hXs ls hl
  have hS : va_S A s.heap s.heap [] := va_S.rf
  have hl : lv_has ls 2 [(0, .ref (ad 1000)), (1, .int x)] := hl
  have hin_TX8 : ∀ w ∈ u_ws RX8 TX8 48, w ∈ wsX8_look := by decide +kernel
  refine lv_aload_n hx hb dX8_look_0 rfl (lv_at hl 0 rfl) ?_
  refine lv_iconst (v := 0) hx hb dX8_look_1 (by decide) ?_
  refine w_puti (ci := 9) (T := TX8) (ty := .int) hx hb hts hin_TX8 tyX8 tyX8_ok nmX8 hown hK hW hS hM.1.1 hM.1.2 (by decide) rfl 0 (by decide) (hts (.fieldLink RX8 95 "TownClocksModel" "thrown" "I") (by decide +kernel)) (fun _ h9 => h9) rfl (tyX8_ok 0 (by decide)) rfl rfl (Nat.le_of_ble_eq_true rfl) rfl dX8_look_2 (fun H locs hW hS => ?_)
  refine lv_aload_n hx hb dX8_look_5 rfl (lv_at hl 0 rfl) ?_
  refine lv_iload_n hx hb dX8_look_6 rfl (lv_at hl 1 rfl) ?_
  refine w_ci (w_runV ⟨hx, hb, hml, hown, hts⟩ (c_X8_isDial hxo l D q (u2 V 1000 0 0) J R nD x hM (by rw [u2_sn (by decide)]; exact hmq) hnD) hxo (cwV 1 hts gX8_look_X8_isDial rfl rfl rfl (by decide +kernel) ⟨Nat.le_of_ble_eq_true rfl, Nat.le_of_ble_eq_true rfl⟩) hK hW hS hA hXs (w_rcv hK hW hM.1.1 hM.1.2 (by decide) rfl) rfl hl.1 rfl (Nat.le_of_ble_eq_true rfl) dX8_look_7 ⟨Nat.zero_le _, Nat.zero_le _⟩) hW hS hA (fun H locs hW hS => ?_)
  refine w_ifnz (tgt := 16) hx hb dX8_look_10 (by decide) (fun c_10 => ?_) (fun c_10 => ?_)
  · refine lv_aload_n hx hb dX8_look_16 rfl (lv_at hl 0 rfl) ?_
    refine w_getr (ci := 9) (T := TX8) hx hb hts hin_TX8 hown hK hW hM.1.1 hM.1.2 (by decide) rfl 13 (by decide) (hts (.fieldLink RX8 40 "TownClocksModel" "known" "[I") (by decide +kernel)) (fun _ h9 => h9) rfl (mo_13 hM).2.2.2 dX8_look_17 ?_
    refine lv_iload_n hx hb dX8_look_20 rfl (lv_at hl 1 rfl) ?_
    refine lv_aload_n hx hb dX8_look_21 rfl (lv_at hl 0 rfl) ?_
    refine w_getr (ci := 9) (T := TX8) hx hb hts hin_TX8 hown hK hW hM.1.1 hM.1.2 (by decide) rfl 11 (by decide) (hts (.fieldLink RX8 34 "TownClocksModel" "late" "[I") (by decide +kernel)) (fun _ h9 => h9) rfl (mo_11 hM).2.2.2 dX8_look_22 ?_
    refine lv_iload_n hx hb dX8_look_25 rfl (lv_at hl 1 rfl) ?_
    refine w_iald hx hb hK hW (mo_11 hM).1 (mo_11 hM).2.1 (by rw [(mo_11 hM).2.2.1]; exact inx_v.mpr ⟨c_10.1, by have h9 := c_10.2; show _ < ((40 : Nat) : Int); omega⟩) dX8_look_26 ?_
    refine w_i (by rw [u2_ne (by decide)]) ?_
    refine w_iast hx hb hK hW hS (mo_13 hM).1 (mo_13 hM).2.1 (by rw [(mo_13 hM).2.2.1]; exact inx_v.mpr ⟨c_10.1, by have h9 := c_10.2; show _ < ((40 : Nat) : Int); omega⟩) dX8_look_27 (fun H locs hW hS => ?_)
    refine lv_aload_n hx hb dX8_look_28 rfl (lv_at hl 0 rfl) ?_
    refine w_getr (ci := 9) (T := TX8) hx hb hts hin_TX8 hown hK hW hM.1.1 hM.1.2 (by decide) rfl 14 (by decide) (hts (.fieldLink RX8 43 "TownClocksModel" "since" "[I") (by decide +kernel)) (fun _ h9 => h9) rfl (mo_14 hM).2.2.2 dX8_look_29 ?_
    refine lv_iload_n hx hb dX8_look_32 rfl (lv_at hl 1 rfl) ?_
    refine lv_iconst (v := 0) hx hb dX8_look_33 (by decide) ?_
    refine w_iast hx hb hK hW hS (mo_14 hM).1 (mo_14 hM).2.1 (by rw [(mo_14 hM).2.2.1]; exact inx_v.mpr ⟨c_10.1, by have h9 := c_10.2; show _ < ((40 : Nat) : Int); omega⟩) dX8_look_34 (fun H locs hW hS => ?_)
    refine lv_aload_n hx hb dX8_look_35 rfl (lv_at hl 0 rfl) ?_
    refine w_getr (ci := 9) (T := TX8) hx hb hts hin_TX8 hown hK hW hM.1.1 hM.1.2 (by decide) rfl 11 (by decide) (hts (.fieldLink RX8 34 "TownClocksModel" "late" "[I") (by decide +kernel)) (fun _ h9 => h9) rfl (mo_11 hM).2.2.2 dX8_look_36 ?_
    refine lv_iload_n hx hb dX8_look_39 rfl (lv_at hl 1 rfl) ?_
    refine w_iald hx hb hK hW (mo_11 hM).1 (mo_11 hM).2.1 (by rw [(mo_11 hM).2.2.1]; exact inx_v.mpr ⟨c_10.1, by have h9 := c_10.2; show _ < ((40 : Nat) : Int); omega⟩) dX8_look_40 ?_
    refine w_i (by rw [u2_ne (by decide), u2_ne (by decide), u2_ne (by decide)]) ?_
    exact w_iret hx hb hr hlk hW hS (by first | rfl | (simp only [m_get, m_lookV, if_pos c_10, c_10, ↓reduceIte]; done) | simp [bz, m_get, m_lookV, if_pos c_10, c_10]) (by first | rfl | (simp only [m_get, m_lookV, if_pos c_10, c_10, ↓reduceIte]; done) | simp [bz, m_get, m_lookV, if_pos c_10, c_10]) rfl rfl dX8_look_41
  · refine lv_ldc (v := -1000001) hx hb hown (hts (.constant RX8 115 (-1000001)) (by decide +kernel)) dX8_look_13 ?_
    exact w_iret hx hb hr hlk hW hS (by first | rfl | (simp only [m_get, m_lookV, if_neg c_10, c_10, ↓reduceIte]; done) | simp [bz, m_get, m_lookV, if_neg c_10, c_10]) (by first | rfl | (simp only [m_get, m_lookV, if_neg c_10, c_10, ↓reduceIte]; done) | simp [bz, m_get, m_lookV, if_neg c_10, c_10]) rfl rfl dX8_look_15
set_option maxHeartbeats 4000000 in
set_option maxRecDepth 100000 in
theorem c_X8_state {X : (Nat → Prop) → State → Prop} (hxo : xok X) (l : Launch) (D : va_G) (q : Cq) {dm : List Nat} {kd ln ad : Nat → Nat} (V : Mv) (J : Mj) (R : Mr) (nP nD : Nat) (x v : Int32) (hM : okM dm kd ln R) (hmp : V 1000 1 = nI nP) (hnP : nP ≤ 30) (hmq : V 1000 7 = nI nD) (hnD : nD ≤ 40)  : CtI X l yX8_state wsX8_state ({ frames := 2, cells := 0, slots := 0, locals := 46 }) D q dm kd ln ad V J R [.ref (ad 1000), .int x, .int v] (m_state V nD x v) (u2 V 1000 0 0) (J) (R) := by
  refine CtI_of (cc := cX8_state) (maxL := 3) (ret := (some .int)) (by decide +kernel) rfl (Nat.le_of_ble_eq_true rfl) ?_
  intro p e s m below meth c A hx hb hr hml hts hown hlk hmn hK hW hA hXs ls hl
  have hS : va_S A s.heap s.heap [] := va_S.rf
  have hl : lv_has ls 3 [(0, .ref (ad 1000)), (1, .int x), (2, .int v)] := hl
  have hin_TX8 : ∀ w ∈ u_ws RX8 TX8 48, w ∈ wsX8_state := by decide +kernel
  refine lv_aload_n hx hb dX8_state_0 rfl (lv_at hl 0 rfl) ?_
  refine lv_iconst (v := 0) hx hb dX8_state_1 (by decide) ?_
  refine w_puti (ci := 9) (T := TX8) (ty := .int) hx hb hts hin_TX8 tyX8 tyX8_ok nmX8 hown hK hW hS hM.1.1 hM.1.2 (by decide) rfl 0 (by decide) (hts (.fieldLink RX8 95 "TownClocksModel" "thrown" "I") (by decide +kernel)) (fun _ h9 => h9) rfl (tyX8_ok 0 (by decide)) rfl rfl (Nat.le_of_ble_eq_true rfl) rfl dX8_state_2 (fun H locs hW hS => ?_)
  refine lv_aload_n hx hb dX8_state_5 rfl (lv_at hl 0 rfl) ?_
  refine lv_iload_n hx hb dX8_state_6 rfl (lv_at hl 1 rfl) ?_
  refine w_ci (w_runV ⟨hx, hb, hml, hown, hts⟩ (c_X8_isDial hxo l D q (u2 V 1000 0 0) J R nD x hM (by rw [u2_sn (by decide)]; exact hmq) hnD) hxo (cwV 1 hts gX8_state_X8_isDial rfl rfl rfl (by decide +kernel) ⟨Nat.le_of_ble_eq_true rfl, Nat.le_of_ble_eq_true rfl⟩) hK hW hS hA hXs (w_rcv hK hW hM.1.1 hM.1.2 (by decide) rfl) rfl hl.1 rfl (Nat.le_of_ble_eq_true rfl) dX8_state_7 ⟨Nat.zero_le _, Nat.zero_le _⟩) hW hS hA (fun H locs hW hS => ?_)
  refine w_ifz (tgt := 25) hx hb dX8_state_10 (by decide) (fun c_10 => ?_) (fun c_10 => ?_)
  · refine lv_ldc (v := -1000001) hx hb hown (hts (.constant RX8 115 (-1000001)) (by decide +kernel)) dX8_state_25 ?_
    exact w_iret hx hb hr hlk hW hS (by first | rfl | (simp only [m_state, if_neg c_10, c_10, ↓reduceIte]; done) | simp [bz, m_state, if_neg c_10, c_10]) rfl rfl rfl dX8_state_27
  · refine lv_iload_n hx hb dX8_state_13 rfl (lv_at hl 2 rfl) ?_
    refine lv_i2l hx hb dX8_state_14 rfl ?_
    refine lv_lconst (v := 0) hx hb dX8_state_15 (by decide) ?_
    refine lv_ldc2 (v := 5) hx hb hown (hts (.constantLong RX8 147 (5)) (by decide +kernel)) dX8_state_16 ?_
    refine w_ci (w_runS ⟨hx, hb, hml, hown, hts⟩ (c_X8_in hxo l D q (u2 V 1000 0 0) J R v.toInt64 0 5 ) hxo (va_cwS 3 hts gX8_state_X8_in rfl rfl rfl (by decide +kernel) ⟨Nat.le_of_ble_eq_true rfl, Nat.le_of_ble_eq_true rfl⟩) hK hW hS hA hXs rfl hl.1 rfl (Nat.le_of_ble_eq_true rfl) dX8_state_19 ⟨Nat.zero_le _, Nat.zero_le _⟩) hW hS hA (fun H locs hW hS => ?_)
    refine w_i (bz_iff (wid_l (c := 0) (d := 5) (by decide) (by decide))) ?_
    refine w_ifnz (tgt := 28) hx hb dX8_state_22 (by decide) (fun c_22 => ?_) (fun c_22 => ?_)
    · refine lv_iload_n hx hb dX8_state_28 rfl (lv_at hl 2 rfl) ?_
      refine lv_if_ne (tgt := 41) hx hb dX8_state_29 (by decide) (fun c_29 => ?_) (fun c_29 => ?_)
      · refine lv_iload_n hx hb dX8_state_41 rfl (lv_at hl 2 rfl) ?_
        refine lv_iconst (v := 1) hx hb dX8_state_42 (by decide) ?_
        refine lv_icmp_ne (tgt := 55) hx hb dX8_state_43 (by decide) (fun c_43 => ?_) (fun c_43 => ?_)
        · refine lv_iload_n hx hb dX8_state_55 rfl (lv_at hl 2 rfl) ?_
          refine lv_iconst (v := 2) hx hb dX8_state_56 (by decide) ?_
          refine lv_icmp_ne (tgt := 76) hx hb dX8_state_57 (by decide) (fun c_57 => ?_) (fun c_57 => ?_)
          · refine lv_iload_n hx hb dX8_state_76 rfl (lv_at hl 2 rfl) ?_
            refine lv_iconst (v := 3) hx hb dX8_state_77 (by decide) ?_
            refine lv_icmp_ne (tgt := 90) hx hb dX8_state_78 (by decide) (fun c_78 => ?_) (fun c_78 => ?_)
            · refine lv_iload_n hx hb dX8_state_90 rfl (lv_at hl 2 rfl) ?_
              refine lv_iconst (v := 4) hx hb dX8_state_91 (by decide) ?_
              refine lv_icmp_ne (tgt := 104) hx hb dX8_state_92 (by decide) (fun c_92 => ?_) (fun c_92 => ?_)
              · refine lv_aload_n hx hb dX8_state_104 rfl (lv_at hl 0 rfl) ?_
                refine w_getr (ci := 9) (T := TX8) hx hb hts hin_TX8 hown hK hW hM.1.1 hM.1.2 (by decide) rfl 9 (by decide) (hts (.fieldLink RX8 28 "TownClocksModel" "need" "[I") (by decide +kernel)) (fun _ h9 => h9) rfl (mo_9 hM).2.2.2 dX8_state_105 ?_
                refine lv_iload_n hx hb dX8_state_108 rfl (lv_at hl 1 rfl) ?_
                refine w_iald hx hb hK hW (mo_9 hM).1 (mo_9 hM).2.1 (by rw [(mo_9 hM).2.2.1]; exact inx_v.mpr ⟨c_10.1, by have h9 := c_10.2; show _ < ((40 : Nat) : Int); omega⟩) dX8_state_109 ?_
                refine w_i (by rw [u2_ne (by decide)]) ?_
                exact w_iret hx hb hr hlk hW hS (by first | rfl | (simp only [m_state, if_pos c_10, if_pos c_22, if_neg c_29, if_neg c_43, if_neg c_57, if_neg c_78, if_neg c_92, c_10, c_22, c_29, c_43, c_57, c_78, c_92, ↓reduceIte]; done) | simp [bz, m_state, if_pos c_10, if_pos c_22, if_neg c_29, if_neg c_43, if_neg c_57, if_neg c_78, if_neg c_92, c_10, c_22, c_29, c_43, c_57, c_78, c_92]) rfl rfl rfl dX8_state_110
              · refine lv_aload_n hx hb dX8_state_95 rfl (lv_at hl 0 rfl) ?_
                refine w_getr (ci := 9) (T := TX8) hx hb hts hin_TX8 hown hK hW hM.1.1 hM.1.2 (by decide) rfl 8 (by decide) (hts (.fieldLink RX8 25 "TownClocksModel" "on" "[I") (by decide +kernel)) (fun _ h9 => h9) rfl (mo_8 hM).2.2.2 dX8_state_96 ?_
                refine lv_iload_n hx hb dX8_state_99 rfl (lv_at hl 1 rfl) ?_
                refine w_iald hx hb hK hW (mo_8 hM).1 (mo_8 hM).2.1 (by rw [(mo_8 hM).2.2.1]; exact inx_v.mpr ⟨c_10.1, by have h9 := c_10.2; show _ < ((40 : Nat) : Int); omega⟩) dX8_state_100 ?_
                refine w_i (by rw [u2_ne (by decide)]) ?_
                refine lv_goto (tgt := 110) hx hb dX8_state_101 (by decide) ?_
                exact w_iret hx hb hr hlk hW hS (by first | rfl | (simp only [m_state, if_pos c_10, if_pos c_22, if_neg c_29, if_neg c_43, if_neg c_57, if_neg c_78, if_pos c_92, c_10, c_22, c_29, c_43, c_57, c_78, c_92, ↓reduceIte]; done) | simp [bz, m_state, if_pos c_10, if_pos c_22, if_neg c_29, if_neg c_43, if_neg c_57, if_neg c_78, if_pos c_92, c_10, c_22, c_29, c_43, c_57, c_78, c_92]) rfl rfl rfl dX8_state_110
            · refine lv_aload_n hx hb dX8_state_81 rfl (lv_at hl 0 rfl) ?_
              refine w_getr (ci := 9) (T := TX8) hx hb hts hin_TX8 hown hK hW hM.1.1 hM.1.2 (by decide) rfl 12 (by decide) (hts (.fieldLink RX8 37 "TownClocksModel" "running" "[I") (by decide +kernel)) (fun _ h9 => h9) rfl (mo_12 hM).2.2.2 dX8_state_82 ?_
              refine lv_iload_n hx hb dX8_state_85 rfl (lv_at hl 1 rfl) ?_
              refine w_iald hx hb hK hW (mo_12 hM).1 (mo_12 hM).2.1 (by rw [(mo_12 hM).2.2.1]; exact inx_v.mpr ⟨c_10.1, by have h9 := c_10.2; show _ < ((40 : Nat) : Int); omega⟩) dX8_state_86 ?_
              refine w_i (by rw [u2_ne (by decide)]) ?_
              refine lv_goto (tgt := 110) hx hb dX8_state_87 (by decide) ?_
              exact w_iret hx hb hr hlk hW hS (by first | rfl | (simp only [m_state, if_pos c_10, if_pos c_22, if_neg c_29, if_neg c_43, if_neg c_57, if_pos c_78, c_10, c_22, c_29, c_43, c_57, c_78, ↓reduceIte]; done) | simp [bz, m_state, if_pos c_10, if_pos c_22, if_neg c_29, if_neg c_43, if_neg c_57, if_pos c_78, c_10, c_22, c_29, c_43, c_57, c_78]) rfl rfl rfl dX8_state_110
          · refine lv_aload_n hx hb dX8_state_60 rfl (lv_at hl 0 rfl) ?_
            refine w_getr (ci := 9) (T := TX8) hx hb hts hin_TX8 hown hK hW hM.1.1 hM.1.2 (by decide) rfl 13 (by decide) (hts (.fieldLink RX8 40 "TownClocksModel" "known" "[I") (by decide +kernel)) (fun _ h9 => h9) rfl (mo_13 hM).2.2.2 dX8_state_61 ?_
            refine lv_iload_n hx hb dX8_state_64 rfl (lv_at hl 1 rfl) ?_
            refine w_iald hx hb hK hW (mo_13 hM).1 (mo_13 hM).2.1 (by rw [(mo_13 hM).2.2.1]; exact inx_v.mpr ⟨c_10.1, by have h9 := c_10.2; show _ < ((40 : Nat) : Int); omega⟩) dX8_state_65 ?_
            refine w_i (by rw [u2_ne (by decide)]) ?_
            refine lv_aload_n hx hb dX8_state_66 rfl (lv_at hl 0 rfl) ?_
            refine w_getr (ci := 9) (T := TX8) hx hb hts hin_TX8 hown hK hW hM.1.1 hM.1.2 (by decide) rfl 14 (by decide) (hts (.fieldLink RX8 43 "TownClocksModel" "since" "[I") (by decide +kernel)) (fun _ h9 => h9) rfl (mo_14 hM).2.2.2 dX8_state_67 ?_
            refine lv_iload_n hx hb dX8_state_70 rfl (lv_at hl 1 rfl) ?_
            refine w_iald hx hb hK hW (mo_14 hM).1 (mo_14 hM).2.1 (by rw [(mo_14 hM).2.2.1]; exact inx_v.mpr ⟨c_10.1, by have h9 := c_10.2; show _ < ((40 : Nat) : Int); omega⟩) dX8_state_71 ?_
            refine w_i (by rw [u2_ne (by decide)]) ?_
            refine lv_iadd hx hb dX8_state_72 ?_
            refine lv_goto (tgt := 110) hx hb dX8_state_73 (by decide) ?_
            exact w_iret hx hb hr hlk hW hS (by first | rfl | (simp only [m_state, if_pos c_10, if_pos c_22, if_neg c_29, if_neg c_43, if_pos c_57, c_10, c_22, c_29, c_43, c_57, ↓reduceIte]; done) | simp [bz, m_state, if_pos c_10, if_pos c_22, if_neg c_29, if_neg c_43, if_pos c_57, c_10, c_22, c_29, c_43, c_57]) rfl rfl rfl dX8_state_110
        · refine lv_aload_n hx hb dX8_state_46 rfl (lv_at hl 0 rfl) ?_
          refine w_getr (ci := 9) (T := TX8) hx hb hts hin_TX8 hown hK hW hM.1.1 hM.1.2 (by decide) rfl 13 (by decide) (hts (.fieldLink RX8 40 "TownClocksModel" "known" "[I") (by decide +kernel)) (fun _ h9 => h9) rfl (mo_13 hM).2.2.2 dX8_state_47 ?_
          refine lv_iload_n hx hb dX8_state_50 rfl (lv_at hl 1 rfl) ?_
          refine w_iald hx hb hK hW (mo_13 hM).1 (mo_13 hM).2.1 (by rw [(mo_13 hM).2.2.1]; exact inx_v.mpr ⟨c_10.1, by have h9 := c_10.2; show _ < ((40 : Nat) : Int); omega⟩) dX8_state_51 ?_
          refine w_i (by rw [u2_ne (by decide)]) ?_
          refine lv_goto (tgt := 110) hx hb dX8_state_52 (by decide) ?_
          exact w_iret hx hb hr hlk hW hS (by first | rfl | (simp only [m_state, if_pos c_10, if_pos c_22, if_neg c_29, if_pos c_43, c_10, c_22, c_29, c_43, ↓reduceIte]; done) | simp [bz, m_state, if_pos c_10, if_pos c_22, if_neg c_29, if_pos c_43, c_10, c_22, c_29, c_43]) rfl rfl rfl dX8_state_110
      · refine lv_aload_n hx hb dX8_state_32 rfl (lv_at hl 0 rfl) ?_
        refine w_getr (ci := 9) (T := TX8) hx hb hts hin_TX8 hown hK hW hM.1.1 hM.1.2 (by decide) rfl 11 (by decide) (hts (.fieldLink RX8 34 "TownClocksModel" "late" "[I") (by decide +kernel)) (fun _ h9 => h9) rfl (mo_11 hM).2.2.2 dX8_state_33 ?_
        refine lv_iload_n hx hb dX8_state_36 rfl (lv_at hl 1 rfl) ?_
        refine w_iald hx hb hK hW (mo_11 hM).1 (mo_11 hM).2.1 (by rw [(mo_11 hM).2.2.1]; exact inx_v.mpr ⟨c_10.1, by have h9 := c_10.2; show _ < ((40 : Nat) : Int); omega⟩) dX8_state_37 ?_
        refine w_i (by rw [u2_ne (by decide)]) ?_
        refine lv_goto (tgt := 110) hx hb dX8_state_38 (by decide) ?_
        exact w_iret hx hb hr hlk hW hS (by first | rfl | (simp only [m_state, if_pos c_10, if_pos c_22, if_pos c_29, c_10, c_22, c_29, ↓reduceIte]; done) | simp [bz, m_state, if_pos c_10, if_pos c_22, if_pos c_29, c_10, c_22, c_29]) rfl rfl rfl dX8_state_110
    · refine lv_ldc (v := -1000001) hx hb hown (hts (.constant RX8 115 (-1000001)) (by decide +kernel)) dX8_state_25 ?_
      exact w_iret hx hb hr hlk hW hS (by first | rfl | (simp only [m_state, if_pos c_10, if_neg c_22, c_10, c_22, ↓reduceIte]; done) | simp [bz, m_state, if_pos c_10, if_neg c_22, c_10, c_22]) rfl rfl rfl dX8_state_27
set_option maxHeartbeats 4000000 in
set_option maxRecDepth 100000 in
theorem c_X8_put {X : (Nat → Prop) → State → Prop} (hxo : xok X) (l : Launch) (D : va_G) (q : Cq) {dm : List Nat} {kd ln ad : Nat → Nat} (V : Mv) (J : Mj) (R : Mr) (nP nD : Nat) (x v : Int32) (hM : okM dm kd ln R) (hmp : V 1000 1 = nI nP) (hnP : nP ≤ 30) (hmq : V 1000 7 = nI nD) (hnD : nD ≤ 40)  : CtI X l yX8_put wsX8_put ({ frames := 2, cells := 0, slots := 0, locals := 46 }) D q dm kd ln ad V J R [.ref (ad 1000), .int x, .int v] (m_put V nD x v) (m_putV V nD x v) (J) (R) := by
  refine CtI_of (cc := cX8_put) (maxL := 3) (ret := (some .int)) (by decide +kernel) rfl (Nat.le_of_ble_eq_true rfl) ?_
  intro p e s m below meth c A hx hb hr hml hts hown hlk hmn hK hW hA hXs ls hl
  have hS : va_S A s.heap s.heap [] := va_S.rf
  have hl : lv_has ls 3 [(0, .ref (ad 1000)), (1, .int x), (2, .int v)] := hl
  have hin_TX8 : ∀ w ∈ u_ws RX8 TX8 48, w ∈ wsX8_put := by decide +kernel
  refine lv_aload_n hx hb dX8_put_0 rfl (lv_at hl 0 rfl) ?_
  refine lv_iconst (v := 0) hx hb dX8_put_1 (by decide) ?_
  refine w_puti (ci := 9) (T := TX8) (ty := .int) hx hb hts hin_TX8 tyX8 tyX8_ok nmX8 hown hK hW hS hM.1.1 hM.1.2 (by decide) rfl 0 (by decide) (hts (.fieldLink RX8 95 "TownClocksModel" "thrown" "I") (by decide +kernel)) (fun _ h9 => h9) rfl (tyX8_ok 0 (by decide)) rfl rfl (Nat.le_of_ble_eq_true rfl) rfl dX8_put_2 (fun H locs hW hS => ?_)
  refine lv_aload_n hx hb dX8_put_5 rfl (lv_at hl 0 rfl) ?_
  refine lv_iload_n hx hb dX8_put_6 rfl (lv_at hl 1 rfl) ?_
  refine w_ci (w_runV ⟨hx, hb, hml, hown, hts⟩ (c_X8_isDial hxo l D q (u2 V 1000 0 0) J R nD x hM (by rw [u2_sn (by decide)]; exact hmq) hnD) hxo (cwV 1 hts gX8_put_X8_isDial rfl rfl rfl (by decide +kernel) ⟨Nat.le_of_ble_eq_true rfl, Nat.le_of_ble_eq_true rfl⟩) hK hW hS hA hXs (w_rcv hK hW hM.1.1 hM.1.2 (by decide) rfl) rfl hl.1 rfl (Nat.le_of_ble_eq_true rfl) dX8_put_7 ⟨Nat.zero_le _, Nat.zero_le _⟩) hW hS hA (fun H locs hW hS => ?_)
  refine w_ifz (tgt := 31) hx hb dX8_put_10 (by decide) (fun c_10 => ?_) (fun c_10 => ?_)
  · refine lv_ldc (v := -1000001) hx hb hown (hts (.constant RX8 115 (-1000001)) (by decide +kernel)) dX8_put_31 ?_
    exact w_iret hx hb hr hlk hW hS (by first | rfl | (simp only [m_put, m_putV, if_neg c_10, c_10, ↓reduceIte]; done) | simp [bz, m_put, m_putV, if_neg c_10, c_10]) (by first | rfl | (simp only [m_put, m_putV, if_neg c_10, c_10, ↓reduceIte]; done) | simp [bz, m_put, m_putV, if_neg c_10, c_10]) rfl rfl dX8_put_33
  · refine lv_iload_n hx hb dX8_put_13 rfl (lv_at hl 2 rfl) ?_
    refine lv_i2l hx hb dX8_put_14 rfl ?_
    refine lv_ldc2 (v := -60) hx hb hown (hts (.constantLong RX8 160 (-60)) (by decide +kernel)) dX8_put_15 ?_
    refine lv_ldc2 (v := 60) hx hb hown (hts (.constantLong RX8 117 (60)) (by decide +kernel)) dX8_put_18 ?_
    refine w_ci (w_runS ⟨hx, hb, hml, hown, hts⟩ (c_X8_in hxo l D q (u2 V 1000 0 0) J R v.toInt64 (-60) 60 ) hxo (va_cwS 3 hts gX8_put_X8_in rfl rfl rfl (by decide +kernel) ⟨Nat.le_of_ble_eq_true rfl, Nat.le_of_ble_eq_true rfl⟩) hK hW hS hA hXs rfl hl.1 rfl (Nat.le_of_ble_eq_true rfl) dX8_put_21 ⟨Nat.zero_le _, Nat.zero_le _⟩) hW hS hA (fun H locs hW hS => ?_)
    refine w_i (bz_iff (wid_l (c := (-60)) (d := 60) (by decide) (by decide))) ?_
    refine w_ifz (tgt := 31) hx hb dX8_put_24 (by decide) (fun c_24 => ?_) (fun c_24 => ?_)
    · refine lv_ldc (v := -1000001) hx hb hown (hts (.constant RX8 115 (-1000001)) (by decide +kernel)) dX8_put_31 ?_
      exact w_iret hx hb hr hlk hW hS (by first | rfl | (simp only [m_put, m_putV, if_pos c_10, if_neg c_24, c_10, c_24, ↓reduceIte]; done) | simp [bz, m_put, m_putV, if_pos c_10, if_neg c_24, c_10, c_24]) (by first | rfl | (simp only [m_put, m_putV, if_pos c_10, if_neg c_24, c_10, c_24, ↓reduceIte]; done) | simp [bz, m_put, m_putV, if_pos c_10, if_neg c_24, c_10, c_24]) rfl rfl dX8_put_33
    · refine lv_iload_n hx hb dX8_put_27 rfl (lv_at hl 2 rfl) ?_
      refine lv_if_ne (tgt := 34) hx hb dX8_put_28 (by decide) (fun c_28 => ?_) (fun c_28 => ?_)
      · refine lv_aload_n hx hb dX8_put_34 rfl (lv_at hl 0 rfl) ?_
        refine w_getr (ci := 9) (T := TX8) hx hb hts hin_TX8 hown hK hW hM.1.1 hM.1.2 (by decide) rfl 11 (by decide) (hts (.fieldLink RX8 34 "TownClocksModel" "late" "[I") (by decide +kernel)) (fun _ h9 => h9) rfl (mo_11 hM).2.2.2 dX8_put_35 ?_
        refine lv_iload_n hx hb dX8_put_38 rfl (lv_at hl 1 rfl) ?_
        refine lv_dup2_11 hx hb dX8_put_39 rfl rfl ?_
        refine w_iald hx hb hK hW (mo_11 hM).1 (mo_11 hM).2.1 (by rw [(mo_11 hM).2.2.1]; exact inx_v.mpr ⟨c_10.1, by have h9 := c_10.2; show _ < ((40 : Nat) : Int); omega⟩) dX8_put_40 ?_
        refine w_i (by rw [u2_ne (by decide)]) ?_
        refine lv_iload_n hx hb dX8_put_41 rfl (lv_at hl 2 rfl) ?_
        refine lv_isub hx hb dX8_put_42 ?_
        refine w_iast hx hb hK hW hS (mo_11 hM).1 (mo_11 hM).2.1 (by rw [(mo_11 hM).2.2.1]; exact inx_v.mpr ⟨c_10.1, by have h9 := c_10.2; show _ < ((40 : Nat) : Int); omega⟩) dX8_put_43 (fun H locs hW hS => ?_)
        refine lv_aload_n hx hb dX8_put_44 rfl (lv_at hl 0 rfl) ?_
        refine w_getr (ci := 9) (T := TX8) hx hb hts hin_TX8 hown hK hW hM.1.1 hM.1.2 (by decide) rfl 13 (by decide) (hts (.fieldLink RX8 40 "TownClocksModel" "known" "[I") (by decide +kernel)) (fun _ h9 => h9) rfl (mo_13 hM).2.2.2 dX8_put_45 ?_
        refine lv_iload_n hx hb dX8_put_48 rfl (lv_at hl 1 rfl) ?_
        refine lv_dup2_11 hx hb dX8_put_49 rfl rfl ?_
        refine w_iald hx hb hK hW (mo_13 hM).1 (mo_13 hM).2.1 (by rw [(mo_13 hM).2.2.1]; exact inx_v.mpr ⟨c_10.1, by have h9 := c_10.2; show _ < ((40 : Nat) : Int); omega⟩) dX8_put_50 ?_
        refine w_i (by rw [u2_ne (by decide), u2_ne (by decide)]) ?_
        refine lv_iload_n hx hb dX8_put_51 rfl (lv_at hl 2 rfl) ?_
        refine lv_isub hx hb dX8_put_52 ?_
        refine w_iast hx hb hK hW hS (mo_13 hM).1 (mo_13 hM).2.1 (by rw [(mo_13 hM).2.2.1]; exact inx_v.mpr ⟨c_10.1, by have h9 := c_10.2; show _ < ((40 : Nat) : Int); omega⟩) dX8_put_53 (fun H locs hW hS => ?_)
        refine lv_aload_n hx hb dX8_put_54 rfl (lv_at hl 0 rfl) ?_
        refine w_getr (ci := 9) (T := TX8) hx hb hts hin_TX8 hown hK hW hM.1.1 hM.1.2 (by decide) rfl 11 (by decide) (hts (.fieldLink RX8 34 "TownClocksModel" "late" "[I") (by decide +kernel)) (fun _ h9 => h9) rfl (mo_11 hM).2.2.2 dX8_put_55 ?_
        refine lv_iload_n hx hb dX8_put_58 rfl (lv_at hl 1 rfl) ?_
        refine w_iald hx hb hK hW (mo_11 hM).1 (mo_11 hM).2.1 (by rw [(mo_11 hM).2.2.1]; exact inx_v.mpr ⟨c_10.1, by have h9 := c_10.2; show _ < ((40 : Nat) : Int); omega⟩) dX8_put_59 ?_
        refine w_i (by rw [u2_ne (by decide), u2_ss]) ?_
        exact w_iret hx hb hr hlk hW hS (by first | rfl | (simp only [m_put, m_putV, if_pos c_10, if_pos c_24, if_neg c_28, c_10, c_24, c_28, ↓reduceIte]; done) | simp [bz, m_put, m_putV, if_pos c_10, if_pos c_24, if_neg c_28, c_10, c_24, c_28]) (by first | rfl | (simp only [m_put, m_putV, if_pos c_10, if_pos c_24, if_neg c_28, c_10, c_24, c_28, ↓reduceIte]; done) | simp [bz, m_put, m_putV, if_pos c_10, if_pos c_24, if_neg c_28, c_10, c_24, c_28]) rfl rfl dX8_put_60
      · refine lv_ldc (v := -1000001) hx hb hown (hts (.constant RX8 115 (-1000001)) (by decide +kernel)) dX8_put_31 ?_
        exact w_iret hx hb hr hlk hW hS (by first | rfl | (simp only [m_put, m_putV, if_pos c_10, if_pos c_24, if_pos c_28, c_10, c_24, c_28, ↓reduceIte]; done) | simp [bz, m_put, m_putV, if_pos c_10, if_pos c_24, if_pos c_28, c_10, c_24, c_28]) (by first | rfl | (simp only [m_put, m_putV, if_pos c_10, if_pos c_24, if_pos c_28, c_10, c_24, c_28, ↓reduceIte]; done) | simp [bz, m_put, m_putV, if_pos c_10, if_pos c_24, if_pos c_28, c_10, c_24, c_28]) rfl rfl dX8_put_33
set_option maxHeartbeats 4000000 in
set_option maxRecDepth 100000 in
theorem c_X8_makeRight {X : (Nat → Prop) → State → Prop} (hxo : xok X) (l : Launch) (D : va_G) (q : Cq) {dm : List Nat} {kd ln ad : Nat → Nat} (V : Mv) (J : Mj) (R : Mr) (x : Int32) (hM : okM dm kd ln R) (hx4 : inx 40 x) : CtV X l yX8_makeRight wsX8_makeRight ({ frames := 0, cells := 0, slots := 0, locals := 0 }) D q dm kd ln ad V J R [.ref (ad 1000), .int x] (m_rt V x.toNatClampNeg) (J) (R) := by
  refine CtV_of (cc := cX8_makeRight) (maxL := 2) (ret := none) (by decide +kernel) rfl (Nat.le_of_ble_eq_true rfl) ?_
  intro p e s m below meth c A hx hb hr hml hts hown hlk hmn hK hW hA hXs ls hl
  have hS : va_S A s.heap s.heap [] := va_S.rf
  have hl : lv_has ls 2 [(0, .ref (ad 1000)), (1, .int x)] := hl
  have hin_TX8 : ∀ w ∈ u_ws RX8 TX8 48, w ∈ wsX8_makeRight := by decide +kernel
  refine lv_aload_n hx hb dX8_makeRight_0 rfl (lv_at hl 0 rfl) ?_
  refine w_getr (ci := 9) (T := TX8) hx hb hts hin_TX8 hown hK hW hM.1.1 hM.1.2 (by decide) rfl 11 (by decide) (hts (.fieldLink RX8 34 "TownClocksModel" "late" "[I") (by decide +kernel)) (fun _ h9 => h9) rfl (mo_11 hM).2.2.2 dX8_makeRight_1 ?_
  refine lv_iload_n hx hb dX8_makeRight_4 rfl (lv_at hl 1 rfl) ?_
  refine lv_iconst (v := 0) hx hb dX8_makeRight_5 (by decide) ?_
  refine w_iast hx hb hK hW hS (mo_11 hM).1 (mo_11 hM).2.1 (by rw [(mo_11 hM).2.2.1]; exact inx_v.mpr hx4) dX8_makeRight_6 (fun H locs hW hS => ?_)
  refine lv_aload_n hx hb dX8_makeRight_7 rfl (lv_at hl 0 rfl) ?_
  refine w_getr (ci := 9) (T := TX8) hx hb hts hin_TX8 hown hK hW hM.1.1 hM.1.2 (by decide) rfl 13 (by decide) (hts (.fieldLink RX8 40 "TownClocksModel" "known" "[I") (by decide +kernel)) (fun _ h9 => h9) rfl (mo_13 hM).2.2.2 dX8_makeRight_8 ?_
  refine lv_iload_n hx hb dX8_makeRight_11 rfl (lv_at hl 1 rfl) ?_
  refine lv_iconst (v := 0) hx hb dX8_makeRight_12 (by decide) ?_
  refine w_iast hx hb hK hW hS (mo_13 hM).1 (mo_13 hM).2.1 (by rw [(mo_13 hM).2.2.1]; exact inx_v.mpr hx4) dX8_makeRight_13 (fun H locs hW hS => ?_)
  refine lv_aload_n hx hb dX8_makeRight_14 rfl (lv_at hl 0 rfl) ?_
  refine w_getr (ci := 9) (T := TX8) hx hb hts hin_TX8 hown hK hW hM.1.1 hM.1.2 (by decide) rfl 14 (by decide) (hts (.fieldLink RX8 43 "TownClocksModel" "since" "[I") (by decide +kernel)) (fun _ h9 => h9) rfl (mo_14 hM).2.2.2 dX8_makeRight_15 ?_
  refine lv_iload_n hx hb dX8_makeRight_18 rfl (lv_at hl 1 rfl) ?_
  refine lv_iconst (v := 0) hx hb dX8_makeRight_19 (by decide) ?_
  refine w_iast hx hb hK hW hS (mo_14 hM).1 (mo_14 hM).2.1 (by rw [(mo_14 hM).2.2.1]; exact inx_v.mpr hx4) dX8_makeRight_20 (fun H locs hW hS => ?_)
  refine lv_aload_n hx hb dX8_makeRight_21 rfl (lv_at hl 0 rfl) ?_
  refine w_getr (ci := 9) (T := TX8) hx hb hts hin_TX8 hown hK hW hM.1.1 hM.1.2 (by decide) rfl 12 (by decide) (hts (.fieldLink RX8 37 "TownClocksModel" "running" "[I") (by decide +kernel)) (fun _ h9 => h9) rfl (mo_12 hM).2.2.2 dX8_makeRight_22 ?_
  refine lv_iload_n hx hb dX8_makeRight_25 rfl (lv_at hl 1 rfl) ?_
  refine lv_iconst (v := 0) hx hb dX8_makeRight_26 (by decide) ?_
  refine w_iast hx hb hK hW hS (mo_12 hM).1 (mo_12 hM).2.1 (by rw [(mo_12 hM).2.2.1]; exact inx_v.mpr hx4) dX8_makeRight_27 (fun H locs hW hS => ?_)
  exact w_vret hx hb hr hlk hW hS rfl rfl rfl dX8_makeRight_28
set_option maxHeartbeats 4000000 in
set_option maxRecDepth 100000 in
theorem c_X8_right {X : (Nat → Prop) → State → Prop} (hxo : xok X) (l : Launch) (D : va_G) (q : Cq) {dm : List Nat} {kd ln ad : Nat → Nat} (V : Mv) (J : Mj) (R : Mr) (nP nD : Nat) (x : Int32) (hM : okM dm kd ln R) (hmp : V 1000 1 = nI nP) (hnP : nP ≤ 30) (hmq : V 1000 7 = nI nD) (hnD : nD ≤ 40)  : CtI X l yX8_right wsX8_right ({ frames := 2, cells := 0, slots := 0, locals := 46 }) D q dm kd ln ad V J R [.ref (ad 1000), .int x] (m_get V nD x 1011) (m_rightV V nD x) (J) (R) := by
  refine CtI_of (cc := cX8_right) (maxL := 3) (ret := (some .int)) (by decide +kernel) rfl (Nat.le_of_ble_eq_true rfl) ?_
  intro p e s m below meth c A hx hb hr hml hts hown hlk hmn hK hW hA hXs ls hl
  have hS : va_S A s.heap s.heap [] := va_S.rf
  have hl : lv_has ls 3 [(0, .ref (ad 1000)), (1, .int x)] := hl
  have hin_TX8 : ∀ w ∈ u_ws RX8 TX8 48, w ∈ wsX8_right := by decide +kernel
  refine lv_aload_n hx hb dX8_right_0 rfl (lv_at hl 0 rfl) ?_
  refine lv_iconst (v := 0) hx hb dX8_right_1 (by decide) ?_
  refine w_puti (ci := 9) (T := TX8) (ty := .int) hx hb hts hin_TX8 tyX8 tyX8_ok nmX8 hown hK hW hS hM.1.1 hM.1.2 (by decide) rfl 0 (by decide) (hts (.fieldLink RX8 95 "TownClocksModel" "thrown" "I") (by decide +kernel)) (fun _ h9 => h9) rfl (tyX8_ok 0 (by decide)) rfl rfl (Nat.le_of_ble_eq_true rfl) rfl dX8_right_2 (fun H locs hW hS => ?_)
  refine lv_aload_n hx hb dX8_right_5 rfl (lv_at hl 0 rfl) ?_
  refine lv_iload_n hx hb dX8_right_6 rfl (lv_at hl 1 rfl) ?_
  refine w_ci (w_runV ⟨hx, hb, hml, hown, hts⟩ (c_X8_isDial hxo l D q (u2 V 1000 0 0) J R nD x hM (by rw [u2_sn (by decide)]; exact hmq) hnD) hxo (cwV 1 hts gX8_right_X8_isDial rfl rfl rfl (by decide +kernel) ⟨Nat.le_of_ble_eq_true rfl, Nat.le_of_ble_eq_true rfl⟩) hK hW hS hA hXs (w_rcv hK hW hM.1.1 hM.1.2 (by decide) rfl) rfl hl.1 rfl (Nat.le_of_ble_eq_true rfl) dX8_right_7 ⟨Nat.zero_le _, Nat.zero_le _⟩) hW hS hA (fun H locs hW hS => ?_)
  refine w_ifnz (tgt := 16) hx hb dX8_right_10 (by decide) (fun c_10 => ?_) (fun c_10 => ?_)
  · refine lv_aload_n hx hb dX8_right_16 rfl (lv_at hl 0 rfl) ?_
    refine w_getr (ci := 9) (T := TX8) hx hb hts hin_TX8 hown hK hW hM.1.1 hM.1.2 (by decide) rfl 11 (by decide) (hts (.fieldLink RX8 34 "TownClocksModel" "late" "[I") (by decide +kernel)) (fun _ h9 => h9) rfl (mo_11 hM).2.2.2 dX8_right_17 ?_
    refine lv_iload_n hx hb dX8_right_20 rfl (lv_at hl 1 rfl) ?_
    refine w_iald hx hb hK hW (mo_11 hM).1 (mo_11 hM).2.1 (by rw [(mo_11 hM).2.2.1]; exact inx_v.mpr ⟨c_10.1, by have h9 := c_10.2; show _ < ((40 : Nat) : Int); omega⟩) dX8_right_21 ?_
    refine w_i (by rw [u2_ne (by decide)]) ?_
    refine lv_istore_n (lv' := [(2, .int (V 1011 x.toNatClampNeg)), (0, .ref (ad 1000)), (1, .int x)]) hx hb dX8_right_22 rfl hl (by decide) rfl (fun ls hl => ?_)
    refine lv_aload_n hx hb dX8_right_23 rfl (lv_at hl 1 rfl) ?_
    refine lv_iload_n hx hb dX8_right_24 rfl (lv_at hl 2 rfl) ?_
    refine w_cv (w_runV ⟨hx, hb, hml, hown, hts⟩ (c_X8_makeRight hxo l D q (u2 V 1000 0 0) J R x hM ⟨c_10.1, by have h9 := c_10.2; show _ < ((40 : Nat) : Int); omega⟩) hxo (cwV 1 hts gX8_right_X8_makeRight rfl rfl rfl (by decide +kernel) ⟨Nat.le_of_ble_eq_true rfl, Nat.le_of_ble_eq_true rfl⟩) hK hW hS hA hXs (w_rcv hK hW hM.1.1 hM.1.2 (by decide) rfl) rfl hl.1 rfl (Nat.le_of_ble_eq_true rfl) dX8_right_25 ⟨Nat.zero_le _, Nat.zero_le _⟩) hW hS hA (fun H locs hW hS => ?_)
    refine lv_iload_n hx hb dX8_right_28 rfl (lv_at hl 0 rfl) ?_
    exact w_iret hx hb hr hlk hW hS (by first | rfl | (simp only [m_get, m_rightV, if_pos c_10, c_10, ↓reduceIte]; done) | simp [bz, m_get, m_rightV, if_pos c_10, c_10]) (by first | rfl | (simp only [m_get, m_rightV, if_pos c_10, c_10, ↓reduceIte]; done) | simp [bz, m_get, m_rightV, if_pos c_10, c_10]) rfl rfl dX8_right_29
  · refine lv_ldc (v := -1000001) hx hb hown (hts (.constant RX8 115 (-1000001)) (by decide +kernel)) dX8_right_13 ?_
    exact w_iret hx hb hr hlk hW hS (by first | rfl | (simp only [m_get, m_rightV, if_neg c_10, c_10, ↓reduceIte]; done) | simp [bz, m_get, m_rightV, if_neg c_10, c_10]) (by first | rfl | (simp only [m_get, m_rightV, if_neg c_10, c_10, ↓reduceIte]; done) | simp [bz, m_get, m_rightV, if_neg c_10, c_10]) rfl rfl dX8_right_15
set_option maxHeartbeats 4000000 in
set_option maxRecDepth 100000 in
theorem c_X8_size {X : (Nat → Prop) → State → Prop} (hxo : xok X) (l : Launch) (D : va_G) (q : Cq) {dm : List Nat} {kd ln ad : Nat → Nat} (V : Mv) (J : Mj) (R : Mr) (a : Int32)  : CtI X l yX8_size wsX8_size ({ frames := 0, cells := 0, slots := 0, locals := 0 }) D q dm kd ln ad V J R [.int a] (m_size a) (V) (J) (R) := by
  refine CtI_of (cc := cX8_size) (maxL := 1) (ret := (some .int)) (by decide +kernel) rfl (Nat.le_of_ble_eq_true rfl) ?_
  intro p e s m below meth c A hx hb hr hml hts hown hlk hmn hK hW hA hXs ls hl
  have hS : va_S A s.heap s.heap [] := va_S.rf
  have hl : lv_has ls 1 [(0, .int a)] := hl
  refine lv_iload_n hx hb dX8_size_0 rfl (lv_at hl 0 rfl) ?_
  refine lv_if_ge (tgt := 9) hx hb dX8_size_1 (by decide) (fun c_1 => ?_) (fun c_1 => ?_)
  · refine lv_iload_n hx hb dX8_size_9 rfl (lv_at hl 0 rfl) ?_
    exact w_iret hx hb hr hlk hW hS (by first | rfl | (simp only [m_size, if_pos c_1, c_1, ↓reduceIte]; done) | simp [bz, m_size, if_pos c_1, c_1]) rfl rfl rfl dX8_size_10
  · refine lv_iload_n hx hb dX8_size_4 rfl (lv_at hl 0 rfl) ?_
    refine lv_ineg hx hb dX8_size_5 ?_
    refine lv_goto (tgt := 10) hx hb dX8_size_6 (by decide) ?_
    exact w_iret hx hb hr hlk hW hS (by first | rfl | (simp only [m_size, if_neg c_1, c_1, ↓reduceIte]; done) | simp [bz, m_size, if_neg c_1, c_1]) rfl rfl rfl dX8_size_10
set_option maxHeartbeats 4000000 in
set_option maxRecDepth 100000 in
theorem c_X8_kindOf {X : (Nat → Prop) → State → Prop} (hxo : xok X) (l : Launch) (D : va_G) (q : Cq) {dm : List Nat} {kd ln ad : Nat → Nat} (V : Mv) (J : Mj) (R : Mr) (x : Int32) (hM : okM dm kd ln R) (hx4 : inx 40 x) : CtI X l yX8_kindOf wsX8_kindOf ({ frames := 0, cells := 0, slots := 0, locals := 0 }) D q dm kd ln ad V J R [.ref (ad 1000), .int x] (m_kind V x.toNatClampNeg) (V) (J) (R) := by
  refine CtI_of (cc := cX8_kindOf) (maxL := 2) (ret := (some .int)) (by decide +kernel) rfl (Nat.le_of_ble_eq_true rfl) ?_
  intro p e s m below meth c A hx hb hr hml hts hown hlk hmn hK hW hA hXs ls hl
  have hS : va_S A s.heap s.heap [] := va_S.rf
  have hl : lv_has ls 2 [(0, .ref (ad 1000)), (1, .int x)] := hl
  have hin_TX8 : ∀ w ∈ u_ws RX8 TX8 48, w ∈ wsX8_kindOf := by decide +kernel
  refine lv_aload_n hx hb dX8_kindOf_0 rfl (lv_at hl 0 rfl) ?_
  refine w_getr (ci := 9) (T := TX8) hx hb hts hin_TX8 hown hK hW hM.1.1 hM.1.2 (by decide) rfl 12 (by decide) (hts (.fieldLink RX8 37 "TownClocksModel" "running" "[I") (by decide +kernel)) (fun _ h9 => h9) rfl (mo_12 hM).2.2.2 dX8_kindOf_1 ?_
  refine lv_iload_n hx hb dX8_kindOf_4 rfl (lv_at hl 1 rfl) ?_
  refine w_iald hx hb hK hW (mo_12 hM).1 (mo_12 hM).2.1 (by rw [(mo_12 hM).2.2.1]; exact inx_v.mpr hx4) dX8_kindOf_5 ?_
  refine lv_bipush (v := 10) hx hb dX8_kindOf_6 (by decide) ?_
  refine lv_icmp_lt (tgt := 15) hx hb dX8_kindOf_8 (by decide) (fun c_8 => ?_) (fun c_8 => ?_)
  · refine lv_aload_n hx hb dX8_kindOf_15 rfl (lv_at hl 0 rfl) ?_
    refine w_getr (ci := 9) (T := TX8) hx hb hts hin_TX8 hown hK hW hM.1.1 hM.1.2 (by decide) rfl 10 (by decide) (hts (.fieldLink RX8 31 "TownClocksModel" "sortOf" "[I") (by decide +kernel)) (fun _ h9 => h9) rfl (mo_10 hM).2.2.2 dX8_kindOf_16 ?_
    refine lv_iload_n hx hb dX8_kindOf_19 rfl (lv_at hl 1 rfl) ?_
    refine w_iald hx hb hK hW (mo_10 hM).1 (mo_10 hM).2.1 (by rw [(mo_10 hM).2.2.1]; exact inx_v.mpr hx4) dX8_kindOf_20 ?_
    exact w_iret hx hb hr hlk hW hS (by first | rfl | (simp only [m_kind, if_pos c_8, c_8, ↓reduceIte]; done) | simp [bz, m_kind, if_pos c_8, c_8]) rfl rfl rfl dX8_kindOf_21
  · refine lv_iconst (v := 3) hx hb dX8_kindOf_11 (by decide) ?_
    refine lv_goto (tgt := 21) hx hb dX8_kindOf_12 (by decide) ?_
    exact w_iret hx hb hr hlk hW hS (by first | rfl | (simp only [m_kind, if_neg c_8, c_8, ↓reduceIte]; done) | simp [bz, m_kind, if_neg c_8, c_8]) rfl rfl rfl dX8_kindOf_21
set_option maxHeartbeats 4000000 in
set_option maxRecDepth 100000 in
theorem c_X8_fault {X : (Nat → Prop) → State → Prop} (hxo : xok X) (l : Launch) (D : va_G) (q : Cq) {dm : List Nat} {kd ln ad : Nat → Nat} (V : Mv) (J : Mj) (R : Mr) (nP nD : Nat)  (hM : okM dm kd ln R) (hmp : V 1000 1 = nI nP) (hnP : nP ≤ 30) (hmq : V 1000 7 = nI nD) (hnD : nD ≤ 40)  : CtI X l yX8_fault wsX8_fault ({ frames := 0, cells := 0, slots := 0, locals := 0 }) D q dm kd ln ad V J R [.ref (ad 1000)] (V 1000 33) (u2 V 1000 0 0) (J) (R) := by
  refine CtI_of (cc := cX8_fault) (maxL := 1) (ret := (some .int)) (by decide +kernel) rfl (Nat.le_of_ble_eq_true rfl) ?_
  intro p e s m below meth c A hx hb hr hml hts hown hlk hmn hK hW hA hXs ls hl
  have hS : va_S A s.heap s.heap [] := va_S.rf
  have hl : lv_has ls 1 [(0, .ref (ad 1000))] := hl
  have hin_TX8 : ∀ w ∈ u_ws RX8 TX8 48, w ∈ wsX8_fault := by decide +kernel
  refine lv_aload_n hx hb dX8_fault_0 rfl (lv_at hl 0 rfl) ?_
  refine lv_iconst (v := 0) hx hb dX8_fault_1 (by decide) ?_
  refine w_puti (ci := 9) (T := TX8) (ty := .int) hx hb hts hin_TX8 tyX8 tyX8_ok nmX8 hown hK hW hS hM.1.1 hM.1.2 (by decide) rfl 0 (by decide) (hts (.fieldLink RX8 95 "TownClocksModel" "thrown" "I") (by decide +kernel)) (fun _ h9 => h9) rfl (tyX8_ok 0 (by decide)) rfl rfl (Nat.le_of_ble_eq_true rfl) rfl dX8_fault_2 (fun H locs hW hS => ?_)
  refine lv_aload_n hx hb dX8_fault_5 rfl (lv_at hl 0 rfl) ?_
  refine w_get (ci := 9) (T := TX8) hx hb hts hin_TX8 hown hK hW hM.1.1 hM.1.2 (by decide) rfl 33 (by decide) (hts (.fieldLink RX8 260 "TownClocksModel" "latest" "I") (by decide +kernel)) (fun _ h9 => h9) rfl dX8_fault_6 ?_
  refine w_i (by rw [u2_sn (by decide)]) ?_
  exact w_iret hx hb hr hlk hW hS rfl rfl rfl rfl dX8_fault_9
set_option maxHeartbeats 4000000 in
set_option maxRecDepth 100000 in
theorem c_X8_owes {X : (Nat → Prop) → State → Prop} (hxo : xok X) (l : Launch) (D : va_G) (q : Cq) {dm : List Nat} {kd ln ad : Nat → Nat} (V : Mv) (J : Mj) (R : Mr) (nP nD : Nat) (x : Int32) (hM : okM dm kd ln R) (hmp : V 1000 1 = nI nP) (hnP : nP ≤ 30) (hmq : V 1000 7 = nI nD) (hnD : nD ≤ 40)  : CtI X l yX8_owes wsX8_owes ({ frames := 2, cells := 0, slots := 0, locals := 46 }) D q dm kd ln ad V J R [.ref (ad 1000), .int x] (m_get V nD x 1020) (u2 V 1000 0 0) (J) (R) := by
  refine CtI_of (cc := cX8_owes) (maxL := 2) (ret := (some .int)) (by decide +kernel) rfl (Nat.le_of_ble_eq_true rfl) ?_
  intro p e s m below meth c A hx hb hr hml hts hown hlk hmn hK hW hA hXs ls hl
  have hS : va_S A s.heap s.heap [] := va_S.rf
  have hl : lv_has ls 2 [(0, .ref (ad 1000)), (1, .int x)] := hl
  have hin_TX8 : ∀ w ∈ u_ws RX8 TX8 48, w ∈ wsX8_owes := by decide +kernel
  refine lv_aload_n hx hb dX8_owes_0 rfl (lv_at hl 0 rfl) ?_
  refine lv_iconst (v := 0) hx hb dX8_owes_1 (by decide) ?_
  refine w_puti (ci := 9) (T := TX8) (ty := .int) hx hb hts hin_TX8 tyX8 tyX8_ok nmX8 hown hK hW hS hM.1.1 hM.1.2 (by decide) rfl 0 (by decide) (hts (.fieldLink RX8 95 "TownClocksModel" "thrown" "I") (by decide +kernel)) (fun _ h9 => h9) rfl (tyX8_ok 0 (by decide)) rfl rfl (Nat.le_of_ble_eq_true rfl) rfl dX8_owes_2 (fun H locs hW hS => ?_)
  refine lv_aload_n hx hb dX8_owes_5 rfl (lv_at hl 0 rfl) ?_
  refine lv_iload_n hx hb dX8_owes_6 rfl (lv_at hl 1 rfl) ?_
  refine w_ci (w_runV ⟨hx, hb, hml, hown, hts⟩ (c_X8_isDial hxo l D q (u2 V 1000 0 0) J R nD x hM (by rw [u2_sn (by decide)]; exact hmq) hnD) hxo (cwV 1 hts gX8_owes_X8_isDial rfl rfl rfl (by decide +kernel) ⟨Nat.le_of_ble_eq_true rfl, Nat.le_of_ble_eq_true rfl⟩) hK hW hS hA hXs (w_rcv hK hW hM.1.1 hM.1.2 (by decide) rfl) rfl hl.1 rfl (Nat.le_of_ble_eq_true rfl) dX8_owes_7 ⟨Nat.zero_le _, Nat.zero_le _⟩) hW hS hA (fun H locs hW hS => ?_)
  refine w_ifz (tgt := 22) hx hb dX8_owes_10 (by decide) (fun c_10 => ?_) (fun c_10 => ?_)
  · refine lv_ldc (v := -1000001) hx hb hown (hts (.constant RX8 115 (-1000001)) (by decide +kernel)) dX8_owes_22 ?_
    exact w_iret hx hb hr hlk hW hS (by first | rfl | (simp only [m_get, if_neg c_10, c_10, ↓reduceIte]; done) | simp [bz, m_get, if_neg c_10, c_10]) rfl rfl rfl dX8_owes_24
  · refine lv_aload_n hx hb dX8_owes_13 rfl (lv_at hl 0 rfl) ?_
    refine w_getr (ci := 9) (T := TX8) hx hb hts hin_TX8 hown hK hW hM.1.1 hM.1.2 (by decide) rfl 20 (by decide) (hts (.fieldLink RX8 62 "TownClocksModel" "owed" "[I") (by decide +kernel)) (fun _ h9 => h9) rfl (mo_20 hM).2.2.2 dX8_owes_14 ?_
    refine lv_iload_n hx hb dX8_owes_17 rfl (lv_at hl 1 rfl) ?_
    refine w_iald hx hb hK hW (mo_20 hM).1 (mo_20 hM).2.1 (by rw [(mo_20 hM).2.2.1]; exact inx_v.mpr ⟨c_10.1, by have h9 := c_10.2; show _ < ((40 : Nat) : Int); omega⟩) dX8_owes_18 ?_
    refine w_i (by rw [u2_ne (by decide)]) ?_
    refine lv_goto (tgt := 24) hx hb dX8_owes_19 (by decide) ?_
    exact w_iret hx hb hr hlk hW hS (by first | rfl | (simp only [m_get, if_pos c_10, c_10, ↓reduceIte]; done) | simp [bz, m_get, if_pos c_10, c_10]) rfl rfl rfl dX8_owes_24
set_option maxHeartbeats 4000000 in
set_option maxRecDepth 100000 in
theorem c_X8_kind {X : (Nat → Prop) → State → Prop} (hxo : xok X) (l : Launch) (D : va_G) (q : Cq) {dm : List Nat} {kd ln ad : Nat → Nat} (V : Mv) (J : Mj) (R : Mr) (nP nD : Nat) (x : Int32) (hM : okM dm kd ln R) (hmp : V 1000 1 = nI nP) (hnP : nP ≤ 30) (hmq : V 1000 7 = nI nD) (hnD : nD ≤ 40)  : CtI X l yX8_kind wsX8_kind ({ frames := 2, cells := 0, slots := 0, locals := 46 }) D q dm kd ln ad V J R [.ref (ad 1000), .int x] (m_kindR V nD x) (u2 V 1000 0 0) (J) (R) := by
  refine CtI_of (cc := cX8_kind) (maxL := 2) (ret := (some .int)) (by decide +kernel) rfl (Nat.le_of_ble_eq_true rfl) ?_
  intro p e s m below meth c A hx hb hr hml hts hown hlk hmn hK hW hA hXs ls hl
  have hS : va_S A s.heap s.heap [] := va_S.rf
  have hl : lv_has ls 2 [(0, .ref (ad 1000)), (1, .int x)] := hl
  have hin_TX8 : ∀ w ∈ u_ws RX8 TX8 48, w ∈ wsX8_kind := by decide +kernel
  refine lv_aload_n hx hb dX8_kind_0 rfl (lv_at hl 0 rfl) ?_
  refine lv_iconst (v := 0) hx hb dX8_kind_1 (by decide) ?_
  refine w_puti (ci := 9) (T := TX8) (ty := .int) hx hb hts hin_TX8 tyX8 tyX8_ok nmX8 hown hK hW hS hM.1.1 hM.1.2 (by decide) rfl 0 (by decide) (hts (.fieldLink RX8 95 "TownClocksModel" "thrown" "I") (by decide +kernel)) (fun _ h9 => h9) rfl (tyX8_ok 0 (by decide)) rfl rfl (Nat.le_of_ble_eq_true rfl) rfl dX8_kind_2 (fun H locs hW hS => ?_)
  refine lv_aload_n hx hb dX8_kind_5 rfl (lv_at hl 0 rfl) ?_
  refine lv_iload_n hx hb dX8_kind_6 rfl (lv_at hl 1 rfl) ?_
  refine w_ci (w_runV ⟨hx, hb, hml, hown, hts⟩ (c_X8_isDial hxo l D q (u2 V 1000 0 0) J R nD x hM (by rw [u2_sn (by decide)]; exact hmq) hnD) hxo (cwV 1 hts gX8_kind_X8_isDial rfl rfl rfl (by decide +kernel) ⟨Nat.le_of_ble_eq_true rfl, Nat.le_of_ble_eq_true rfl⟩) hK hW hS hA hXs (w_rcv hK hW hM.1.1 hM.1.2 (by decide) rfl) rfl hl.1 rfl (Nat.le_of_ble_eq_true rfl) dX8_kind_7 ⟨Nat.zero_le _, Nat.zero_le _⟩) hW hS hA (fun H locs hW hS => ?_)
  refine w_ifz (tgt := 21) hx hb dX8_kind_10 (by decide) (fun c_10 => ?_) (fun c_10 => ?_)
  · refine lv_ldc (v := -1000001) hx hb hown (hts (.constant RX8 115 (-1000001)) (by decide +kernel)) dX8_kind_21 ?_
    exact w_iret hx hb hr hlk hW hS (by first | rfl | (simp only [m_kindR, m_kind0, if_neg c_10, c_10, ↓reduceIte]; done) | simp [bz, m_kindR, m_kind0, if_neg c_10, c_10]) rfl rfl rfl dX8_kind_23
  · refine lv_aload_n hx hb dX8_kind_13 rfl (lv_at hl 0 rfl) ?_
    refine lv_iload_n hx hb dX8_kind_14 rfl (lv_at hl 1 rfl) ?_
    refine w_ci (w_runV ⟨hx, hb, hml, hown, hts⟩ (c_X8_kindOf hxo l D q (u2 V 1000 0 0) J R x hM ⟨c_10.1, by have h9 := c_10.2; show _ < ((40 : Nat) : Int); omega⟩) hxo (cwV 1 hts gX8_kind_X8_kindOf rfl rfl rfl (by decide +kernel) ⟨Nat.le_of_ble_eq_true rfl, Nat.le_of_ble_eq_true rfl⟩) hK hW hS hA hXs (w_rcv hK hW hM.1.1 hM.1.2 (by decide) rfl) rfl hl.1 rfl (Nat.le_of_ble_eq_true rfl) dX8_kind_15 ⟨Nat.zero_le _, Nat.zero_le _⟩) hW hS hA (fun H locs hW hS => ?_)
    refine w_i (m_kind0 rfl) ?_
    refine lv_goto (tgt := 23) hx hb dX8_kind_18 (by decide) ?_
    exact w_iret hx hb hr hlk hW hS (by first | rfl | (simp only [m_kindR, m_kind0, if_pos c_10, c_10, ↓reduceIte]; done) | simp [bz, m_kindR, m_kind0, if_pos c_10, c_10]) rfl rfl rfl dX8_kind_23
set_option maxHeartbeats 4000000 in
set_option maxRecDepth 100000 in
theorem c_X8_as {X : (Nat → Prop) → State → Prop} (hxo : xok X) (l : Launch) (D : va_G) (q : Cq) {dm : List Nat} {kd ln ad : Nat → Nat} (V : Mv) (J : Mj) (R : Mr) (nP nD : Nat) (x v : Int32) (hM : okM dm kd ln R) (hmp : V 1000 1 = nI nP) (hnP : nP ≤ 30) (hmq : V 1000 7 = nI nD) (hnD : nD ≤ 40)  : CtI X l yX8_as wsX8_as ({ frames := 2, cells := 0, slots := 0, locals := 46 }) D q dm kd ln ad V J R [.ref (ad 1000), .int x, .int v] (m_as V nD x v) (u2 V 1000 0 0) (J) (R) := by
  refine CtI_of (cc := cX8_as) (maxL := 4) (ret := (some .int)) (by decide +kernel) rfl (Nat.le_of_ble_eq_true rfl) ?_
  intro p e s m below meth c A hx hb hr hml hts hown hlk hmn hK hW hA hXs ls hl
  have hS : va_S A s.heap s.heap [] := va_S.rf
  have hl : lv_has ls 4 [(0, .ref (ad 1000)), (1, .int x), (2, .int v)] := hl
  have hin_TX8 : ∀ w ∈ u_ws RX8 TX8 48, w ∈ wsX8_as := by decide +kernel
  refine lv_aload_n hx hb dX8_as_0 rfl (lv_at hl 0 rfl) ?_
  refine lv_iconst (v := 0) hx hb dX8_as_1 (by decide) ?_
  refine w_puti (ci := 9) (T := TX8) (ty := .int) hx hb hts hin_TX8 tyX8 tyX8_ok nmX8 hown hK hW hS hM.1.1 hM.1.2 (by decide) rfl 0 (by decide) (hts (.fieldLink RX8 95 "TownClocksModel" "thrown" "I") (by decide +kernel)) (fun _ h9 => h9) rfl (tyX8_ok 0 (by decide)) rfl rfl (Nat.le_of_ble_eq_true rfl) rfl dX8_as_2 (fun H locs hW hS => ?_)
  refine lv_aload_n hx hb dX8_as_5 rfl (lv_at hl 0 rfl) ?_
  refine lv_iload_n hx hb dX8_as_6 rfl (lv_at hl 1 rfl) ?_
  refine w_ci (w_runV ⟨hx, hb, hml, hown, hts⟩ (c_X8_isDial hxo l D q (u2 V 1000 0 0) J R nD x hM (by rw [u2_sn (by decide)]; exact hmq) hnD) hxo (cwV 1 hts gX8_as_X8_isDial rfl rfl rfl (by decide +kernel) ⟨Nat.le_of_ble_eq_true rfl, Nat.le_of_ble_eq_true rfl⟩) hK hW hS hA hXs (w_rcv hK hW hM.1.1 hM.1.2 (by decide) rfl) rfl hl.1 rfl (Nat.le_of_ble_eq_true rfl) dX8_as_7 ⟨Nat.zero_le _, Nat.zero_le _⟩) hW hS hA (fun H locs hW hS => ?_)
  refine w_ifz (tgt := 25) hx hb dX8_as_10 (by decide) (fun c_10 => ?_) (fun c_10 => ?_)
  · refine lv_ldc (v := -1000001) hx hb hown (hts (.constant RX8 115 (-1000001)) (by decide +kernel)) dX8_as_25 ?_
    exact w_iret hx hb hr hlk hW hS (by simp only [m_as, if_neg c_10]) rfl rfl rfl dX8_as_27
  · refine lv_iload_n hx hb dX8_as_13 rfl (lv_at hl 2 rfl) ?_
    refine lv_i2l hx hb dX8_as_14 rfl ?_
    refine lv_lconst (v := 0) hx hb dX8_as_15 (by decide) ?_
    refine lv_ldc2 (v := 3) hx hb hown (hts (.constantLong RX8 264 (3)) (by decide +kernel)) dX8_as_16 ?_
    refine w_ci (w_runS ⟨hx, hb, hml, hown, hts⟩ (c_X8_in hxo l D q (u2 V 1000 0 0) J R v.toInt64 0 3 ) hxo (va_cwS 3 hts gX8_as_X8_in rfl rfl rfl (by decide +kernel) ⟨Nat.le_of_ble_eq_true rfl, Nat.le_of_ble_eq_true rfl⟩) hK hW hS hA hXs rfl hl.1 rfl (Nat.le_of_ble_eq_true rfl) dX8_as_19 ⟨Nat.zero_le _, Nat.zero_le _⟩) hW hS hA (fun H locs hW hS => ?_)
    refine w_i (bz_iff (wid_l (c := 0) (d := 3) (by decide) (by decide))) ?_
    refine w_ifnz (tgt := 28) hx hb dX8_as_22 (by decide) (fun c_22 => ?_) (fun c_22 => ?_)
    · refine lv_aload_n hx hb dX8_as_28 rfl (lv_at hl 0 rfl) ?_
      refine lv_iload_n hx hb dX8_as_29 rfl (lv_at hl 1 rfl) ?_
      refine w_ci (w_runV ⟨hx, hb, hml, hown, hts⟩ (c_X8_kindOf hxo l D q (u2 V 1000 0 0) J R x hM ⟨c_10.1, by have h9 := c_10.2; show _ < ((40 : Nat) : Int); omega⟩) hxo (cwV 1 hts gX8_as_X8_kindOf rfl rfl rfl (by decide +kernel) ⟨Nat.le_of_ble_eq_true rfl, Nat.le_of_ble_eq_true rfl⟩) hK hW hS hA hXs (w_rcv hK hW hM.1.1 hM.1.2 (by decide) rfl) rfl hl.1 rfl (Nat.le_of_ble_eq_true rfl) dX8_as_30 ⟨Nat.zero_le _, Nat.zero_le _⟩) hW hS hA (fun H locs hW hS => ?_)
      refine w_i (m_kind0 rfl) ?_
      refine lv_istore_n (lv' := [(3, .int (m_kind V x.toNatClampNeg)), (0, .ref (ad 1000)), (1, .int x), (2, .int v)]) hx hb dX8_as_33 rfl hl (by decide) rfl (fun ls hl => ?_)
      refine lv_iload_n hx hb dX8_as_34 rfl (lv_at hl 3 rfl) ?_
      refine lv_if_eq (tgt := 53) hx hb dX8_as_35 (by decide) (fun c_35 => ?_) (fun c_35 => ?_)
      · refine lv_aload_n hx hb dX8_as_53 rfl (lv_at hl 1 rfl) ?_
        refine w_getr (ci := 9) (T := TX8) hx hb hts hin_TX8 hown hK hW hM.1.1 hM.1.2 (by decide) rfl 11 (by decide) (hts (.fieldLink RX8 34 "TownClocksModel" "late" "[I") (by decide +kernel)) (fun _ h9 => h9) rfl (mo_11 hM).2.2.2 dX8_as_54 ?_
        refine lv_iload_n hx hb dX8_as_57 rfl (lv_at hl 2 rfl) ?_
        refine w_iald hx hb hK hW (mo_11 hM).1 (mo_11 hM).2.1 (by rw [(mo_11 hM).2.2.1]; exact inx_v.mpr ⟨c_10.1, by have h9 := c_10.2; show _ < ((40 : Nat) : Int); omega⟩) dX8_as_58 ?_
        refine w_i (by rw [u2_ne (by decide)]) ?_
        refine lv_goto (tgt := 64) hx hb dX8_as_59 (by decide) ?_
        exact w_iret hx hb hr hlk hW hS (by simp only [m_as, if_pos c_10, if_pos c_22, if_pos c_35]) rfl rfl rfl dX8_as_64
      · refine lv_iload_n hx hb dX8_as_38 rfl (lv_at hl 0 rfl) ?_
        refine lv_iload_n hx hb dX8_as_39 rfl (lv_at hl 3 rfl) ?_
        refine lv_icmp_eq (tgt := 53) hx hb dX8_as_40 (by decide) (fun c_40 => ?_) (fun c_40 => ?_)
        · refine lv_aload_n hx hb dX8_as_53 rfl (lv_at hl 1 rfl) ?_
          refine w_getr (ci := 9) (T := TX8) hx hb hts hin_TX8 hown hK hW hM.1.1 hM.1.2 (by decide) rfl 11 (by decide) (hts (.fieldLink RX8 34 "TownClocksModel" "late" "[I") (by decide +kernel)) (fun _ h9 => h9) rfl (mo_11 hM).2.2.2 dX8_as_54 ?_
          refine lv_iload_n hx hb dX8_as_57 rfl (lv_at hl 2 rfl) ?_
          refine w_iald hx hb hK hW (mo_11 hM).1 (mo_11 hM).2.1 (by rw [(mo_11 hM).2.2.1]; exact inx_v.mpr ⟨c_10.1, by have h9 := c_10.2; show _ < ((40 : Nat) : Int); omega⟩) dX8_as_58 ?_
          refine w_i (by rw [u2_ne (by decide)]) ?_
          refine lv_goto (tgt := 64) hx hb dX8_as_59 (by decide) ?_
          exact w_iret hx hb hr hlk hW hS (by simp only [m_as, if_pos c_10, if_pos c_22, if_neg c_35, if_pos c_40]) rfl rfl rfl dX8_as_64
        · refine lv_iload_n hx hb dX8_as_43 rfl (lv_at hl 3 rfl) ?_
          refine lv_iconst (v := 1) hx hb dX8_as_44 (by decide) ?_
          refine lv_icmp_ne (tgt := 62) hx hb dX8_as_45 (by decide) (fun c_45 => ?_) (fun c_45 => ?_)
          · refine lv_ldc (v := -1000004) hx hb hown (hts (.constant RX8 174 (-1000004)) (by decide +kernel)) dX8_as_62 ?_
            exact w_iret hx hb hr hlk hW hS (by simp only [m_as, if_pos c_10, if_pos c_22, if_neg c_35, if_neg c_40, if_neg c_45]) rfl rfl rfl dX8_as_64
          · refine lv_iload_n hx hb dX8_as_48 rfl (lv_at hl 0 rfl) ?_
            refine lv_iconst (v := 2) hx hb dX8_as_49 (by decide) ?_
            refine lv_icmp_ne (tgt := 62) hx hb dX8_as_50 (by decide) (fun c_50 => ?_) (fun c_50 => ?_)
            · refine lv_ldc (v := -1000004) hx hb hown (hts (.constant RX8 174 (-1000004)) (by decide +kernel)) dX8_as_62 ?_
              exact w_iret hx hb hr hlk hW hS (by simp only [m_as, if_pos c_10, if_pos c_22, if_neg c_35, if_neg c_40, if_pos c_45, if_neg c_50]) rfl rfl rfl dX8_as_64
            · refine lv_aload_n hx hb dX8_as_53 rfl (lv_at hl 1 rfl) ?_
              refine w_getr (ci := 9) (T := TX8) hx hb hts hin_TX8 hown hK hW hM.1.1 hM.1.2 (by decide) rfl 11 (by decide) (hts (.fieldLink RX8 34 "TownClocksModel" "late" "[I") (by decide +kernel)) (fun _ h9 => h9) rfl (mo_11 hM).2.2.2 dX8_as_54 ?_
              refine lv_iload_n hx hb dX8_as_57 rfl (lv_at hl 2 rfl) ?_
              refine w_iald hx hb hK hW (mo_11 hM).1 (mo_11 hM).2.1 (by rw [(mo_11 hM).2.2.1]; exact inx_v.mpr ⟨c_10.1, by have h9 := c_10.2; show _ < ((40 : Nat) : Int); omega⟩) dX8_as_58 ?_
              refine w_i (by rw [u2_ne (by decide)]) ?_
              refine lv_goto (tgt := 64) hx hb dX8_as_59 (by decide) ?_
              exact w_iret hx hb hr hlk hW hS (by simp only [m_as, if_pos c_10, if_pos c_22, if_neg c_35, if_neg c_40, if_pos c_45, if_pos c_50]) rfl rfl rfl dX8_as_64
    · refine lv_ldc (v := -1000001) hx hb hown (hts (.constant RX8 115 (-1000001)) (by decide +kernel)) dX8_as_25 ?_
      exact w_iret hx hb hr hlk hW hS (by simp only [m_as, if_pos c_10, if_neg c_22]) rfl rfl rfl dX8_as_27
set_option maxHeartbeats 4000000 in
set_option maxRecDepth 100000 in
theorem c_X8_trace {X : (Nat → Prop) → State → Prop} (hxo : xok X) (l : Launch) (D : va_G) (q : Cq) {dm : List Nat} {kd ln ad : Nat → Nat} (V : Mv) (J : Mj) (R : Mr) (nP nD : Nat) (x : Int32) (nT : Nat) (hM : okM dm kd ln R) (hmp : V 1000 1 = nI nP) (hnP : nP ≤ 30) (hmq : V 1000 7 = nI nD) (hnD : nD ≤ 40) (ht : V 1000 47 = nI nT) (hnT : nT ≤ 16) : CtI X l yX8_trace wsX8_trace ({ frames := 1, cells := 0, slots := 0, locals := 25 }) D q dm kd ln ad V J R [.ref (ad 1000), .int x] (m_trace V nT x) (u2 V 1000 0 0) (J) (R) := by
  refine CtI_of (cc := cX8_trace) (maxL := 2) (ret := (some .int)) (by decide +kernel) rfl (Nat.le_of_ble_eq_true rfl) ?_
  intro p e s m below meth c A hx hb hr hml hts hown hlk hmn hK hW hA hXs ls hl
  have hS : va_S A s.heap s.heap [] := va_S.rf
  have hl : lv_has ls 2 [(0, .ref (ad 1000)), (1, .int x)] := hl
  have hin_TX8 : ∀ w ∈ u_ws RX8 TX8 48, w ∈ wsX8_trace := by decide +kernel
  refine lv_aload_n hx hb dX8_trace_0 rfl (lv_at hl 0 rfl) ?_
  refine lv_iconst (v := 0) hx hb dX8_trace_1 (by decide) ?_
  refine w_puti (ci := 9) (T := TX8) (ty := .int) hx hb hts hin_TX8 tyX8 tyX8_ok nmX8 hown hK hW hS hM.1.1 hM.1.2 (by decide) rfl 0 (by decide) (hts (.fieldLink RX8 95 "TownClocksModel" "thrown" "I") (by decide +kernel)) (fun _ h9 => h9) rfl (tyX8_ok 0 (by decide)) rfl rfl (Nat.le_of_ble_eq_true rfl) rfl dX8_trace_2 (fun H locs hW hS => ?_)
  refine lv_iload_n hx hb dX8_trace_5 rfl (lv_at hl 1 rfl) ?_
  refine lv_i2l hx hb dX8_trace_6 rfl ?_
  refine lv_lconst (v := 0) hx hb dX8_trace_7 (by decide) ?_
  refine lv_aload_n hx hb dX8_trace_8 rfl (lv_at hl 0 rfl) ?_
  refine w_get (ci := 9) (T := TX8) hx hb hts hin_TX8 hown hK hW hM.1.1 hM.1.2 (by decide) rfl 47 (by decide) (hts (.fieldLink RX8 266 "TownClocksModel" "traced" "I") (by decide +kernel)) (fun _ h9 => h9) rfl dX8_trace_9 ?_
  refine w_i (by rw [u2_sn (by decide)]) ?_
  refine lv_iconst (v := 1) hx hb dX8_trace_12 (by decide) ?_
  refine lv_isub hx hb dX8_trace_13 ?_
  refine lv_i2l hx hb dX8_trace_14 rfl ?_
  refine w_ci (w_runS ⟨hx, hb, hml, hown, hts⟩ (c_X8_in hxo l D q (u2 V 1000 0 0) J R x.toInt64 0 (((V 1000 47) - 1).toInt64) ) hxo (va_cwS 3 hts gX8_trace_X8_in rfl rfl rfl (by decide +kernel) ⟨Nat.le_of_ble_eq_true rfl, Nat.le_of_ble_eq_true rfl⟩) hK hW hS hA hXs rfl hl.1 rfl (Nat.le_of_ble_eq_true rfl) dX8_trace_15 ⟨Nat.zero_le _, Nat.zero_le _⟩) hW hS hA (fun H locs hW hS => ?_)
  refine w_i (bz_iff (wid_l (c := 0) (d := (V 1000 47) - 1) (by decide) rfl)) ?_
  refine w_i (bz_iff (show _ ↔ inx nT x from by rw [ht]; exact inx_w (by omega))) ?_
  refine w_ifz (tgt := 30) hx hb dX8_trace_18 (by decide) (fun c_18 => ?_) (fun c_18 => ?_)
  · refine lv_ldc (v := -1000000) hx hb hown (hts (.constant RX8 106 (-1000000)) (by decide +kernel)) dX8_trace_30 ?_
    exact w_iret hx hb hr hlk hW hS (by first | rfl | (simp only [m_trace, if_neg c_18, c_18, ↓reduceIte]; done) | simp [bz, m_trace, if_neg c_18, c_18]) rfl rfl rfl dX8_trace_32
  · refine lv_aload_n hx hb dX8_trace_21 rfl (lv_at hl 0 rfl) ?_
    refine w_getr (ci := 9) (T := TX8) hx hb hts hin_TX8 hown hK hW hM.1.1 hM.1.2 (by decide) rfl 46 (by decide) (hts (.fieldLink RX8 92 "TownClocksModel" "trace" "[I") (by decide +kernel)) (fun _ h9 => h9) rfl (mo_46 hM).2.2.2 dX8_trace_22 ?_
    refine lv_iload_n hx hb dX8_trace_25 rfl (lv_at hl 1 rfl) ?_
    refine w_iald hx hb hK hW (mo_46 hM).1 (mo_46 hM).2.1 (by rw [(mo_46 hM).2.2.1]; exact inx_v.mpr ⟨c_18.1, by have h9 := c_18.2; show _ < ((16 : Nat) : Int); omega⟩) dX8_trace_26 ?_
    refine w_i (by rw [u2_ne (by decide)]) ?_
    refine lv_goto (tgt := 32) hx hb dX8_trace_27 (by decide) ?_
    exact w_iret hx hb hr hlk hW hS (by first | rfl | (simp only [m_trace, if_pos c_18, c_18, ↓reduceIte]; done) | simp [bz, m_trace, if_pos c_18, c_18]) rfl rfl rfl dX8_trace_32
set_option maxHeartbeats 4000000 in
set_option maxRecDepth 100000 in
theorem c_X8_findAir {X : (Nat → Prop) → State → Prop} (hxo : xok X) (l : Launch) (D : va_G) (q : Cq) {dm : List Nat} {kd ln ad : Nat → Nat} (V : Mv) (J : Mj) (R : Mr) (nP nD : Nat)  (hM : okM dm kd ln R) (hmp : V 1000 1 = nI nP) (hnP : nP ≤ 30) (hmq : V 1000 7 = nI nD) (hnD : nD ≤ 40)  (hpar : ∀ i, i < nP → V 1002 i = -1000000 ∨ ∃ j, j < i ∧ V 1002 i = nI j) : CtV X l yX8_findAir wsX8_findAir ({ frames := 0, cells := 0, slots := 0, locals := 0 }) D q dm kd ln ad V J R [.ref (ad 1000)] (m_air nP 0 V) (J) (R) := by
  refine CtV_of (cc := cX8_findAir) (maxL := 3) (ret := none) (by decide +kernel) rfl (Nat.le_of_ble_eq_true rfl) ?_
  intro p e s m below meth c A hx hb hr hml hts hown hlk hmn hK hW hA hXs ls hl
  have hS : va_S A s.heap s.heap [] := va_S.rf
  have hl : lv_has ls 3 [(0, .ref (ad 1000))] := hl
  have hin_TX8 : ∀ w ∈ u_ws RX8 TX8 48, w ∈ wsX8_findAir := by decide +kernel
  obtain ⟨F, hFe⟩ : ∃ r, r = m_air nP 0 V := ⟨_, rfl⟩
  have JL : ∀ n : Nat, ∀ (i : Nat) (Vw : Mv) (hn : i + n = nP) (hag : ∀ k, k ≠ 1006 → Vw k = V k) (hF : m_air n i Vw = F) (H : Heap) (locs : List Loc) (ls : Array Slot), wok A D q dm kd ln ad Vw J R H → va_S A s.heap H locs → lv_has ls 3 [(0, .ref (ad 1000)), (1, .int (nI i))] → W p l e ({ frames := 0, cells := 0, slots := 0, locals := 0 }) s m ([.ref (ad 1000)] : List Value).toArray below meth c H locs 0 0 (MQ below (QV D q dm kd ln ad (m_air nP 0 V) (J) (R) A) ([.ref (ad 1000)] : List Value).toArray s 0 0 A) (F0 m 2 ls []) := by
    intro n
    induction n with
    | zero =>
      intro i Vw hn hag hF H locs ls hW hS hl
      refine lv_iload_n hx hb dX8_findAir_2 rfl (lv_at hl 1 rfl) ?_
      refine lv_aload_n hx hb dX8_findAir_3 rfl (lv_at hl 0 rfl) ?_
      refine w_get (ci := 9) (T := TX8) hx hb hts hin_TX8 hown hK hW hM.1.1 hM.1.2 (by decide) rfl 1 (by decide) (hts (.fieldLink RX8 99 "TownClocksModel" "pipes" "I") (by decide +kernel)) (fun _ h9 => h9) rfl dX8_findAir_4 ?_
      refine lv_icmp_ge (tgt := 73) hx hb dX8_findAir_7 (by decide) (fun c_7 => ?_) (fun c_7 => ?_)
      · exact w_vret hx hb hr hlk hW hS (by rw [← hFe, ← hF]; rfl) rfl rfl dX8_findAir_73
      · exact absurd (by rw [hag 1000 (by decide), hmp]; exact nI_le (by omega) (by omega)) c_7
    | succ n ih =>
      intro i Vw hn hag hF H locs ls hW hS hl
      have hid : i < nP := by omega
      refine lv_iload_n hx hb dX8_findAir_2 rfl (lv_at hl 1 rfl) ?_
      refine lv_aload_n hx hb dX8_findAir_3 rfl (lv_at hl 0 rfl) ?_
      refine w_get (ci := 9) (T := TX8) hx hb hts hin_TX8 hown hK hW hM.1.1 hM.1.2 (by decide) rfl 1 (by decide) (hts (.fieldLink RX8 99 "TownClocksModel" "pipes" "I") (by decide +kernel)) (fun _ h9 => h9) rfl dX8_findAir_4 ?_
      refine lv_icmp_ge (tgt := 73) hx hb dX8_findAir_7 (by decide) (fun c_7 => ?_) (fun c_7 => ?_)
      · exact absurd c_7 (by rw [hag 1000 (by decide), hmp]; exact nI_ge (by omega) (by omega))
      · rcases hpar i hid with hpn | ⟨j, hj, hpj⟩
        · have hp0 : Vw 1002 i = -1000000 := by rw [hag 1002 (by decide)]; exact hpn
          refine lv_aload_n hx hb dX8_findAir_10 rfl (lv_at hl 0 rfl) ?_
          refine w_getr (ci := 9) (T := TX8) hx hb hts hin_TX8 hown hK hW hM.1.1 hM.1.2 (by decide) rfl 2 (by decide) (hts (.fieldLink RX8 7 "TownClocksModel" "parent" "[I") (by decide +kernel)) (fun _ h9 => h9) rfl (mo_2 hM).2.2.2 dX8_findAir_11 ?_
          refine lv_iload_n hx hb dX8_findAir_14 rfl (lv_at hl 1 rfl) ?_
          refine w_ialdN (t := i) hx hb hK hW (mo_2 hM).1 (mo_2 hM).2.1 ⟨by rw [(mo_2 hM).2.2.1]; omega, by omega⟩ dX8_findAir_15 ?_
          refine lv_ldc (v := -1000000) hx hb hown (hts (.constant RX8 106 (-1000000)) (by decide +kernel)) dX8_findAir_16 ?_
          refine lv_icmp_ne (tgt := 26) hx hb dX8_findAir_18 (by decide) (fun c_18 => ?_) (fun c_18 => ?_)
          · exact absurd hp0 c_18
          · refine lv_bipush (v := 100) hx hb dX8_findAir_21 (by decide) ?_
            refine lv_goto (tgt := 37) hx hb dX8_findAir_23 (by decide) ?_
            refine lv_aload_n hx hb dX8_findAir_37 rfl (lv_at hl 0 rfl) ?_
            refine w_getr (ci := 9) (T := TX8) hx hb hts hin_TX8 hown hK hW hM.1.1 hM.1.2 (by decide) rfl 3 (by decide) (hts (.fieldLink RX8 13 "TownClocksModel" "loss" "[I") (by decide +kernel)) (fun _ h9 => h9) rfl (mo_3 hM).2.2.2 dX8_findAir_38 ?_
            refine lv_iload_n hx hb dX8_findAir_41 rfl (lv_at hl 1 rfl) ?_
            refine w_ialdN (t := i) hx hb hK hW (mo_3 hM).1 (mo_3 hM).2.1 ⟨by rw [(mo_3 hM).2.2.1]; omega, by omega⟩ dX8_findAir_42 ?_
            refine lv_isub hx hb dX8_findAir_43 ?_
            refine lv_aload_n hx hb dX8_findAir_44 rfl (lv_at hl 0 rfl) ?_
            refine w_getr (ci := 9) (T := TX8) hx hb hts hin_TX8 hown hK hW hM.1.1 hM.1.2 (by decide) rfl 5 (by decide) (hts (.fieldLink RX8 19 "TownClocksModel" "leak" "[I") (by decide +kernel)) (fun _ h9 => h9) rfl (mo_5 hM).2.2.2 dX8_findAir_45 ?_
            refine lv_iload_n hx hb dX8_findAir_48 rfl (lv_at hl 1 rfl) ?_
            refine w_ialdN (t := i) hx hb hK hW (mo_5 hM).1 (mo_5 hM).2.1 ⟨by rw [(mo_5 hM).2.2.1]; omega, by omega⟩ dX8_findAir_49 ?_
            refine lv_isub hx hb dX8_findAir_50 ?_
            refine lv_istore_n (lv' := [(2, .int ((100 - (Vw 1003 i)) - (Vw 1005 i))), (0, .ref (ad 1000)), (1, .int (nI i))]) hx hb dX8_findAir_51 rfl hl (by decide) rfl (fun ls hl => ?_)
            refine lv_aload_n hx hb dX8_findAir_52 rfl (lv_at hl 1 rfl) ?_
            refine w_getr (ci := 9) (T := TX8) hx hb hts hin_TX8 hown hK hW hM.1.1 hM.1.2 (by decide) rfl 6 (by decide) (hts (.fieldLink RX8 22 "TownClocksModel" "air" "[I") (by decide +kernel)) (fun _ h9 => h9) rfl (mo_6 hM).2.2.2 dX8_findAir_53 ?_
            refine lv_iload_n hx hb dX8_findAir_56 rfl (lv_at hl 2 rfl) ?_
            refine lv_iload_n hx hb dX8_findAir_57 rfl (lv_at hl 0 rfl) ?_
            refine lv_if_ge (tgt := 65) hx hb dX8_findAir_58 (by decide) (fun c_58 => ?_) (fun c_58 => ?_)
            · refine lv_iload_n hx hb dX8_findAir_65 rfl (lv_at hl 0 rfl) ?_
              refine w_iastN (t := i) hx hb hK hW hS (mo_6 hM).1 (mo_6 hM).2.1 ⟨by rw [(mo_6 hM).2.2.1]; omega, by omega⟩ dX8_findAir_66 (fun H locs hW hS => ?_)
              refine lv_iinc (v := nI (i + 1)) (lv' := [(1, .int (nI (i + 1))), (2, .int ((100 - (Vw 1003 i)) - (Vw 1005 i))), (0, .ref (ad 1000))]) hx hb dX8_findAir_67 hl (k := 2) rfl (by rw [show Int32.ofInt 1 = 1 from by decide]; exact nI_1 _) (by decide) rfl (fun ls hl => ?_)
              refine lv_goto (tgt := 2) hx hb dX8_findAir_70 (by decide) ?_
              exact ih (i + 1) _ (by omega) (fun k hk => by rw [u2_ne hk]; exact hag k hk) (by have h := hF; simp only [m_air, m_par, if_pos hp0] at h; simp only [if_neg c_7, if_pos c_58] at h; exact h) _ _ _ hW hS (lv_sub hl [2, 0] rfl)
            · refine lv_iconst (v := 0) hx hb dX8_findAir_61 (by decide) ?_
              refine lv_goto (tgt := 66) hx hb dX8_findAir_62 (by decide) ?_
              refine w_iastN (t := i) hx hb hK hW hS (mo_6 hM).1 (mo_6 hM).2.1 ⟨by rw [(mo_6 hM).2.2.1]; omega, by omega⟩ dX8_findAir_66 (fun H locs hW hS => ?_)
              refine lv_iinc (v := nI (i + 1)) (lv' := [(1, .int (nI (i + 1))), (2, .int ((100 - (Vw 1003 i)) - (Vw 1005 i))), (0, .ref (ad 1000))]) hx hb dX8_findAir_67 hl (k := 2) rfl (by rw [show Int32.ofInt 1 = 1 from by decide]; exact nI_1 _) (by decide) rfl (fun ls hl => ?_)
              refine lv_goto (tgt := 2) hx hb dX8_findAir_70 (by decide) ?_
              exact ih (i + 1) _ (by omega) (fun k hk => by rw [u2_ne hk]; exact hag k hk) (by have h := hF; simp only [m_air, m_par, if_pos hp0] at h; simp only [if_neg c_7, if_neg c_58] at h; exact h) _ _ _ hW hS (lv_sub hl [2, 0] rfl)
        · have hp0 : Vw 1002 i = nI j := by rw [hag 1002 (by decide)]; exact hpj
          refine lv_aload_n hx hb dX8_findAir_10 rfl (lv_at hl 0 rfl) ?_
          refine w_getr (ci := 9) (T := TX8) hx hb hts hin_TX8 hown hK hW hM.1.1 hM.1.2 (by decide) rfl 2 (by decide) (hts (.fieldLink RX8 7 "TownClocksModel" "parent" "[I") (by decide +kernel)) (fun _ h9 => h9) rfl (mo_2 hM).2.2.2 dX8_findAir_11 ?_
          refine lv_iload_n hx hb dX8_findAir_14 rfl (lv_at hl 1 rfl) ?_
          refine w_ialdN (t := i) hx hb hK hW (mo_2 hM).1 (mo_2 hM).2.1 ⟨by rw [(mo_2 hM).2.2.1]; omega, by omega⟩ dX8_findAir_15 ?_
          refine lv_ldc (v := -1000000) hx hb hown (hts (.constant RX8 106 (-1000000)) (by decide +kernel)) dX8_findAir_16 ?_
          refine lv_icmp_ne (tgt := 26) hx hb dX8_findAir_18 (by decide) (fun c_18 => ?_) (fun c_18 => ?_)
          · refine lv_aload_n hx hb dX8_findAir_26 rfl (lv_at hl 0 rfl) ?_
            refine w_getr (ci := 9) (T := TX8) hx hb hts hin_TX8 hown hK hW hM.1.1 hM.1.2 (by decide) rfl 6 (by decide) (hts (.fieldLink RX8 22 "TownClocksModel" "air" "[I") (by decide +kernel)) (fun _ h9 => h9) rfl (mo_6 hM).2.2.2 dX8_findAir_27 ?_
            refine lv_aload_n hx hb dX8_findAir_30 rfl (lv_at hl 0 rfl) ?_
            refine w_getr (ci := 9) (T := TX8) hx hb hts hin_TX8 hown hK hW hM.1.1 hM.1.2 (by decide) rfl 2 (by decide) (hts (.fieldLink RX8 7 "TownClocksModel" "parent" "[I") (by decide +kernel)) (fun _ h9 => h9) rfl (mo_2 hM).2.2.2 dX8_findAir_31 ?_
            refine lv_iload_n hx hb dX8_findAir_34 rfl (lv_at hl 1 rfl) ?_
            refine w_ialdN (t := i) hx hb hK hW (mo_2 hM).1 (mo_2 hM).2.1 ⟨by rw [(mo_2 hM).2.2.1]; omega, by omega⟩ dX8_findAir_35 ?_
            refine w_i hp0 ?_
            refine w_ialdN (t := j) hx hb hK hW (mo_6 hM).1 (mo_6 hM).2.1 ⟨by rw [(mo_6 hM).2.2.1]; omega, by omega⟩ dX8_findAir_36 ?_
            refine lv_aload_n hx hb dX8_findAir_37 rfl (lv_at hl 0 rfl) ?_
            refine w_getr (ci := 9) (T := TX8) hx hb hts hin_TX8 hown hK hW hM.1.1 hM.1.2 (by decide) rfl 3 (by decide) (hts (.fieldLink RX8 13 "TownClocksModel" "loss" "[I") (by decide +kernel)) (fun _ h9 => h9) rfl (mo_3 hM).2.2.2 dX8_findAir_38 ?_
            refine lv_iload_n hx hb dX8_findAir_41 rfl (lv_at hl 1 rfl) ?_
            refine w_ialdN (t := i) hx hb hK hW (mo_3 hM).1 (mo_3 hM).2.1 ⟨by rw [(mo_3 hM).2.2.1]; omega, by omega⟩ dX8_findAir_42 ?_
            refine lv_isub hx hb dX8_findAir_43 ?_
            refine lv_aload_n hx hb dX8_findAir_44 rfl (lv_at hl 0 rfl) ?_
            refine w_getr (ci := 9) (T := TX8) hx hb hts hin_TX8 hown hK hW hM.1.1 hM.1.2 (by decide) rfl 5 (by decide) (hts (.fieldLink RX8 19 "TownClocksModel" "leak" "[I") (by decide +kernel)) (fun _ h9 => h9) rfl (mo_5 hM).2.2.2 dX8_findAir_45 ?_
            refine lv_iload_n hx hb dX8_findAir_48 rfl (lv_at hl 1 rfl) ?_
            refine w_ialdN (t := i) hx hb hK hW (mo_5 hM).1 (mo_5 hM).2.1 ⟨by rw [(mo_5 hM).2.2.1]; omega, by omega⟩ dX8_findAir_49 ?_
            refine lv_isub hx hb dX8_findAir_50 ?_
            refine lv_istore_n (lv' := [(2, .int (((Vw 1006 j) - (Vw 1003 i)) - (Vw 1005 i))), (0, .ref (ad 1000)), (1, .int (nI i))]) hx hb dX8_findAir_51 rfl hl (by decide) rfl (fun ls hl => ?_)
            refine lv_aload_n hx hb dX8_findAir_52 rfl (lv_at hl 1 rfl) ?_
            refine w_getr (ci := 9) (T := TX8) hx hb hts hin_TX8 hown hK hW hM.1.1 hM.1.2 (by decide) rfl 6 (by decide) (hts (.fieldLink RX8 22 "TownClocksModel" "air" "[I") (by decide +kernel)) (fun _ h9 => h9) rfl (mo_6 hM).2.2.2 dX8_findAir_53 ?_
            refine lv_iload_n hx hb dX8_findAir_56 rfl (lv_at hl 2 rfl) ?_
            refine lv_iload_n hx hb dX8_findAir_57 rfl (lv_at hl 0 rfl) ?_
            refine lv_if_ge (tgt := 65) hx hb dX8_findAir_58 (by decide) (fun c_58 => ?_) (fun c_58 => ?_)
            · refine lv_iload_n hx hb dX8_findAir_65 rfl (lv_at hl 0 rfl) ?_
              refine w_iastN (t := i) hx hb hK hW hS (mo_6 hM).1 (mo_6 hM).2.1 ⟨by rw [(mo_6 hM).2.2.1]; omega, by omega⟩ dX8_findAir_66 (fun H locs hW hS => ?_)
              refine lv_iinc (v := nI (i + 1)) (lv' := [(1, .int (nI (i + 1))), (2, .int (((Vw 1006 j) - (Vw 1003 i)) - (Vw 1005 i))), (0, .ref (ad 1000))]) hx hb dX8_findAir_67 hl (k := 2) rfl (by rw [show Int32.ofInt 1 = 1 from by decide]; exact nI_1 _) (by decide) rfl (fun ls hl => ?_)
              refine lv_goto (tgt := 2) hx hb dX8_findAir_70 (by decide) ?_
              exact ih (i + 1) _ (by omega) (fun k hk => by rw [u2_ne hk]; exact hag k hk) (by have h := hF; simp only [m_air, m_par, if_neg (m_npar' hp0 hj (by omega))] at h; simp only [hp0, nI_clamp (show j < 2 ^ 31 by omega), if_neg c_7, if_pos c_58] at h; exact h) _ _ _ hW hS (lv_sub hl [2, 0] rfl)
            · refine lv_iconst (v := 0) hx hb dX8_findAir_61 (by decide) ?_
              refine lv_goto (tgt := 66) hx hb dX8_findAir_62 (by decide) ?_
              refine w_iastN (t := i) hx hb hK hW hS (mo_6 hM).1 (mo_6 hM).2.1 ⟨by rw [(mo_6 hM).2.2.1]; omega, by omega⟩ dX8_findAir_66 (fun H locs hW hS => ?_)
              refine lv_iinc (v := nI (i + 1)) (lv' := [(1, .int (nI (i + 1))), (2, .int (((Vw 1006 j) - (Vw 1003 i)) - (Vw 1005 i))), (0, .ref (ad 1000))]) hx hb dX8_findAir_67 hl (k := 2) rfl (by rw [show Int32.ofInt 1 = 1 from by decide]; exact nI_1 _) (by decide) rfl (fun ls hl => ?_)
              refine lv_goto (tgt := 2) hx hb dX8_findAir_70 (by decide) ?_
              exact ih (i + 1) _ (by omega) (fun k hk => by rw [u2_ne hk]; exact hag k hk) (by have h := hF; simp only [m_air, m_par, if_neg (m_npar' hp0 hj (by omega))] at h; simp only [hp0, nI_clamp (show j < 2 ^ 31 by omega), if_neg c_7, if_neg c_58] at h; exact h) _ _ _ hW hS (lv_sub hl [2, 0] rfl)
          · exact absurd (hp0.symm.trans c_18) (m_npar hj (by omega))
  refine lv_iconst (v := 0) hx hb dX8_findAir_0 (by decide) ?_
  refine lv_istore_n (lv' := [(1, .int 0), (0, .ref (ad 1000))]) hx hb dX8_findAir_1 rfl hl (by decide) rfl (fun ls hl => ?_)
  exact JL nP 0 V (by omega) (fun _ _ => rfl) hFe.symm _ _ _ hW hS (lv_sub hl [1, 0] rfl)
set_option maxHeartbeats 4000000 in
set_option maxRecDepth 100000 in
theorem c_X8_findAirBy {X : (Nat → Prop) → State → Prop} (hxo : xok X) (l : Launch) (D : va_G) (q : Cq) {dm : List Nat} {kd ln ad : Nat → Nat} (V : Mv) (J : Mj) (R : Mr) (nP nD : Nat) (one l2 : Int32) (hM : okM dm kd ln R) (hmp : V 1000 1 = nI nP) (hnP : nP ≤ 30) (hmq : V 1000 7 = nI nD) (hnD : nD ≤ 40)  (hpar : ∀ i, i < nP → V 1002 i = -1000000 ∨ ∃ j, j < i ∧ V 1002 i = nI j) : CtV X l yX8_findAirBy wsX8_findAirBy ({ frames := 0, cells := 0, slots := 0, locals := 0 }) D q dm kd ln ad V J R [.ref (ad 1000), .int one, .int l2] (m_airB one l2 nP 0 V) (J) (R) := by
  refine CtV_of (cc := cX8_findAirBy) (maxL := 5) (ret := none) (by decide +kernel) rfl (Nat.le_of_ble_eq_true rfl) ?_
  intro p e s m below meth c A hx hb hr hml hts hown hlk hmn hK hW hA hXs ls hl
  have hS : va_S A s.heap s.heap [] := va_S.rf
  have hl : lv_has ls 5 [(0, .ref (ad 1000)), (1, .int one), (2, .int l2)] := hl
  have hin_TX8 : ∀ w ∈ u_ws RX8 TX8 48, w ∈ wsX8_findAirBy := by decide +kernel
  obtain ⟨F, hFe⟩ : ∃ r, r = m_airB one l2 nP 0 V := ⟨_, rfl⟩
  have JL : ∀ n : Nat, ∀ (i : Nat) (Vw : Mv) (hn : i + n = nP) (hag : ∀ k, k ≠ 1006 → Vw k = V k) (hF : m_airB one l2 n i Vw = F) (H : Heap) (locs : List Loc) (ls : Array Slot), wok A D q dm kd ln ad Vw J R H → va_S A s.heap H locs → lv_has ls 5 [(0, .ref (ad 1000)), (1, .int one), (2, .int l2), (3, .int (nI i))] → W p l e ({ frames := 0, cells := 0, slots := 0, locals := 0 }) s m ([.ref (ad 1000), .int one, .int l2] : List Value).toArray below meth c H locs 0 0 (MQ below (QV D q dm kd ln ad (m_airB one l2 nP 0 V) (J) (R) A) ([.ref (ad 1000), .int one, .int l2] : List Value).toArray s 0 0 A) (F0 m 2 ls []) := by
    intro n
    induction n with
    | zero =>
      intro i Vw hn hag hF H locs ls hW hS hl
      refine lv_iload_n hx hb dX8_findAirBy_2 rfl (lv_at hl 3 rfl) ?_
      refine lv_aload_n hx hb dX8_findAirBy_3 rfl (lv_at hl 0 rfl) ?_
      refine w_get (ci := 9) (T := TX8) hx hb hts hin_TX8 hown hK hW hM.1.1 hM.1.2 (by decide) rfl 1 (by decide) (hts (.fieldLink RX8 99 "TownClocksModel" "pipes" "I") (by decide +kernel)) (fun _ h9 => h9) rfl dX8_findAirBy_4 ?_
      refine lv_icmp_ge (tgt := 80) hx hb dX8_findAirBy_7 (by decide) (fun c_7 => ?_) (fun c_7 => ?_)
      · exact w_vret hx hb hr hlk hW hS (by rw [← hFe, ← hF]; rfl) rfl rfl dX8_findAirBy_80
      · exact absurd (by rw [hag 1000 (by decide), hmp]; exact nI_le (by omega) (by omega)) c_7
    | succ n ih =>
      intro i Vw hn hag hF H locs ls hW hS hl
      have hid : i < nP := by omega
      refine lv_iload_n hx hb dX8_findAirBy_2 rfl (lv_at hl 3 rfl) ?_
      refine lv_aload_n hx hb dX8_findAirBy_3 rfl (lv_at hl 0 rfl) ?_
      refine w_get (ci := 9) (T := TX8) hx hb hts hin_TX8 hown hK hW hM.1.1 hM.1.2 (by decide) rfl 1 (by decide) (hts (.fieldLink RX8 99 "TownClocksModel" "pipes" "I") (by decide +kernel)) (fun _ h9 => h9) rfl dX8_findAirBy_4 ?_
      refine lv_icmp_ge (tgt := 80) hx hb dX8_findAirBy_7 (by decide) (fun c_7 => ?_) (fun c_7 => ?_)
      · exact absurd c_7 (by rw [hag 1000 (by decide), hmp]; exact nI_ge (by omega) (by omega))
      · rcases hpar i hid with hpn | ⟨j, hj, hpj⟩
        · have hp0 : Vw 1002 i = -1000000 := by rw [hag 1002 (by decide)]; exact hpn
          refine lv_aload_n hx hb dX8_findAirBy_10 rfl (lv_at hl 0 rfl) ?_
          refine w_getr (ci := 9) (T := TX8) hx hb hts hin_TX8 hown hK hW hM.1.1 hM.1.2 (by decide) rfl 2 (by decide) (hts (.fieldLink RX8 7 "TownClocksModel" "parent" "[I") (by decide +kernel)) (fun _ h9 => h9) rfl (mo_2 hM).2.2.2 dX8_findAirBy_11 ?_
          refine lv_iload_n hx hb dX8_findAirBy_14 rfl (lv_at hl 3 rfl) ?_
          refine w_ialdN (t := i) hx hb hK hW (mo_2 hM).1 (mo_2 hM).2.1 ⟨by rw [(mo_2 hM).2.2.1]; omega, by omega⟩ dX8_findAirBy_15 ?_
          refine lv_ldc (v := -1000000) hx hb hown (hts (.constant RX8 106 (-1000000)) (by decide +kernel)) dX8_findAirBy_16 ?_
          refine lv_icmp_ne (tgt := 26) hx hb dX8_findAirBy_18 (by decide) (fun c_18 => ?_) (fun c_18 => ?_)
          · exact absurd hp0 c_18
          · refine lv_bipush (v := 100) hx hb dX8_findAirBy_21 (by decide) ?_
            refine lv_goto (tgt := 37) hx hb dX8_findAirBy_23 (by decide) ?_
            refine lv_aload_n hx hb dX8_findAirBy_37 rfl (lv_at hl 0 rfl) ?_
            refine w_getr (ci := 9) (T := TX8) hx hb hts hin_TX8 hown hK hW hM.1.1 hM.1.2 (by decide) rfl 3 (by decide) (hts (.fieldLink RX8 13 "TownClocksModel" "loss" "[I") (by decide +kernel)) (fun _ h9 => h9) rfl (mo_3 hM).2.2.2 dX8_findAirBy_38 ?_
            refine lv_iload_n hx hb dX8_findAirBy_41 rfl (lv_at hl 3 rfl) ?_
            refine w_ialdN (t := i) hx hb hK hW (mo_3 hM).1 (mo_3 hM).2.1 ⟨by rw [(mo_3 hM).2.2.1]; omega, by omega⟩ dX8_findAirBy_42 ?_
            refine lv_isub hx hb dX8_findAirBy_43 ?_
            refine lv_iload_n hx hb dX8_findAirBy_44 rfl (lv_at hl 3 rfl) ?_
            refine lv_iload_n hx hb dX8_findAirBy_45 rfl (lv_at hl 1 rfl) ?_
            refine lv_icmp_ne (tgt := 53) hx hb dX8_findAirBy_46 (by decide) (fun c_46 => ?_) (fun c_46 => ?_)
            · refine lv_iconst (v := 0) hx hb dX8_findAirBy_53 (by decide) ?_
              refine lv_isub hx hb dX8_findAirBy_54 ?_
              refine lv_istore (lv' := [(4, .int ((100 - (Vw 1003 i)) - 0)), (0, .ref (ad 1000)), (1, .int one), (2, .int l2), (3, .int (nI i))]) hx hb dX8_findAirBy_55 hl (by decide) rfl (fun ls hl => ?_)
              refine lv_aload_n hx hb dX8_findAirBy_57 rfl (lv_at hl 1 rfl) ?_
              refine w_getr (ci := 9) (T := TX8) hx hb hts hin_TX8 hown hK hW hM.1.1 hM.1.2 (by decide) rfl 6 (by decide) (hts (.fieldLink RX8 22 "TownClocksModel" "air" "[I") (by decide +kernel)) (fun _ h9 => h9) rfl (mo_6 hM).2.2.2 dX8_findAirBy_58 ?_
              refine lv_iload_n hx hb dX8_findAirBy_61 rfl (lv_at hl 4 rfl) ?_
              refine lv_iload hx hb dX8_findAirBy_62 (lv_at hl 0 rfl) ?_
              refine lv_if_ge (tgt := 71) hx hb dX8_findAirBy_64 (by decide) (fun c_64 => ?_) (fun c_64 => ?_)
              · refine lv_iload hx hb dX8_findAirBy_71 (lv_at hl 0 rfl) ?_
                refine w_iastN (t := i) hx hb hK hW hS (mo_6 hM).1 (mo_6 hM).2.1 ⟨by rw [(mo_6 hM).2.2.1]; omega, by omega⟩ dX8_findAirBy_73 (fun H locs hW hS => ?_)
                refine lv_iinc (v := nI (i + 1)) (lv' := [(3, .int (nI (i + 1))), (4, .int ((100 - (Vw 1003 i)) - 0)), (0, .ref (ad 1000)), (1, .int one), (2, .int l2)]) hx hb dX8_findAirBy_74 hl (k := 4) rfl (by rw [show Int32.ofInt 1 = 1 from by decide]; exact nI_1 _) (by decide) rfl (fun ls hl => ?_)
                refine lv_goto (tgt := 2) hx hb dX8_findAirBy_77 (by decide) ?_
                exact ih (i + 1) _ (by omega) (fun k hk => by rw [u2_ne hk]; exact hag k hk) (by have h := hF; simp only [m_airB, m_par, if_pos hp0] at h; simp only [if_neg c_7, if_neg c_46, if_pos c_64] at h; exact h) _ _ _ hW hS (lv_sub hl [2, 3, 4, 0] rfl)
              · refine lv_iconst (v := 0) hx hb dX8_findAirBy_67 (by decide) ?_
                refine lv_goto (tgt := 73) hx hb dX8_findAirBy_68 (by decide) ?_
                refine w_iastN (t := i) hx hb hK hW hS (mo_6 hM).1 (mo_6 hM).2.1 ⟨by rw [(mo_6 hM).2.2.1]; omega, by omega⟩ dX8_findAirBy_73 (fun H locs hW hS => ?_)
                refine lv_iinc (v := nI (i + 1)) (lv' := [(3, .int (nI (i + 1))), (4, .int ((100 - (Vw 1003 i)) - 0)), (0, .ref (ad 1000)), (1, .int one), (2, .int l2)]) hx hb dX8_findAirBy_74 hl (k := 4) rfl (by rw [show Int32.ofInt 1 = 1 from by decide]; exact nI_1 _) (by decide) rfl (fun ls hl => ?_)
                refine lv_goto (tgt := 2) hx hb dX8_findAirBy_77 (by decide) ?_
                exact ih (i + 1) _ (by omega) (fun k hk => by rw [u2_ne hk]; exact hag k hk) (by have h := hF; simp only [m_airB, m_par, if_pos hp0] at h; simp only [if_neg c_7, if_neg c_46, if_neg c_64] at h; exact h) _ _ _ hW hS (lv_sub hl [2, 3, 4, 0] rfl)
            · refine lv_iload_n hx hb dX8_findAirBy_49 rfl (lv_at hl 2 rfl) ?_
              refine lv_goto (tgt := 54) hx hb dX8_findAirBy_50 (by decide) ?_
              refine lv_isub hx hb dX8_findAirBy_54 ?_
              refine lv_istore (lv' := [(4, .int ((100 - (Vw 1003 i)) - l2)), (0, .ref (ad 1000)), (1, .int one), (2, .int l2), (3, .int (nI i))]) hx hb dX8_findAirBy_55 hl (by decide) rfl (fun ls hl => ?_)
              refine lv_aload_n hx hb dX8_findAirBy_57 rfl (lv_at hl 1 rfl) ?_
              refine w_getr (ci := 9) (T := TX8) hx hb hts hin_TX8 hown hK hW hM.1.1 hM.1.2 (by decide) rfl 6 (by decide) (hts (.fieldLink RX8 22 "TownClocksModel" "air" "[I") (by decide +kernel)) (fun _ h9 => h9) rfl (mo_6 hM).2.2.2 dX8_findAirBy_58 ?_
              refine lv_iload_n hx hb dX8_findAirBy_61 rfl (lv_at hl 4 rfl) ?_
              refine lv_iload hx hb dX8_findAirBy_62 (lv_at hl 0 rfl) ?_
              refine lv_if_ge (tgt := 71) hx hb dX8_findAirBy_64 (by decide) (fun c_64 => ?_) (fun c_64 => ?_)
              · refine lv_iload hx hb dX8_findAirBy_71 (lv_at hl 0 rfl) ?_
                refine w_iastN (t := i) hx hb hK hW hS (mo_6 hM).1 (mo_6 hM).2.1 ⟨by rw [(mo_6 hM).2.2.1]; omega, by omega⟩ dX8_findAirBy_73 (fun H locs hW hS => ?_)
                refine lv_iinc (v := nI (i + 1)) (lv' := [(3, .int (nI (i + 1))), (4, .int ((100 - (Vw 1003 i)) - l2)), (0, .ref (ad 1000)), (1, .int one), (2, .int l2)]) hx hb dX8_findAirBy_74 hl (k := 4) rfl (by rw [show Int32.ofInt 1 = 1 from by decide]; exact nI_1 _) (by decide) rfl (fun ls hl => ?_)
                refine lv_goto (tgt := 2) hx hb dX8_findAirBy_77 (by decide) ?_
                exact ih (i + 1) _ (by omega) (fun k hk => by rw [u2_ne hk]; exact hag k hk) (by have h := hF; simp only [m_airB, m_par, if_pos hp0] at h; simp only [if_neg c_7, if_pos c_46, if_pos c_64] at h; exact h) _ _ _ hW hS (lv_sub hl [2, 3, 4, 0] rfl)
              · refine lv_iconst (v := 0) hx hb dX8_findAirBy_67 (by decide) ?_
                refine lv_goto (tgt := 73) hx hb dX8_findAirBy_68 (by decide) ?_
                refine w_iastN (t := i) hx hb hK hW hS (mo_6 hM).1 (mo_6 hM).2.1 ⟨by rw [(mo_6 hM).2.2.1]; omega, by omega⟩ dX8_findAirBy_73 (fun H locs hW hS => ?_)
                refine lv_iinc (v := nI (i + 1)) (lv' := [(3, .int (nI (i + 1))), (4, .int ((100 - (Vw 1003 i)) - l2)), (0, .ref (ad 1000)), (1, .int one), (2, .int l2)]) hx hb dX8_findAirBy_74 hl (k := 4) rfl (by rw [show Int32.ofInt 1 = 1 from by decide]; exact nI_1 _) (by decide) rfl (fun ls hl => ?_)
                refine lv_goto (tgt := 2) hx hb dX8_findAirBy_77 (by decide) ?_
                exact ih (i + 1) _ (by omega) (fun k hk => by rw [u2_ne hk]; exact hag k hk) (by have h := hF; simp only [m_airB, m_par, if_pos hp0] at h; simp only [if_neg c_7, if_pos c_46, if_neg c_64] at h; exact h) _ _ _ hW hS (lv_sub hl [2, 3, 4, 0] rfl)
        · have hp0 : Vw 1002 i = nI j := by rw [hag 1002 (by decide)]; exact hpj
          refine lv_aload_n hx hb dX8_findAirBy_10 rfl (lv_at hl 0 rfl) ?_
          refine w_getr (ci := 9) (T := TX8) hx hb hts hin_TX8 hown hK hW hM.1.1 hM.1.2 (by decide) rfl 2 (by decide) (hts (.fieldLink RX8 7 "TownClocksModel" "parent" "[I") (by decide +kernel)) (fun _ h9 => h9) rfl (mo_2 hM).2.2.2 dX8_findAirBy_11 ?_
          refine lv_iload_n hx hb dX8_findAirBy_14 rfl (lv_at hl 3 rfl) ?_
          refine w_ialdN (t := i) hx hb hK hW (mo_2 hM).1 (mo_2 hM).2.1 ⟨by rw [(mo_2 hM).2.2.1]; omega, by omega⟩ dX8_findAirBy_15 ?_
          refine lv_ldc (v := -1000000) hx hb hown (hts (.constant RX8 106 (-1000000)) (by decide +kernel)) dX8_findAirBy_16 ?_
          refine lv_icmp_ne (tgt := 26) hx hb dX8_findAirBy_18 (by decide) (fun c_18 => ?_) (fun c_18 => ?_)
          · refine lv_aload_n hx hb dX8_findAirBy_26 rfl (lv_at hl 0 rfl) ?_
            refine w_getr (ci := 9) (T := TX8) hx hb hts hin_TX8 hown hK hW hM.1.1 hM.1.2 (by decide) rfl 6 (by decide) (hts (.fieldLink RX8 22 "TownClocksModel" "air" "[I") (by decide +kernel)) (fun _ h9 => h9) rfl (mo_6 hM).2.2.2 dX8_findAirBy_27 ?_
            refine lv_aload_n hx hb dX8_findAirBy_30 rfl (lv_at hl 0 rfl) ?_
            refine w_getr (ci := 9) (T := TX8) hx hb hts hin_TX8 hown hK hW hM.1.1 hM.1.2 (by decide) rfl 2 (by decide) (hts (.fieldLink RX8 7 "TownClocksModel" "parent" "[I") (by decide +kernel)) (fun _ h9 => h9) rfl (mo_2 hM).2.2.2 dX8_findAirBy_31 ?_
            refine lv_iload_n hx hb dX8_findAirBy_34 rfl (lv_at hl 3 rfl) ?_
            refine w_ialdN (t := i) hx hb hK hW (mo_2 hM).1 (mo_2 hM).2.1 ⟨by rw [(mo_2 hM).2.2.1]; omega, by omega⟩ dX8_findAirBy_35 ?_
            refine w_i hp0 ?_
            refine w_ialdN (t := j) hx hb hK hW (mo_6 hM).1 (mo_6 hM).2.1 ⟨by rw [(mo_6 hM).2.2.1]; omega, by omega⟩ dX8_findAirBy_36 ?_
            refine lv_aload_n hx hb dX8_findAirBy_37 rfl (lv_at hl 0 rfl) ?_
            refine w_getr (ci := 9) (T := TX8) hx hb hts hin_TX8 hown hK hW hM.1.1 hM.1.2 (by decide) rfl 3 (by decide) (hts (.fieldLink RX8 13 "TownClocksModel" "loss" "[I") (by decide +kernel)) (fun _ h9 => h9) rfl (mo_3 hM).2.2.2 dX8_findAirBy_38 ?_
            refine lv_iload_n hx hb dX8_findAirBy_41 rfl (lv_at hl 3 rfl) ?_
            refine w_ialdN (t := i) hx hb hK hW (mo_3 hM).1 (mo_3 hM).2.1 ⟨by rw [(mo_3 hM).2.2.1]; omega, by omega⟩ dX8_findAirBy_42 ?_
            refine lv_isub hx hb dX8_findAirBy_43 ?_
            refine lv_iload_n hx hb dX8_findAirBy_44 rfl (lv_at hl 3 rfl) ?_
            refine lv_iload_n hx hb dX8_findAirBy_45 rfl (lv_at hl 1 rfl) ?_
            refine lv_icmp_ne (tgt := 53) hx hb dX8_findAirBy_46 (by decide) (fun c_46 => ?_) (fun c_46 => ?_)
            · refine lv_iconst (v := 0) hx hb dX8_findAirBy_53 (by decide) ?_
              refine lv_isub hx hb dX8_findAirBy_54 ?_
              refine lv_istore (lv' := [(4, .int (((Vw 1006 j) - (Vw 1003 i)) - 0)), (0, .ref (ad 1000)), (1, .int one), (2, .int l2), (3, .int (nI i))]) hx hb dX8_findAirBy_55 hl (by decide) rfl (fun ls hl => ?_)
              refine lv_aload_n hx hb dX8_findAirBy_57 rfl (lv_at hl 1 rfl) ?_
              refine w_getr (ci := 9) (T := TX8) hx hb hts hin_TX8 hown hK hW hM.1.1 hM.1.2 (by decide) rfl 6 (by decide) (hts (.fieldLink RX8 22 "TownClocksModel" "air" "[I") (by decide +kernel)) (fun _ h9 => h9) rfl (mo_6 hM).2.2.2 dX8_findAirBy_58 ?_
              refine lv_iload_n hx hb dX8_findAirBy_61 rfl (lv_at hl 4 rfl) ?_
              refine lv_iload hx hb dX8_findAirBy_62 (lv_at hl 0 rfl) ?_
              refine lv_if_ge (tgt := 71) hx hb dX8_findAirBy_64 (by decide) (fun c_64 => ?_) (fun c_64 => ?_)
              · refine lv_iload hx hb dX8_findAirBy_71 (lv_at hl 0 rfl) ?_
                refine w_iastN (t := i) hx hb hK hW hS (mo_6 hM).1 (mo_6 hM).2.1 ⟨by rw [(mo_6 hM).2.2.1]; omega, by omega⟩ dX8_findAirBy_73 (fun H locs hW hS => ?_)
                refine lv_iinc (v := nI (i + 1)) (lv' := [(3, .int (nI (i + 1))), (4, .int (((Vw 1006 j) - (Vw 1003 i)) - 0)), (0, .ref (ad 1000)), (1, .int one), (2, .int l2)]) hx hb dX8_findAirBy_74 hl (k := 4) rfl (by rw [show Int32.ofInt 1 = 1 from by decide]; exact nI_1 _) (by decide) rfl (fun ls hl => ?_)
                refine lv_goto (tgt := 2) hx hb dX8_findAirBy_77 (by decide) ?_
                exact ih (i + 1) _ (by omega) (fun k hk => by rw [u2_ne hk]; exact hag k hk) (by have h := hF; simp only [m_airB, m_par, if_neg (m_npar' hp0 hj (by omega))] at h; simp only [hp0, nI_clamp (show j < 2 ^ 31 by omega), if_neg c_7, if_neg c_46, if_pos c_64] at h; exact h) _ _ _ hW hS (lv_sub hl [2, 3, 4, 0] rfl)
              · refine lv_iconst (v := 0) hx hb dX8_findAirBy_67 (by decide) ?_
                refine lv_goto (tgt := 73) hx hb dX8_findAirBy_68 (by decide) ?_
                refine w_iastN (t := i) hx hb hK hW hS (mo_6 hM).1 (mo_6 hM).2.1 ⟨by rw [(mo_6 hM).2.2.1]; omega, by omega⟩ dX8_findAirBy_73 (fun H locs hW hS => ?_)
                refine lv_iinc (v := nI (i + 1)) (lv' := [(3, .int (nI (i + 1))), (4, .int (((Vw 1006 j) - (Vw 1003 i)) - 0)), (0, .ref (ad 1000)), (1, .int one), (2, .int l2)]) hx hb dX8_findAirBy_74 hl (k := 4) rfl (by rw [show Int32.ofInt 1 = 1 from by decide]; exact nI_1 _) (by decide) rfl (fun ls hl => ?_)
                refine lv_goto (tgt := 2) hx hb dX8_findAirBy_77 (by decide) ?_
                exact ih (i + 1) _ (by omega) (fun k hk => by rw [u2_ne hk]; exact hag k hk) (by have h := hF; simp only [m_airB, m_par, if_neg (m_npar' hp0 hj (by omega))] at h; simp only [hp0, nI_clamp (show j < 2 ^ 31 by omega), if_neg c_7, if_neg c_46, if_neg c_64] at h; exact h) _ _ _ hW hS (lv_sub hl [2, 3, 4, 0] rfl)
            · refine lv_iload_n hx hb dX8_findAirBy_49 rfl (lv_at hl 2 rfl) ?_
              refine lv_goto (tgt := 54) hx hb dX8_findAirBy_50 (by decide) ?_
              refine lv_isub hx hb dX8_findAirBy_54 ?_
              refine lv_istore (lv' := [(4, .int (((Vw 1006 j) - (Vw 1003 i)) - l2)), (0, .ref (ad 1000)), (1, .int one), (2, .int l2), (3, .int (nI i))]) hx hb dX8_findAirBy_55 hl (by decide) rfl (fun ls hl => ?_)
              refine lv_aload_n hx hb dX8_findAirBy_57 rfl (lv_at hl 1 rfl) ?_
              refine w_getr (ci := 9) (T := TX8) hx hb hts hin_TX8 hown hK hW hM.1.1 hM.1.2 (by decide) rfl 6 (by decide) (hts (.fieldLink RX8 22 "TownClocksModel" "air" "[I") (by decide +kernel)) (fun _ h9 => h9) rfl (mo_6 hM).2.2.2 dX8_findAirBy_58 ?_
              refine lv_iload_n hx hb dX8_findAirBy_61 rfl (lv_at hl 4 rfl) ?_
              refine lv_iload hx hb dX8_findAirBy_62 (lv_at hl 0 rfl) ?_
              refine lv_if_ge (tgt := 71) hx hb dX8_findAirBy_64 (by decide) (fun c_64 => ?_) (fun c_64 => ?_)
              · refine lv_iload hx hb dX8_findAirBy_71 (lv_at hl 0 rfl) ?_
                refine w_iastN (t := i) hx hb hK hW hS (mo_6 hM).1 (mo_6 hM).2.1 ⟨by rw [(mo_6 hM).2.2.1]; omega, by omega⟩ dX8_findAirBy_73 (fun H locs hW hS => ?_)
                refine lv_iinc (v := nI (i + 1)) (lv' := [(3, .int (nI (i + 1))), (4, .int (((Vw 1006 j) - (Vw 1003 i)) - l2)), (0, .ref (ad 1000)), (1, .int one), (2, .int l2)]) hx hb dX8_findAirBy_74 hl (k := 4) rfl (by rw [show Int32.ofInt 1 = 1 from by decide]; exact nI_1 _) (by decide) rfl (fun ls hl => ?_)
                refine lv_goto (tgt := 2) hx hb dX8_findAirBy_77 (by decide) ?_
                exact ih (i + 1) _ (by omega) (fun k hk => by rw [u2_ne hk]; exact hag k hk) (by have h := hF; simp only [m_airB, m_par, if_neg (m_npar' hp0 hj (by omega))] at h; simp only [hp0, nI_clamp (show j < 2 ^ 31 by omega), if_neg c_7, if_pos c_46, if_pos c_64] at h; exact h) _ _ _ hW hS (lv_sub hl [2, 3, 4, 0] rfl)
              · refine lv_iconst (v := 0) hx hb dX8_findAirBy_67 (by decide) ?_
                refine lv_goto (tgt := 73) hx hb dX8_findAirBy_68 (by decide) ?_
                refine w_iastN (t := i) hx hb hK hW hS (mo_6 hM).1 (mo_6 hM).2.1 ⟨by rw [(mo_6 hM).2.2.1]; omega, by omega⟩ dX8_findAirBy_73 (fun H locs hW hS => ?_)
                refine lv_iinc (v := nI (i + 1)) (lv' := [(3, .int (nI (i + 1))), (4, .int (((Vw 1006 j) - (Vw 1003 i)) - l2)), (0, .ref (ad 1000)), (1, .int one), (2, .int l2)]) hx hb dX8_findAirBy_74 hl (k := 4) rfl (by rw [show Int32.ofInt 1 = 1 from by decide]; exact nI_1 _) (by decide) rfl (fun ls hl => ?_)
                refine lv_goto (tgt := 2) hx hb dX8_findAirBy_77 (by decide) ?_
                exact ih (i + 1) _ (by omega) (fun k hk => by rw [u2_ne hk]; exact hag k hk) (by have h := hF; simp only [m_airB, m_par, if_neg (m_npar' hp0 hj (by omega))] at h; simp only [hp0, nI_clamp (show j < 2 ^ 31 by omega), if_neg c_7, if_pos c_46, if_neg c_64] at h; exact h) _ _ _ hW hS (lv_sub hl [2, 3, 4, 0] rfl)
          · exact absurd (hp0.symm.trans c_18) (m_npar hj (by omega))
  refine lv_iconst (v := 0) hx hb dX8_findAirBy_0 (by decide) ?_
  refine lv_istore_n (lv' := [(3, .int 0), (0, .ref (ad 1000)), (1, .int one), (2, .int l2)]) hx hb dX8_findAirBy_1 rfl hl (by decide) rfl (fun ls hl => ?_)
  exact JL nP 0 V (by omega) (fun _ _ => rfl) hFe.symm _ _ _ hW hS (lv_sub hl [1, 2, 3, 0] rfl)
set_option maxHeartbeats 4000000 in
set_option maxRecDepth 100000 in
theorem c_X8_lagOf {X : (Nat → Prop) → State → Prop} (hxo : xok X) (l : Launch) (D : va_G) (q : Cq) {dm : List Nat} {kd ln ad : Nat → Nat} (V : Mv) (J : Mj) (R : Mr) (nP nD : Nat) (i : Nat) (hM : okM dm kd ln R) (hmp : V 1000 1 = nI nP) (hnP : nP ≤ 30) (hmq : V 1000 7 = nI nD) (hnD : nD ≤ 40) (hi : i < nP) (hpar : ∀ i, i < nP → V 1002 i = -1000000 ∨ ∃ j, j < i ∧ V 1002 i = nI j) : CtI X l yX8_lagOf wsX8_lagOf ({ frames := 0, cells := 0, slots := 0, locals := 0 }) D q dm kd ln ad V J R [.ref (ad 1000), .int (nI i)] (m_lag V (i + 1) i 0) (V) (J) (R) := by
  refine CtI_of (cc := cX8_lagOf) (maxL := 4) (ret := (some .int)) (by decide +kernel) rfl (Nat.le_of_ble_eq_true rfl) ?_
  intro p e s m below meth c A hx hb hr hml hts hown hlk hmn hK hW hA hXs ls hl
  have hS : va_S A s.heap s.heap [] := va_S.rf
  have hl : lv_has ls 4 [(0, .ref (ad 1000)), (1, .int (nI i))] := hl
  have hin_TX8 : ∀ w ∈ u_ws RX8 TX8 48, w ∈ wsX8_lagOf := by decide +kernel
  obtain ⟨LL, hLe⟩ : ∃ L, L = m_lag V (i + 1) i 0 := ⟨_, rfl⟩
  have J4 : ∀ f : Nat, ∀ (i2 : Nat) (a : Int32) (hi2 : i2 < f) (hn2 : i2 < nP) (hL : m_lag V f i2 a = LL) (H : Heap) (locs : List Loc) (ls : Array Slot), wok A D q dm kd ln ad V J R H → va_S A s.heap H locs → lv_has ls 4 [(0, .ref (ad 1000)), (2, .int a), (3, .int (nI i2))] → W p l e ({ frames := 0, cells := 0, slots := 0, locals := 0 }) s m ([.ref (ad 1000), .int (nI i)] : List Value).toArray below meth c H locs 0 0 (MQ below (QI (m_lag V (i + 1) i 0) D q dm kd ln ad (V) (J) (R) A) ([.ref (ad 1000), .int (nI i)] : List Value).toArray s 0 0 A) (F0 m 4 ls []) := by
    intro f
    induction f with
    | zero =>
      intro i2 a hi2 hn2 hL H locs ls hW hS hl
      exact absurd hi2 (by omega)
    | succ f ih =>
      intro i2 a hi2 hn2 hL H locs ls hW hS hl
      refine lv_iload_n hx hb dX8_lagOf_4 rfl (lv_at hl 2 rfl) ?_
      refine lv_ldc (v := -1000000) hx hb hown (hts (.constant RX8 106 (-1000000)) (by decide +kernel)) dX8_lagOf_5 ?_
      refine lv_icmp_eq (tgt := 29) hx hb dX8_lagOf_7 (by decide) (fun c_7 => ?_) (fun c_7 => ?_)
      · exact absurd c_7 (m_npar2 (by omega))
      · refine lv_iload_n hx hb dX8_lagOf_10 rfl (lv_at hl 1 rfl) ?_
        refine lv_aload_n hx hb dX8_lagOf_11 rfl (lv_at hl 0 rfl) ?_
        refine w_getr (ci := 9) (T := TX8) hx hb hts hin_TX8 hown hK hW hM.1.1 hM.1.2 (by decide) rfl 4 (by decide) (hts (.fieldLink RX8 16 "TownClocksModel" "lag" "[I") (by decide +kernel)) (fun _ h9 => h9) rfl (mo_4 hM).2.2.2 dX8_lagOf_12 ?_
        refine lv_iload_n hx hb dX8_lagOf_15 rfl (lv_at hl 2 rfl) ?_
        refine w_ialdN (t := i2) hx hb hK hW (mo_4 hM).1 (mo_4 hM).2.1 ⟨by rw [(mo_4 hM).2.2.1]; omega, by omega⟩ dX8_lagOf_16 ?_
        refine lv_iadd hx hb dX8_lagOf_17 ?_
        refine lv_istore_n (lv' := [(2, .int (a + (V 1004 i2))), (0, .ref (ad 1000)), (3, .int (nI i2))]) hx hb dX8_lagOf_18 rfl hl (by decide) rfl (fun ls hl => ?_)
        refine lv_aload_n hx hb dX8_lagOf_19 rfl (lv_at hl 1 rfl) ?_
        refine w_getr (ci := 9) (T := TX8) hx hb hts hin_TX8 hown hK hW hM.1.1 hM.1.2 (by decide) rfl 2 (by decide) (hts (.fieldLink RX8 7 "TownClocksModel" "parent" "[I") (by decide +kernel)) (fun _ h9 => h9) rfl (mo_2 hM).2.2.2 dX8_lagOf_20 ?_
        refine lv_iload_n hx hb dX8_lagOf_23 rfl (lv_at hl 2 rfl) ?_
        refine w_ialdN (t := i2) hx hb hK hW (mo_2 hM).1 (mo_2 hM).2.1 ⟨by rw [(mo_2 hM).2.2.1]; omega, by omega⟩ dX8_lagOf_24 ?_
        rcases hpar i2 hn2 with hpn | ⟨j, hj, hpj⟩
        · refine w_i hpn ?_
          have hL2 : a + V 1004 i2 = LL := by rw [m_lag, if_pos hpn] at hL; exact hL
          refine lv_istore_n (lv' := [(3, .int (-1000000)), (2, .int (a + (V 1004 i2))), (0, .ref (ad 1000))]) hx hb dX8_lagOf_25 rfl hl (by decide) rfl (fun ls hl => ?_)
          refine lv_goto (tgt := 4) hx hb dX8_lagOf_26 (by decide) ?_
          refine lv_iload_n hx hb dX8_lagOf_4 rfl (lv_at hl 0 rfl) ?_
          refine lv_ldc (v := -1000000) hx hb hown (hts (.constant RX8 106 (-1000000)) (by decide +kernel)) dX8_lagOf_5 ?_
          refine lv_icmp_eq (tgt := 29) hx hb dX8_lagOf_7 (by decide) (fun _ => ?_) (fun z9 => absurd z9 (by decide))
          refine lv_iload_n hx hb dX8_lagOf_29 rfl (lv_at hl 1 rfl) ?_
          exact w_iret hx hb hr hlk hW hS (by rw [hL2, hLe]) rfl rfl rfl dX8_lagOf_30
        · refine w_i hpj ?_
          have hL2 : m_lag V f j (a + V 1004 i2) = LL := by rw [m_lag, if_neg (m_npar' hpj hj (by omega)), hpj, nI_clamp (show j < 2 ^ 31 by omega)] at hL; exact hL
          refine lv_istore_n (lv' := [(3, .int (nI j)), (2, .int (a + (V 1004 i2))), (0, .ref (ad 1000))]) hx hb dX8_lagOf_25 rfl hl (by decide) rfl (fun ls hl => ?_)
          refine lv_goto (tgt := 4) hx hb dX8_lagOf_26 (by decide) ?_
          exact ih j (a + V 1004 i2) (by omega) (by omega) hL2 _ _ _ hW hS (lv_sub hl [2, 1, 0] rfl)
  refine lv_iconst (v := 0) hx hb dX8_lagOf_0 (by decide) ?_
  refine lv_istore_n (lv' := [(2, .int 0), (0, .ref (ad 1000)), (1, .int (nI i))]) hx hb dX8_lagOf_1 rfl hl (by decide) rfl (fun ls hl => ?_)
  refine lv_iload_n hx hb dX8_lagOf_2 rfl (lv_at hl 2 rfl) ?_
  refine lv_istore_n (lv' := [(3, .int (nI i)), (2, .int 0), (0, .ref (ad 1000)), (1, .int (nI i))]) hx hb dX8_lagOf_3 rfl hl (by decide) rfl (fun ls hl => ?_)
  exact J4 (i + 1) i 0 (by omega) hi hLe.symm _ _ _ hW hS (lv_sub hl [2, 1, 0] rfl)
