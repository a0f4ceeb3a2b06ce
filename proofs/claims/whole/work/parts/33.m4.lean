def m_bg (V : Mv) (a : Int32) : Mv := if 16 ≤ V 1000 47 then V else u2 (u2 V 1046 (V 1000 47).toNatClampNeg a) 1000 47 (V 1000 47 + 1)
theorem m_bg_ne {V : Mv} {a : Int32} {k : Nat} (h : k ≠ 1000) (h2 : k ≠ 1046) : m_bg V a k = V k := by
  unfold m_bg
  split
  · rfl
  · rw [u2_ne h, u2_ne h2]
theorem m_bg_h0 {V : Mv} {a : Int32} (h : 0 ≤ (V 1000 47).toInt) : 0 ≤ (m_bg V a 1000 47).toInt := by
  unfold m_bg
  split
  · exact h
  · rename_i c
    rw [u2_ss, i32_add1 h (by have h2 := Int32.lt_iff_toInt_lt.mp (Int32.not_le.mp c); have h3 : (16 : Int32).toInt = 16 := by decide
                              omega)]
    omega
def m_w (V : Mv) (t : Nat) : Int32 := if m_kind V t = 3 then -V 1011 t else if m_kind V t = 2 then 2 * (V 1011 t + 10) else if m_kind V t = 1 then V 1011 t + 10 else V 1011 t
def m_wV (V : Mv) (t : Nat) : Mv := if m_kind V t = 3 then m_bg (m_bg V 13) 10 else if m_kind V t = 2 then m_bg (m_bg (m_bg V 12) 11) 10 else if m_kind V t = 1 then m_bg (m_bg V 11) 10 else m_bg V 10
def m_mk (V : Mv) (t : Nat) : Int32 := if m_kind V t = 3 then V 1009 t + 1000 else if m_kind V t = 2 then V 1009 t + m_w (m_bg (m_bg V 21) 20) t else if m_kind V t = 1 then V 1009 t + m_w (m_bg (m_bg V 21) 20) t else V 1009 t + 0
def m_mkV (V : Mv) (t : Nat) : Mv := if m_kind V t = 3 then m_bg (m_bg V 22) 20 else if m_kind V t = 2 then m_wV (m_bg (m_bg V 21) 20) t else if m_kind V t = 1 then m_wV (m_bg (m_bg V 21) 20) t else m_bg V 20
def m_ask (V : Mv) (nD : Nat) (x v : Int32) : Int32 := if inx nD x then (if 0 ≤ v ∧ v ≤ 1 then (if v = 0 then m_w (u2 (u2 V 1000 0 0) 1000 47 0) x.toNatClampNeg else m_mk (u2 (u2 V 1000 0 0) 1000 47 0) x.toNatClampNeg) else -1000001) else -1000001
def m_askV (V : Mv) (nD : Nat) (x v : Int32) : Mv := if inx nD x then (if 0 ≤ v ∧ v ≤ 1 then (if v = 0 then m_wV (u2 (u2 V 1000 0 0) 1000 47 0) x.toNatClampNeg else m_mkV (u2 (u2 V 1000 0 0) 1000 47 0) x.toNatClampNeg) else u2 V 1000 0 0) else u2 V 1000 0 0
theorem m_10 : ((1 : Int32) = 0) = False := by decide
def m_isv (V : Mv) (x : Int32) (i : Nat) : Int32 := if x = 2 then (if m_kind V i = 1 then 1 else if m_kind V i = 2 then 1 else 0) else if x = 3 then (if m_kind V i = 3 then 1 else 0) else if x = 4 then V 1015 i else (if V 1017 i ≤ 0 then 0 else 1)
def m_c1 (V : Mv) (x : Int32) (i : Nat) (a : Int32) : Int32 := a + (if x = 6 then m_size (V 1011 i) else if m_isv V x i = 0 then 0 else 1)
def m_count (V : Mv) (nD : Nat) (x : Int32) : Int32 := if 0 ≤ x ∧ x ≤ 7 then (if x = 0 then V 1000 1 else if x = 1 then V 1000 7 else if x = 7 then V 1000 32 else lpI (fun i a => m_c1 V x i a) nD 0 0) else -1000001
def m_app (w : Int64) : Nat → Nat → Mv → Mv
  | 0, _, V => V
  | n + 1, t, V => m_app w n (t + 1) (u2 (u2 V 1031 t ((w >>> ((8 * nI n).toInt64 &&& 63)) &&& 255).toInt32) 1000 32 (nI t + 1))
def m_feed (V : Mv) (n : Int32) (w : Int64) (L : Nat) : Int32 := if 1 ≤ n ∧ n ≤ 8 then (if V 1000 32 + n ≤ 300 then m_app w n.toNatClampNeg L (u2 V 1000 0 0) 1000 32 else -1000003) else -1000001
def m_feedV (V : Mv) (n : Int32) (w : Int64) (L : Nat) : Mv := if 1 ≤ n ∧ n ≤ 8 then (if V 1000 32 + n ≤ 300 then m_app w n.toNatClampNeg L (u2 V 1000 0 0) else u2 V 1000 0 0) else u2 V 1000 0 0
def m_pcore (V : Mv) (nP : Nat) (l t : Int32) : Int32 := if 0 ≤ l ∧ l ≤ 50 then (if 0 ≤ t ∧ t ≤ 20 then (if V 1000 1 = 30 then -1000003 else nI nP) else -1000001) else -1000001
def m_pcoreV (V : Mv) (nP : Nat) (x l t : Int32) : Mv := if 0 ≤ l ∧ l ≤ 50 then (if 0 ≤ t ∧ t ≤ 20 then (if V 1000 1 = 30 then u2 V 1000 0 0 else u2 (u2 (u2 (u2 (u2 (u2 V 1000 0 0) 1002 nP x) 1003 nP l) 1004 nP t) 1005 nP 0) 1000 1 (V 1000 1 + 1)) else u2 V 1000 0 0) else u2 V 1000 0 0
def m_pipe (V : Mv) (nP : Nat) (x l t : Int32) : Int32 := if x = -1000000 then m_pcore V nP l t else if inx nP x then m_pcore V nP l t else -1000001
def m_pipeV (V : Mv) (nP : Nat) (x l t : Int32) : Mv := if x = -1000000 then m_pcoreV V nP x l t else if inx nP x then m_pcoreV V nP x l t else u2 V 1000 0 0
def m_dial (V : Mv) (nP nD : Nat) (x l t : Int32) : Int32 := if inx nP x then (if 1 ≤ l ∧ l ≤ 100 then (if 0 ≤ t ∧ t ≤ 2 then (if V 1000 7 = 40 then -1000003 else nI nD) else -1000001) else -1000001) else -1000001
def m_dialV (V : Mv) (nP nD : Nat) (x l t : Int32) : Mv := if inx nP x then (if 1 ≤ l ∧ l ≤ 100 then (if 0 ≤ t ∧ t ≤ 2 then (if V 1000 7 = 40 then u2 V 1000 0 0 else u2 (u2 (u2 (u2 (u2 V 1000 0 0) 1008 nD x) 1009 nD l) 1010 nD t) 1000 7 (V 1000 7 + 1)) else u2 V 1000 0 0) else u2 V 1000 0 0) else u2 V 1000 0 0
set_option maxHeartbeats 4000000 in
set_option maxRecDepth 100000 in
theorem c_X8_began {X : (Nat → Prop) → State → Prop} (hxo : xok X) (l : Launch) (D : va_G) (q : Cq) {dm : List Nat} {kd ln ad : Nat → Nat} (V : Mv) (J : Mj) (R : Mr) (a : Int32) (hM : okM dm kd ln R) (h0 : 0 ≤ (V 1000 47).toInt) : CtV X l yX8_began wsX8_began ({ frames := 0, cells := 0, slots := 0, locals := 0 }) D q dm kd ln ad V J R [.ref (ad 1000), .int a] (m_bg V a) (J) (R) := by
  refine CtV_of (cc := cX8_began) (maxL := 2) (ret := none) (by decide +kernel) rfl (Nat.le_of_ble_eq_true rfl) ?_
  intro p e s m below meth c A hx hb hr hml hts hown hlk hmn hK hW hA hXs ls hl
  have hS : va_S A s.heap s.heap [] := va_S.rf
  have hl : lv_has ls 2 [(0, .ref (ad 1000)), (1, .int a)] := hl
  have hin_TX8 : ∀ w ∈ u_ws RX8 TX8 48, w ∈ wsX8_began := by decide +kernel
  refine lv_aload_n hx hb dX8_began_0 rfl (lv_at hl 0 rfl) ?_
  refine w_get (ci := 9) (T := TX8) hx hb hts hin_TX8 hown hK hW hM.1.1 hM.1.2 (by decide) rfl 47 (by decide) (hts (.fieldLink RX8 266 "TownClocksModel" "traced" "I") (by decide +kernel)) (fun _ h9 => h9) rfl dX8_began_1 ?_
  refine lv_bipush (v := 16) hx hb dX8_began_4 (by decide) ?_
  refine lv_icmp_ge (tgt := 29) hx hb dX8_began_6 (by decide) (fun c_6 => ?_) (fun c_6 => ?_)
  · exact w_vret hx hb hr hlk hW hS (by first | rfl | (simp only [m_bg, if_pos c_6, c_6, ↓reduceIte]; done) | simp [bz, m_bg, if_pos c_6, c_6]) rfl rfl dX8_began_29
  · refine lv_aload_n hx hb dX8_began_9 rfl (lv_at hl 0 rfl) ?_
    refine w_getr (ci := 9) (T := TX8) hx hb hts hin_TX8 hown hK hW hM.1.1 hM.1.2 (by decide) rfl 46 (by decide) (hts (.fieldLink RX8 92 "TownClocksModel" "trace" "[I") (by decide +kernel)) (fun _ h9 => h9) rfl (mo_46 hM).2.2.2 dX8_began_10 ?_
    refine lv_aload_n hx hb dX8_began_13 rfl (lv_at hl 0 rfl) ?_
    refine w_get (ci := 9) (T := TX8) hx hb hts hin_TX8 hown hK hW hM.1.1 hM.1.2 (by decide) rfl 47 (by decide) (hts (.fieldLink RX8 266 "TownClocksModel" "traced" "I") (by decide +kernel)) (fun _ h9 => h9) rfl dX8_began_14 ?_
    refine lv_iload_n hx hb dX8_began_17 rfl (lv_at hl 1 rfl) ?_
    refine w_iast hx hb hK hW hS (mo_46 hM).1 (mo_46 hM).2.1 (by rw [(mo_46 hM).2.2.1]; exact inx_v.mpr ⟨h0, by have h := Int32.lt_iff_toInt_lt.mp (Int32.not_le.mp c_6); exact h⟩) dX8_began_18 (fun H locs hW hS => ?_)
    refine lv_aload_n hx hb dX8_began_19 rfl (lv_at hl 0 rfl) ?_
    refine lv_dup hx hb dX8_began_20 rfl ?_
    refine w_get (ci := 9) (T := TX8) hx hb hts hin_TX8 hown hK hW hM.1.1 hM.1.2 (by decide) rfl 47 (by decide) (hts (.fieldLink RX8 266 "TownClocksModel" "traced" "I") (by decide +kernel)) (fun _ h9 => h9) rfl dX8_began_21 ?_
    refine w_i (by rw [u2_ne (by decide)]) ?_
    refine lv_iconst (v := 1) hx hb dX8_began_24 (by decide) ?_
    refine lv_iadd hx hb dX8_began_25 ?_
    refine w_puti (ci := 9) (T := TX8) (ty := .int) hx hb hts hin_TX8 tyX8 tyX8_ok nmX8 hown hK hW hS hM.1.1 hM.1.2 (by decide) rfl 47 (by decide) (hts (.fieldLink RX8 266 "TownClocksModel" "traced" "I") (by decide +kernel)) (fun _ h9 => h9) rfl (tyX8_ok 47 (by decide)) rfl rfl (Nat.le_of_ble_eq_true rfl) rfl dX8_began_26 (fun H locs hW hS => ?_)
    exact w_vret hx hb hr hlk hW hS (by first | rfl | (simp only [m_bg, if_neg c_6, c_6, ↓reduceIte]; done) | simp [bz, m_bg, if_neg c_6, c_6]) rfl rfl dX8_began_29
set_option maxHeartbeats 4000000 in
set_option maxRecDepth 100000 in
theorem c_X8_weight {X : (Nat → Prop) → State → Prop} (hxo : xok X) (l : Launch) (D : va_G) (q : Cq) {dm : List Nat} {kd ln ad : Nat → Nat} (V : Mv) (J : Mj) (R : Mr) (x : Int32) (hM : okM dm kd ln R) (hx4 : inx 40 x) (h0 : 0 ≤ (V 1000 47).toInt) : CtI X l yX8_weight wsX8_weight ({ frames := 1, cells := 0, slots := 0, locals := 21 }) D q dm kd ln ad V J R [.ref (ad 1000), .int x] (m_w V x.toNatClampNeg) (m_wV V x.toNatClampNeg) (J) (R) := by
  refine CtI_of (cc := cX8_weight) (maxL := 5) (ret := (some .int)) (by decide +kernel) rfl (Nat.le_of_ble_eq_true rfl) ?_
  intro p e s m below meth c A hx hb hr hml hts hown hlk hmn hK hW hA hXs ls hl
  have hS : va_S A s.heap s.heap [] := va_S.rf
  have hl : lv_has ls 5 [(0, .ref (ad 1000)), (1, .int x)] := hl
  have hin_TX8 : ∀ w ∈ u_ws RX8 TX8 48, w ∈ wsX8_weight := by decide +kernel
  refine lv_aload_n hx hb dX8_weight_0 rfl (lv_at hl 0 rfl) ?_
  refine lv_iload_n hx hb dX8_weight_1 rfl (lv_at hl 1 rfl) ?_
  refine w_ci (w_runV ⟨hx, hb, hml, hown, hts⟩ (c_X8_kindOf hxo l D q V J R x hM hx4) hxo (cwV 1 hts gX8_weight_X8_kindOf rfl rfl rfl (by decide +kernel) ⟨Nat.le_of_ble_eq_true rfl, Nat.le_of_ble_eq_true rfl⟩) hK hW hS hA hXs (w_rcv hK hW hM.1.1 hM.1.2 (by decide) rfl) rfl hl.1 rfl (Nat.le_of_ble_eq_true rfl) dX8_weight_2 ⟨Nat.zero_le _, Nat.zero_le _⟩) hW hS hA (fun H locs hW hS => ?_)
  by_cases k3 : m_kind V x.toNatClampNeg = 3
  · refine w_i k3 ?_
    refine lv_istore_n (lv' := [(2, .int 3), (0, .ref (ad 1000)), (1, .int x)]) hx hb dX8_weight_5 rfl hl (by decide) rfl (fun ls hl => ?_)
    refine lv_iload_n hx hb dX8_weight_6 rfl (lv_at hl 0 rfl) ?_
    refine lv_iconst (v := 3) hx hb dX8_weight_7 (by decide) ?_
    refine lv_icmp_ne (tgt := 17) hx hb dX8_weight_8 (by decide) (fun z9 => absurd z9 (by decide)) (fun _ => ?_)
    refine lv_aload_n hx hb dX8_weight_11 rfl (lv_at hl 1 rfl) ?_
    refine lv_bipush (v := 13) hx hb dX8_weight_12 (by decide) ?_
    refine w_cv (w_runV ⟨hx, hb, hml, hown, hts⟩ (c_X8_began hxo l D q V J R 13 hM (h0)) hxo (cwV 1 hts gX8_weight_X8_began rfl rfl rfl (by decide +kernel) ⟨Nat.le_of_ble_eq_true rfl, Nat.le_of_ble_eq_true rfl⟩) hK hW hS hA hXs (w_rcv hK hW hM.1.1 hM.1.2 (by decide) rfl) rfl hl.1 rfl (Nat.le_of_ble_eq_true rfl) dX8_weight_14 ⟨Nat.zero_le _, Nat.zero_le _⟩) hW hS hA (fun H locs hW hS => ?_)
    refine lv_iload_n hx hb dX8_weight_17 rfl (lv_at hl 0 rfl) ?_
    refine lv_iconst (v := 2) hx hb dX8_weight_18 (by decide) ?_
    refine lv_icmp_ne (tgt := 28) hx hb dX8_weight_19 (by decide) (fun _ => ?_) (fun z9 => absurd z9 (by decide))
    refine lv_iload_n hx hb dX8_weight_28 rfl (lv_at hl 0 rfl) ?_
    refine lv_iconst (v := 1) hx hb dX8_weight_29 (by decide) ?_
    refine lv_icmp_eq (tgt := 38) hx hb dX8_weight_30 (by decide) (fun z9 => absurd z9 (by decide)) (fun _ => ?_)
    refine lv_iload_n hx hb dX8_weight_33 rfl (lv_at hl 0 rfl) ?_
    refine lv_iconst (v := 2) hx hb dX8_weight_34 (by decide) ?_
    refine lv_icmp_ne (tgt := 42) hx hb dX8_weight_35 (by decide) (fun _ => ?_) (fun z9 => absurd z9 (by decide))
    refine lv_iconst (v := 0) hx hb dX8_weight_42 (by decide) ?_
    refine lv_istore_n (lv' := [(3, .int 0), (2, .int 3), (0, .ref (ad 1000)), (1, .int x)]) hx hb dX8_weight_43 rfl hl (by decide) rfl (fun ls hl => ?_)
    refine lv_iload_n hx hb dX8_weight_44 rfl (lv_at hl 0 rfl) ?_
    refine lv_if_eq (tgt := 54) hx hb dX8_weight_45 (by decide) (fun _ => ?_) (fun z9 => absurd z9 (by decide))
    refine lv_aload_n hx hb dX8_weight_54 rfl (lv_at hl 2 rfl) ?_
    refine lv_bipush (v := 10) hx hb dX8_weight_55 (by decide) ?_
    refine w_cv (w_runV ⟨hx, hb, hml, hown, hts⟩ (c_X8_began hxo l D q (m_bg V 13) J R 10 hM (m_bg_h0 (h0))) hxo (cwV 1 hts gX8_weight_X8_began rfl rfl rfl (by decide +kernel) ⟨Nat.le_of_ble_eq_true rfl, Nat.le_of_ble_eq_true rfl⟩) hK hW hS hA hXs (w_rcv hK hW hM.1.1 hM.1.2 (by decide) rfl) rfl hl.1 rfl (Nat.le_of_ble_eq_true rfl) dX8_weight_57 ⟨Nat.zero_le _, Nat.zero_le _⟩) hW hS hA (fun H locs hW hS => ?_)
    refine lv_aload_n hx hb dX8_weight_60 rfl (lv_at hl 2 rfl) ?_
    refine w_getr (ci := 9) (T := TX8) hx hb hts hin_TX8 hown hK hW hM.1.1 hM.1.2 (by decide) rfl 11 (by decide) (hts (.fieldLink RX8 34 "TownClocksModel" "late" "[I") (by decide +kernel)) (fun _ h9 => h9) rfl (mo_11 hM).2.2.2 dX8_weight_61 ?_
    refine lv_iload_n hx hb dX8_weight_64 rfl (lv_at hl 3 rfl) ?_
    refine w_iald hx hb hK hW (mo_11 hM).1 (mo_11 hM).2.1 (by rw [(mo_11 hM).2.2.1]; exact inx_v.mpr hx4) dX8_weight_65 ?_
    refine lv_istore (lv' := [(4, .int ((m_bg (m_bg V 13) 10) 1011 x.toNatClampNeg)), (3, .int 0), (2, .int 3), (0, .ref (ad 1000)), (1, .int x)]) hx hb dX8_weight_66 hl (by decide) rfl (fun ls hl => ?_)
    refine lv_iload_n hx hb dX8_weight_68 rfl (lv_at hl 2 rfl) ?_
    refine lv_iconst (v := 3) hx hb dX8_weight_69 (by decide) ?_
    refine lv_icmp_ne (tgt := 79) hx hb dX8_weight_70 (by decide) (fun z9 => absurd z9 (by decide)) (fun _ => ?_)
    refine lv_iload hx hb dX8_weight_73 (lv_at hl 0 rfl) ?_
    refine lv_ineg hx hb dX8_weight_75 ?_
    refine lv_goto (tgt := 108) hx hb dX8_weight_76 (by decide) ?_
    exact w_iret hx hb hr hlk hW hS (by simp only [m_w, m_bg_ne (show 1011 ≠ 1000 by decide) (show 1011 ≠ 1046 by decide), if_pos k3]) (by simp only [m_wV, if_pos k3]) rfl rfl dX8_weight_108
  by_cases k2 : m_kind V x.toNatClampNeg = 2
  · refine w_i k2 ?_
    refine lv_istore_n (lv' := [(2, .int 2), (0, .ref (ad 1000)), (1, .int x)]) hx hb dX8_weight_5 rfl hl (by decide) rfl (fun ls hl => ?_)
    refine lv_iload_n hx hb dX8_weight_6 rfl (lv_at hl 0 rfl) ?_
    refine lv_iconst (v := 3) hx hb dX8_weight_7 (by decide) ?_
    refine lv_icmp_ne (tgt := 17) hx hb dX8_weight_8 (by decide) (fun _ => ?_) (fun z9 => absurd z9 (by decide))
    refine lv_iload_n hx hb dX8_weight_17 rfl (lv_at hl 0 rfl) ?_
    refine lv_iconst (v := 2) hx hb dX8_weight_18 (by decide) ?_
    refine lv_icmp_ne (tgt := 28) hx hb dX8_weight_19 (by decide) (fun z9 => absurd z9 (by decide)) (fun _ => ?_)
    refine lv_aload_n hx hb dX8_weight_22 rfl (lv_at hl 1 rfl) ?_
    refine lv_bipush (v := 12) hx hb dX8_weight_23 (by decide) ?_
    refine w_cv (w_runV ⟨hx, hb, hml, hown, hts⟩ (c_X8_began hxo l D q V J R 12 hM (h0)) hxo (cwV 1 hts gX8_weight_X8_began rfl rfl rfl (by decide +kernel) ⟨Nat.le_of_ble_eq_true rfl, Nat.le_of_ble_eq_true rfl⟩) hK hW hS hA hXs (w_rcv hK hW hM.1.1 hM.1.2 (by decide) rfl) rfl hl.1 rfl (Nat.le_of_ble_eq_true rfl) dX8_weight_25 ⟨Nat.zero_le _, Nat.zero_le _⟩) hW hS hA (fun H locs hW hS => ?_)
    refine lv_iload_n hx hb dX8_weight_28 rfl (lv_at hl 0 rfl) ?_
    refine lv_iconst (v := 1) hx hb dX8_weight_29 (by decide) ?_
    refine lv_icmp_eq (tgt := 38) hx hb dX8_weight_30 (by decide) (fun z9 => absurd z9 (by decide)) (fun _ => ?_)
    refine lv_iload_n hx hb dX8_weight_33 rfl (lv_at hl 0 rfl) ?_
    refine lv_iconst (v := 2) hx hb dX8_weight_34 (by decide) ?_
    refine lv_icmp_ne (tgt := 42) hx hb dX8_weight_35 (by decide) (fun z9 => absurd z9 (by decide)) (fun _ => ?_)
    refine lv_iconst (v := 1) hx hb dX8_weight_38 (by decide) ?_
    refine lv_goto (tgt := 43) hx hb dX8_weight_39 (by decide) ?_
    refine lv_istore_n (lv' := [(3, .int 1), (2, .int 2), (0, .ref (ad 1000)), (1, .int x)]) hx hb dX8_weight_43 rfl hl (by decide) rfl (fun ls hl => ?_)
    refine lv_iload_n hx hb dX8_weight_44 rfl (lv_at hl 0 rfl) ?_
    refine lv_if_eq (tgt := 54) hx hb dX8_weight_45 (by decide) (fun z9 => absurd z9 (by decide)) (fun _ => ?_)
    refine lv_aload_n hx hb dX8_weight_48 rfl (lv_at hl 2 rfl) ?_
    refine lv_bipush (v := 11) hx hb dX8_weight_49 (by decide) ?_
    refine w_cv (w_runV ⟨hx, hb, hml, hown, hts⟩ (c_X8_began hxo l D q (m_bg V 12) J R 11 hM (m_bg_h0 (h0))) hxo (cwV 1 hts gX8_weight_X8_began rfl rfl rfl (by decide +kernel) ⟨Nat.le_of_ble_eq_true rfl, Nat.le_of_ble_eq_true rfl⟩) hK hW hS hA hXs (w_rcv hK hW hM.1.1 hM.1.2 (by decide) rfl) rfl hl.1 rfl (Nat.le_of_ble_eq_true rfl) dX8_weight_51 ⟨Nat.zero_le _, Nat.zero_le _⟩) hW hS hA (fun H locs hW hS => ?_)
    refine lv_aload_n hx hb dX8_weight_54 rfl (lv_at hl 2 rfl) ?_
    refine lv_bipush (v := 10) hx hb dX8_weight_55 (by decide) ?_
    refine w_cv (w_runV ⟨hx, hb, hml, hown, hts⟩ (c_X8_began hxo l D q (m_bg (m_bg V 12) 11) J R 10 hM (m_bg_h0 (m_bg_h0 (h0)))) hxo (cwV 1 hts gX8_weight_X8_began rfl rfl rfl (by decide +kernel) ⟨Nat.le_of_ble_eq_true rfl, Nat.le_of_ble_eq_true rfl⟩) hK hW hS hA hXs (w_rcv hK hW hM.1.1 hM.1.2 (by decide) rfl) rfl hl.1 rfl (Nat.le_of_ble_eq_true rfl) dX8_weight_57 ⟨Nat.zero_le _, Nat.zero_le _⟩) hW hS hA (fun H locs hW hS => ?_)
    refine lv_aload_n hx hb dX8_weight_60 rfl (lv_at hl 2 rfl) ?_
    refine w_getr (ci := 9) (T := TX8) hx hb hts hin_TX8 hown hK hW hM.1.1 hM.1.2 (by decide) rfl 11 (by decide) (hts (.fieldLink RX8 34 "TownClocksModel" "late" "[I") (by decide +kernel)) (fun _ h9 => h9) rfl (mo_11 hM).2.2.2 dX8_weight_61 ?_
    refine lv_iload_n hx hb dX8_weight_64 rfl (lv_at hl 3 rfl) ?_
    refine w_iald hx hb hK hW (mo_11 hM).1 (mo_11 hM).2.1 (by rw [(mo_11 hM).2.2.1]; exact inx_v.mpr hx4) dX8_weight_65 ?_
    refine lv_istore (lv' := [(4, .int ((m_bg (m_bg (m_bg V 12) 11) 10) 1011 x.toNatClampNeg)), (3, .int 1), (2, .int 2), (0, .ref (ad 1000)), (1, .int x)]) hx hb dX8_weight_66 hl (by decide) rfl (fun ls hl => ?_)
    refine lv_iload_n hx hb dX8_weight_68 rfl (lv_at hl 2 rfl) ?_
    refine lv_iconst (v := 3) hx hb dX8_weight_69 (by decide) ?_
    refine lv_icmp_ne (tgt := 79) hx hb dX8_weight_70 (by decide) (fun _ => ?_) (fun z9 => absurd z9 (by decide))
    refine lv_iload_n hx hb dX8_weight_79 rfl (lv_at hl 1 rfl) ?_
    refine lv_if_ne (tgt := 88) hx hb dX8_weight_80 (by decide) (fun _ => ?_) (fun z9 => absurd z9 (by decide))
    refine lv_iload_n hx hb dX8_weight_88 rfl (lv_at hl 2 rfl) ?_
    refine lv_iconst (v := 2) hx hb dX8_weight_89 (by decide) ?_
    refine lv_icmp_ne (tgt := 103) hx hb dX8_weight_90 (by decide) (fun z9 => absurd z9 (by decide)) (fun _ => ?_)
    refine lv_iconst (v := 2) hx hb dX8_weight_93 (by decide) ?_
    refine lv_iload hx hb dX8_weight_94 (lv_at hl 0 rfl) ?_
    refine lv_bipush (v := 10) hx hb dX8_weight_96 (by decide) ?_
    refine lv_iadd hx hb dX8_weight_98 ?_
    refine lv_imul hx hb dX8_weight_99 ?_
    refine lv_goto (tgt := 108) hx hb dX8_weight_100 (by decide) ?_
    exact w_iret hx hb hr hlk hW hS (by simp only [m_w, m_bg_ne (show 1011 ≠ 1000 by decide) (show 1011 ≠ 1046 by decide), if_neg k3, if_pos k2]) (by simp only [m_wV, if_neg k3, if_pos k2]) rfl rfl dX8_weight_108
  by_cases k1 : m_kind V x.toNatClampNeg = 1
  · refine w_i k1 ?_
    refine lv_istore_n (lv' := [(2, .int 1), (0, .ref (ad 1000)), (1, .int x)]) hx hb dX8_weight_5 rfl hl (by decide) rfl (fun ls hl => ?_)
    refine lv_iload_n hx hb dX8_weight_6 rfl (lv_at hl 0 rfl) ?_
    refine lv_iconst (v := 3) hx hb dX8_weight_7 (by decide) ?_
    refine lv_icmp_ne (tgt := 17) hx hb dX8_weight_8 (by decide) (fun _ => ?_) (fun z9 => absurd z9 (by decide))
    refine lv_iload_n hx hb dX8_weight_17 rfl (lv_at hl 0 rfl) ?_
    refine lv_iconst (v := 2) hx hb dX8_weight_18 (by decide) ?_
    refine lv_icmp_ne (tgt := 28) hx hb dX8_weight_19 (by decide) (fun _ => ?_) (fun z9 => absurd z9 (by decide))
    refine lv_iload_n hx hb dX8_weight_28 rfl (lv_at hl 0 rfl) ?_
    refine lv_iconst (v := 1) hx hb dX8_weight_29 (by decide) ?_
    refine lv_icmp_eq (tgt := 38) hx hb dX8_weight_30 (by decide) (fun _ => ?_) (fun z9 => absurd z9 (by decide))
    refine lv_iconst (v := 1) hx hb dX8_weight_38 (by decide) ?_
    refine lv_goto (tgt := 43) hx hb dX8_weight_39 (by decide) ?_
    refine lv_istore_n (lv' := [(3, .int 1), (2, .int 1), (0, .ref (ad 1000)), (1, .int x)]) hx hb dX8_weight_43 rfl hl (by decide) rfl (fun ls hl => ?_)
    refine lv_iload_n hx hb dX8_weight_44 rfl (lv_at hl 0 rfl) ?_
    refine lv_if_eq (tgt := 54) hx hb dX8_weight_45 (by decide) (fun z9 => absurd z9 (by decide)) (fun _ => ?_)
    refine lv_aload_n hx hb dX8_weight_48 rfl (lv_at hl 2 rfl) ?_
    refine lv_bipush (v := 11) hx hb dX8_weight_49 (by decide) ?_
    refine w_cv (w_runV ⟨hx, hb, hml, hown, hts⟩ (c_X8_began hxo l D q V J R 11 hM (h0)) hxo (cwV 1 hts gX8_weight_X8_began rfl rfl rfl (by decide +kernel) ⟨Nat.le_of_ble_eq_true rfl, Nat.le_of_ble_eq_true rfl⟩) hK hW hS hA hXs (w_rcv hK hW hM.1.1 hM.1.2 (by decide) rfl) rfl hl.1 rfl (Nat.le_of_ble_eq_true rfl) dX8_weight_51 ⟨Nat.zero_le _, Nat.zero_le _⟩) hW hS hA (fun H locs hW hS => ?_)
    refine lv_aload_n hx hb dX8_weight_54 rfl (lv_at hl 2 rfl) ?_
    refine lv_bipush (v := 10) hx hb dX8_weight_55 (by decide) ?_
    refine w_cv (w_runV ⟨hx, hb, hml, hown, hts⟩ (c_X8_began hxo l D q (m_bg V 11) J R 10 hM (m_bg_h0 (h0))) hxo (cwV 1 hts gX8_weight_X8_began rfl rfl rfl (by decide +kernel) ⟨Nat.le_of_ble_eq_true rfl, Nat.le_of_ble_eq_true rfl⟩) hK hW hS hA hXs (w_rcv hK hW hM.1.1 hM.1.2 (by decide) rfl) rfl hl.1 rfl (Nat.le_of_ble_eq_true rfl) dX8_weight_57 ⟨Nat.zero_le _, Nat.zero_le _⟩) hW hS hA (fun H locs hW hS => ?_)
    refine lv_aload_n hx hb dX8_weight_60 rfl (lv_at hl 2 rfl) ?_
    refine w_getr (ci := 9) (T := TX8) hx hb hts hin_TX8 hown hK hW hM.1.1 hM.1.2 (by decide) rfl 11 (by decide) (hts (.fieldLink RX8 34 "TownClocksModel" "late" "[I") (by decide +kernel)) (fun _ h9 => h9) rfl (mo_11 hM).2.2.2 dX8_weight_61 ?_
    refine lv_iload_n hx hb dX8_weight_64 rfl (lv_at hl 3 rfl) ?_
    refine w_iald hx hb hK hW (mo_11 hM).1 (mo_11 hM).2.1 (by rw [(mo_11 hM).2.2.1]; exact inx_v.mpr hx4) dX8_weight_65 ?_
    refine lv_istore (lv' := [(4, .int ((m_bg (m_bg V 11) 10) 1011 x.toNatClampNeg)), (3, .int 1), (2, .int 1), (0, .ref (ad 1000)), (1, .int x)]) hx hb dX8_weight_66 hl (by decide) rfl (fun ls hl => ?_)
    refine lv_iload_n hx hb dX8_weight_68 rfl (lv_at hl 2 rfl) ?_
    refine lv_iconst (v := 3) hx hb dX8_weight_69 (by decide) ?_
    refine lv_icmp_ne (tgt := 79) hx hb dX8_weight_70 (by decide) (fun _ => ?_) (fun z9 => absurd z9 (by decide))
    refine lv_iload_n hx hb dX8_weight_79 rfl (lv_at hl 1 rfl) ?_
    refine lv_if_ne (tgt := 88) hx hb dX8_weight_80 (by decide) (fun _ => ?_) (fun z9 => absurd z9 (by decide))
    refine lv_iload_n hx hb dX8_weight_88 rfl (lv_at hl 2 rfl) ?_
    refine lv_iconst (v := 2) hx hb dX8_weight_89 (by decide) ?_
    refine lv_icmp_ne (tgt := 103) hx hb dX8_weight_90 (by decide) (fun _ => ?_) (fun z9 => absurd z9 (by decide))
    refine lv_iload hx hb dX8_weight_103 (lv_at hl 0 rfl) ?_
    refine lv_bipush (v := 10) hx hb dX8_weight_105 (by decide) ?_
    refine lv_iadd hx hb dX8_weight_107 ?_
    exact w_iret hx hb hr hlk hW hS (by simp only [m_w, m_bg_ne (show 1011 ≠ 1000 by decide) (show 1011 ≠ 1046 by decide), if_neg k3, if_neg k2, if_pos k1]) (by simp only [m_wV, if_neg k3, if_neg k2, if_pos k1]) rfl rfl dX8_weight_108
  · have h9 := k3
    refine lv_istore_n (lv' := [(2, .int (m_kind V x.toNatClampNeg)), (0, .ref (ad 1000)), (1, .int x)]) hx hb dX8_weight_5 rfl hl (by decide) rfl (fun ls hl => ?_)
    refine lv_iload_n hx hb dX8_weight_6 rfl (lv_at hl 0 rfl) ?_
    refine lv_iconst (v := 3) hx hb dX8_weight_7 (by decide) ?_
    refine lv_icmp_ne (tgt := 17) hx hb dX8_weight_8 (by decide) (fun c_8 => ?_) (fun c_8 => ?_)
    · refine lv_iload_n hx hb dX8_weight_17 rfl (lv_at hl 0 rfl) ?_
      refine lv_iconst (v := 2) hx hb dX8_weight_18 (by decide) ?_
      refine lv_icmp_ne (tgt := 28) hx hb dX8_weight_19 (by decide) (fun c_19 => ?_) (fun c_19 => ?_)
      · refine lv_iload_n hx hb dX8_weight_28 rfl (lv_at hl 0 rfl) ?_
        refine lv_iconst (v := 1) hx hb dX8_weight_29 (by decide) ?_
        refine lv_icmp_eq (tgt := 38) hx hb dX8_weight_30 (by decide) (fun c_30 => ?_) (fun c_30 => ?_)
        · exact absurd c_30 k1
        · refine lv_iload_n hx hb dX8_weight_33 rfl (lv_at hl 0 rfl) ?_
          refine lv_iconst (v := 2) hx hb dX8_weight_34 (by decide) ?_
          refine lv_icmp_ne (tgt := 42) hx hb dX8_weight_35 (by decide) (fun c_35 => ?_) (fun c_35 => ?_)
          · refine lv_iconst (v := 0) hx hb dX8_weight_42 (by decide) ?_
            refine lv_istore_n (lv' := [(3, .int 0), (2, .int (m_kind V x.toNatClampNeg)), (0, .ref (ad 1000)), (1, .int x)]) hx hb dX8_weight_43 rfl hl (by decide) rfl (fun ls hl => ?_)
            refine lv_iload_n hx hb dX8_weight_44 rfl (lv_at hl 0 rfl) ?_
            refine lv_if_eq (tgt := 54) hx hb dX8_weight_45 (by decide) (fun _ => ?_) (fun z9 => absurd z9 (by decide))
            refine lv_aload_n hx hb dX8_weight_54 rfl (lv_at hl 2 rfl) ?_
            refine lv_bipush (v := 10) hx hb dX8_weight_55 (by decide) ?_
            refine w_cv (w_runV ⟨hx, hb, hml, hown, hts⟩ (c_X8_began hxo l D q V J R 10 hM (h0)) hxo (cwV 1 hts gX8_weight_X8_began rfl rfl rfl (by decide +kernel) ⟨Nat.le_of_ble_eq_true rfl, Nat.le_of_ble_eq_true rfl⟩) hK hW hS hA hXs (w_rcv hK hW hM.1.1 hM.1.2 (by decide) rfl) rfl hl.1 rfl (Nat.le_of_ble_eq_true rfl) dX8_weight_57 ⟨Nat.zero_le _, Nat.zero_le _⟩) hW hS hA (fun H locs hW hS => ?_)
            refine lv_aload_n hx hb dX8_weight_60 rfl (lv_at hl 2 rfl) ?_
            refine w_getr (ci := 9) (T := TX8) hx hb hts hin_TX8 hown hK hW hM.1.1 hM.1.2 (by decide) rfl 11 (by decide) (hts (.fieldLink RX8 34 "TownClocksModel" "late" "[I") (by decide +kernel)) (fun _ h9 => h9) rfl (mo_11 hM).2.2.2 dX8_weight_61 ?_
            refine lv_iload_n hx hb dX8_weight_64 rfl (lv_at hl 3 rfl) ?_
            refine w_iald hx hb hK hW (mo_11 hM).1 (mo_11 hM).2.1 (by rw [(mo_11 hM).2.2.1]; exact inx_v.mpr hx4) dX8_weight_65 ?_
            refine lv_istore (lv' := [(4, .int ((m_bg V 10) 1011 x.toNatClampNeg)), (3, .int 0), (2, .int (m_kind V x.toNatClampNeg)), (0, .ref (ad 1000)), (1, .int x)]) hx hb dX8_weight_66 hl (by decide) rfl (fun ls hl => ?_)
            refine lv_iload_n hx hb dX8_weight_68 rfl (lv_at hl 2 rfl) ?_
            refine lv_iconst (v := 3) hx hb dX8_weight_69 (by decide) ?_
            refine lv_icmp_ne (tgt := 79) hx hb dX8_weight_70 (by decide) (fun c_70 => ?_) (fun c_70 => ?_)
            · refine lv_iload_n hx hb dX8_weight_79 rfl (lv_at hl 1 rfl) ?_
              refine lv_if_ne (tgt := 88) hx hb dX8_weight_80 (by decide) (fun z9 => absurd z9 (by decide)) (fun _ => ?_)
              refine lv_iload hx hb dX8_weight_83 (lv_at hl 0 rfl) ?_
              refine lv_goto (tgt := 108) hx hb dX8_weight_85 (by decide) ?_
              exact w_iret hx hb hr hlk hW hS (by simp only [m_w, m_bg_ne (show 1011 ≠ 1000 by decide) (show 1011 ≠ 1046 by decide), if_neg k3, if_neg k2, if_neg k1]) (by simp only [m_wV, if_neg k3, if_neg k2, if_neg k1]) rfl rfl dX8_weight_108
            · exact absurd c_70 k3
          · exact absurd c_35 k2
      · exact absurd c_19 k2
    · exact absurd c_8 k3
set_option maxHeartbeats 4000000 in
set_option maxRecDepth 100000 in
theorem c_X8_marked {X : (Nat → Prop) → State → Prop} (hxo : xok X) (l : Launch) (D : va_G) (q : Cq) {dm : List Nat} {kd ln ad : Nat → Nat} (V : Mv) (J : Mj) (R : Mr) (x : Int32) (hM : okM dm kd ln R) (hx4 : inx 40 x) (h0 : 0 ≤ (V 1000 47).toInt) : CtI X l yX8_marked wsX8_marked ({ frames := 2, cells := 0, slots := 0, locals := 45 }) D q dm kd ln ad V J R [.ref (ad 1000), .int x] (m_mk V x.toNatClampNeg) (m_mkV V x.toNatClampNeg) (J) (R) := by
  refine CtI_of (cc := cX8_marked) (maxL := 4) (ret := (some .int)) (by decide +kernel) rfl (Nat.le_of_ble_eq_true rfl) ?_
  intro p e s m below meth c A hx hb hr hml hts hown hlk hmn hK hW hA hXs ls hl
  have hS : va_S A s.heap s.heap [] := va_S.rf
  have hl : lv_has ls 4 [(0, .ref (ad 1000)), (1, .int x)] := hl
  have hin_TX8 : ∀ w ∈ u_ws RX8 TX8 48, w ∈ wsX8_marked := by decide +kernel
  refine lv_aload_n hx hb dX8_marked_0 rfl (lv_at hl 0 rfl) ?_
  refine lv_iload_n hx hb dX8_marked_1 rfl (lv_at hl 1 rfl) ?_
  refine w_ci (w_runV ⟨hx, hb, hml, hown, hts⟩ (c_X8_kindOf hxo l D q V J R x hM hx4) hxo (cwV 1 hts gX8_marked_X8_kindOf rfl rfl rfl (by decide +kernel) ⟨Nat.le_of_ble_eq_true rfl, Nat.le_of_ble_eq_true rfl⟩) hK hW hS hA hXs (w_rcv hK hW hM.1.1 hM.1.2 (by decide) rfl) rfl hl.1 rfl (Nat.le_of_ble_eq_true rfl) dX8_marked_2 ⟨Nat.zero_le _, Nat.zero_le _⟩) hW hS hA (fun H locs hW hS => ?_)
  by_cases k3 : m_kind V x.toNatClampNeg = 3
  · refine w_i k3 ?_
    refine lv_istore_n (lv' := [(2, .int 3), (0, .ref (ad 1000)), (1, .int x)]) hx hb dX8_marked_5 rfl hl (by decide) rfl (fun ls hl => ?_)
    refine lv_iload_n hx hb dX8_marked_6 rfl (lv_at hl 0 rfl) ?_
    refine lv_iconst (v := 1) hx hb dX8_marked_7 (by decide) ?_
    refine lv_icmp_eq (tgt := 16) hx hb dX8_marked_8 (by decide) (fun z9 => absurd z9 (by decide)) (fun _ => ?_)
    refine lv_iload_n hx hb dX8_marked_11 rfl (lv_at hl 0 rfl) ?_
    refine lv_iconst (v := 2) hx hb dX8_marked_12 (by decide) ?_
    refine lv_icmp_ne (tgt := 20) hx hb dX8_marked_13 (by decide) (fun _ => ?_) (fun z9 => absurd z9 (by decide))
    refine lv_iconst (v := 0) hx hb dX8_marked_20 (by decide) ?_
    refine lv_istore_n (lv' := [(3, .int 0), (2, .int 3), (0, .ref (ad 1000)), (1, .int x)]) hx hb dX8_marked_21 rfl hl (by decide) rfl (fun ls hl => ?_)
    refine lv_iload_n hx hb dX8_marked_22 rfl (lv_at hl 1 rfl) ?_
    refine lv_iconst (v := 3) hx hb dX8_marked_23 (by decide) ?_
    refine lv_icmp_ne (tgt := 33) hx hb dX8_marked_24 (by decide) (fun z9 => absurd z9 (by decide)) (fun _ => ?_)
    refine lv_aload_n hx hb dX8_marked_27 rfl (lv_at hl 2 rfl) ?_
    refine lv_bipush (v := 22) hx hb dX8_marked_28 (by decide) ?_
    refine w_cv (w_runV ⟨hx, hb, hml, hown, hts⟩ (c_X8_began hxo l D q V J R 22 hM (h0)) hxo (cwV 1 hts gX8_marked_X8_began rfl rfl rfl (by decide +kernel) ⟨Nat.le_of_ble_eq_true rfl, Nat.le_of_ble_eq_true rfl⟩) hK hW hS hA hXs (w_rcv hK hW hM.1.1 hM.1.2 (by decide) rfl) rfl hl.1 rfl (Nat.le_of_ble_eq_true rfl) dX8_marked_30 ⟨Nat.zero_le _, Nat.zero_le _⟩) hW hS hA (fun H locs hW hS => ?_)
    refine lv_iload_n hx hb dX8_marked_33 rfl (lv_at hl 0 rfl) ?_
    refine lv_if_eq (tgt := 43) hx hb dX8_marked_34 (by decide) (fun _ => ?_) (fun z9 => absurd z9 (by decide))
    refine lv_aload_n hx hb dX8_marked_43 rfl (lv_at hl 2 rfl) ?_
    refine lv_bipush (v := 20) hx hb dX8_marked_44 (by decide) ?_
    refine w_cv (w_runV ⟨hx, hb, hml, hown, hts⟩ (c_X8_began hxo l D q (m_bg V 22) J R 20 hM (m_bg_h0 (h0))) hxo (cwV 1 hts gX8_marked_X8_began rfl rfl rfl (by decide +kernel) ⟨Nat.le_of_ble_eq_true rfl, Nat.le_of_ble_eq_true rfl⟩) hK hW hS hA hXs (w_rcv hK hW hM.1.1 hM.1.2 (by decide) rfl) rfl hl.1 rfl (Nat.le_of_ble_eq_true rfl) dX8_marked_46 ⟨Nat.zero_le _, Nat.zero_le _⟩) hW hS hA (fun H locs hW hS => ?_)
    refine lv_aload_n hx hb dX8_marked_49 rfl (lv_at hl 2 rfl) ?_
    refine w_getr (ci := 9) (T := TX8) hx hb hts hin_TX8 hown hK hW hM.1.1 hM.1.2 (by decide) rfl 9 (by decide) (hts (.fieldLink RX8 28 "TownClocksModel" "need" "[I") (by decide +kernel)) (fun _ h9 => h9) rfl (mo_9 hM).2.2.2 dX8_marked_50 ?_
    refine lv_iload_n hx hb dX8_marked_53 rfl (lv_at hl 3 rfl) ?_
    refine w_iald hx hb hK hW (mo_9 hM).1 (mo_9 hM).2.1 (by rw [(mo_9 hM).2.2.1]; exact inx_v.mpr hx4) dX8_marked_54 ?_
    refine lv_iload_n hx hb dX8_marked_55 rfl (lv_at hl 1 rfl) ?_
    refine lv_iconst (v := 3) hx hb dX8_marked_56 (by decide) ?_
    refine lv_icmp_ne (tgt := 66) hx hb dX8_marked_57 (by decide) (fun z9 => absurd z9 (by decide)) (fun _ => ?_)
    refine lv_sipush (v := 1000) hx hb dX8_marked_60 (by decide) ?_
    refine lv_goto (tgt := 79) hx hb dX8_marked_63 (by decide) ?_
    refine lv_iadd hx hb dX8_marked_79 ?_
    exact w_iret hx hb hr hlk hW hS (by simp only [m_mk, m_bg_ne (show 1009 ≠ 1000 by decide) (show 1009 ≠ 1046 by decide), if_pos k3]) (by simp only [m_mkV, if_pos k3]) rfl rfl dX8_marked_80
  by_cases k2 : m_kind V x.toNatClampNeg = 2
  · refine w_i k2 ?_
    refine lv_istore_n (lv' := [(2, .int 2), (0, .ref (ad 1000)), (1, .int x)]) hx hb dX8_marked_5 rfl hl (by decide) rfl (fun ls hl => ?_)
    refine lv_iload_n hx hb dX8_marked_6 rfl (lv_at hl 0 rfl) ?_
    refine lv_iconst (v := 1) hx hb dX8_marked_7 (by decide) ?_
    refine lv_icmp_eq (tgt := 16) hx hb dX8_marked_8 (by decide) (fun z9 => absurd z9 (by decide)) (fun _ => ?_)
    refine lv_iload_n hx hb dX8_marked_11 rfl (lv_at hl 0 rfl) ?_
    refine lv_iconst (v := 2) hx hb dX8_marked_12 (by decide) ?_
    refine lv_icmp_ne (tgt := 20) hx hb dX8_marked_13 (by decide) (fun z9 => absurd z9 (by decide)) (fun _ => ?_)
    refine lv_iconst (v := 1) hx hb dX8_marked_16 (by decide) ?_
    refine lv_goto (tgt := 21) hx hb dX8_marked_17 (by decide) ?_
    refine lv_istore_n (lv' := [(3, .int 1), (2, .int 2), (0, .ref (ad 1000)), (1, .int x)]) hx hb dX8_marked_21 rfl hl (by decide) rfl (fun ls hl => ?_)
    refine lv_iload_n hx hb dX8_marked_22 rfl (lv_at hl 1 rfl) ?_
    refine lv_iconst (v := 3) hx hb dX8_marked_23 (by decide) ?_
    refine lv_icmp_ne (tgt := 33) hx hb dX8_marked_24 (by decide) (fun _ => ?_) (fun z9 => absurd z9 (by decide))
    refine lv_iload_n hx hb dX8_marked_33 rfl (lv_at hl 0 rfl) ?_
    refine lv_if_eq (tgt := 43) hx hb dX8_marked_34 (by decide) (fun z9 => absurd z9 (by decide)) (fun _ => ?_)
    refine lv_aload_n hx hb dX8_marked_37 rfl (lv_at hl 2 rfl) ?_
    refine lv_bipush (v := 21) hx hb dX8_marked_38 (by decide) ?_
    refine w_cv (w_runV ⟨hx, hb, hml, hown, hts⟩ (c_X8_began hxo l D q V J R 21 hM (h0)) hxo (cwV 1 hts gX8_marked_X8_began rfl rfl rfl (by decide +kernel) ⟨Nat.le_of_ble_eq_true rfl, Nat.le_of_ble_eq_true rfl⟩) hK hW hS hA hXs (w_rcv hK hW hM.1.1 hM.1.2 (by decide) rfl) rfl hl.1 rfl (Nat.le_of_ble_eq_true rfl) dX8_marked_40 ⟨Nat.zero_le _, Nat.zero_le _⟩) hW hS hA (fun H locs hW hS => ?_)
    refine lv_aload_n hx hb dX8_marked_43 rfl (lv_at hl 2 rfl) ?_
    refine lv_bipush (v := 20) hx hb dX8_marked_44 (by decide) ?_
    refine w_cv (w_runV ⟨hx, hb, hml, hown, hts⟩ (c_X8_began hxo l D q (m_bg V 21) J R 20 hM (m_bg_h0 (h0))) hxo (cwV 1 hts gX8_marked_X8_began rfl rfl rfl (by decide +kernel) ⟨Nat.le_of_ble_eq_true rfl, Nat.le_of_ble_eq_true rfl⟩) hK hW hS hA hXs (w_rcv hK hW hM.1.1 hM.1.2 (by decide) rfl) rfl hl.1 rfl (Nat.le_of_ble_eq_true rfl) dX8_marked_46 ⟨Nat.zero_le _, Nat.zero_le _⟩) hW hS hA (fun H locs hW hS => ?_)
    refine lv_aload_n hx hb dX8_marked_49 rfl (lv_at hl 2 rfl) ?_
    refine w_getr (ci := 9) (T := TX8) hx hb hts hin_TX8 hown hK hW hM.1.1 hM.1.2 (by decide) rfl 9 (by decide) (hts (.fieldLink RX8 28 "TownClocksModel" "need" "[I") (by decide +kernel)) (fun _ h9 => h9) rfl (mo_9 hM).2.2.2 dX8_marked_50 ?_
    refine lv_iload_n hx hb dX8_marked_53 rfl (lv_at hl 3 rfl) ?_
    refine w_iald hx hb hK hW (mo_9 hM).1 (mo_9 hM).2.1 (by rw [(mo_9 hM).2.2.1]; exact inx_v.mpr hx4) dX8_marked_54 ?_
    refine lv_iload_n hx hb dX8_marked_55 rfl (lv_at hl 1 rfl) ?_
    refine lv_iconst (v := 3) hx hb dX8_marked_56 (by decide) ?_
    refine lv_icmp_ne (tgt := 66) hx hb dX8_marked_57 (by decide) (fun _ => ?_) (fun z9 => absurd z9 (by decide))
    refine lv_iload_n hx hb dX8_marked_66 rfl (lv_at hl 0 rfl) ?_
    refine lv_if_eq (tgt := 78) hx hb dX8_marked_67 (by decide) (fun z9 => absurd z9 (by decide)) (fun _ => ?_)
    refine lv_aload_n hx hb dX8_marked_70 rfl (lv_at hl 2 rfl) ?_
    refine lv_iload_n hx hb dX8_marked_71 rfl (lv_at hl 3 rfl) ?_
    refine w_ci (w_runV ⟨hx, hb, hml, hown, hts⟩ (c_X8_weight hxo l D q (m_bg (m_bg V 21) 20) J R x hM hx4 (m_bg_h0 (m_bg_h0 (h0)))) hxo (cwV 1 hts gX8_marked_X8_weight rfl rfl rfl (by decide +kernel) ⟨Nat.le_of_ble_eq_true rfl, Nat.le_of_ble_eq_true rfl⟩) hK hW hS hA hXs (w_rcv hK hW hM.1.1 hM.1.2 (by decide) rfl) rfl hl.1 rfl (Nat.le_of_ble_eq_true rfl) dX8_marked_72 ⟨Nat.zero_le _, Nat.zero_le _⟩) hW hS hA (fun H locs hW hS => ?_)
    refine lv_goto (tgt := 79) hx hb dX8_marked_75 (by decide) ?_
    refine lv_iadd hx hb dX8_marked_79 ?_
    exact w_iret hx hb hr hlk hW hS (by simp only [m_mk, m_bg_ne (show 1009 ≠ 1000 by decide) (show 1009 ≠ 1046 by decide), if_neg k3, if_pos k2]) (by simp only [m_mkV, if_neg k3, if_pos k2]) rfl rfl dX8_marked_80
  by_cases k1 : m_kind V x.toNatClampNeg = 1
  · refine w_i k1 ?_
    refine lv_istore_n (lv' := [(2, .int 1), (0, .ref (ad 1000)), (1, .int x)]) hx hb dX8_marked_5 rfl hl (by decide) rfl (fun ls hl => ?_)
    refine lv_iload_n hx hb dX8_marked_6 rfl (lv_at hl 0 rfl) ?_
    refine lv_iconst (v := 1) hx hb dX8_marked_7 (by decide) ?_
    refine lv_icmp_eq (tgt := 16) hx hb dX8_marked_8 (by decide) (fun _ => ?_) (fun z9 => absurd z9 (by decide))
    refine lv_iconst (v := 1) hx hb dX8_marked_16 (by decide) ?_
    refine lv_goto (tgt := 21) hx hb dX8_marked_17 (by decide) ?_
    refine lv_istore_n (lv' := [(3, .int 1), (2, .int 1), (0, .ref (ad 1000)), (1, .int x)]) hx hb dX8_marked_21 rfl hl (by decide) rfl (fun ls hl => ?_)
    refine lv_iload_n hx hb dX8_marked_22 rfl (lv_at hl 1 rfl) ?_
    refine lv_iconst (v := 3) hx hb dX8_marked_23 (by decide) ?_
    refine lv_icmp_ne (tgt := 33) hx hb dX8_marked_24 (by decide) (fun _ => ?_) (fun z9 => absurd z9 (by decide))
    refine lv_iload_n hx hb dX8_marked_33 rfl (lv_at hl 0 rfl) ?_
    refine lv_if_eq (tgt := 43) hx hb dX8_marked_34 (by decide) (fun z9 => absurd z9 (by decide)) (fun _ => ?_)
    refine lv_aload_n hx hb dX8_marked_37 rfl (lv_at hl 2 rfl) ?_
    refine lv_bipush (v := 21) hx hb dX8_marked_38 (by decide) ?_
    refine w_cv (w_runV ⟨hx, hb, hml, hown, hts⟩ (c_X8_began hxo l D q V J R 21 hM (h0)) hxo (cwV 1 hts gX8_marked_X8_began rfl rfl rfl (by decide +kernel) ⟨Nat.le_of_ble_eq_true rfl, Nat.le_of_ble_eq_true rfl⟩) hK hW hS hA hXs (w_rcv hK hW hM.1.1 hM.1.2 (by decide) rfl) rfl hl.1 rfl (Nat.le_of_ble_eq_true rfl) dX8_marked_40 ⟨Nat.zero_le _, Nat.zero_le _⟩) hW hS hA (fun H locs hW hS => ?_)
    refine lv_aload_n hx hb dX8_marked_43 rfl (lv_at hl 2 rfl) ?_
    refine lv_bipush (v := 20) hx hb dX8_marked_44 (by decide) ?_
    refine w_cv (w_runV ⟨hx, hb, hml, hown, hts⟩ (c_X8_began hxo l D q (m_bg V 21) J R 20 hM (m_bg_h0 (h0))) hxo (cwV 1 hts gX8_marked_X8_began rfl rfl rfl (by decide +kernel) ⟨Nat.le_of_ble_eq_true rfl, Nat.le_of_ble_eq_true rfl⟩) hK hW hS hA hXs (w_rcv hK hW hM.1.1 hM.1.2 (by decide) rfl) rfl hl.1 rfl (Nat.le_of_ble_eq_true rfl) dX8_marked_46 ⟨Nat.zero_le _, Nat.zero_le _⟩) hW hS hA (fun H locs hW hS => ?_)
    refine lv_aload_n hx hb dX8_marked_49 rfl (lv_at hl 2 rfl) ?_
    refine w_getr (ci := 9) (T := TX8) hx hb hts hin_TX8 hown hK hW hM.1.1 hM.1.2 (by decide) rfl 9 (by decide) (hts (.fieldLink RX8 28 "TownClocksModel" "need" "[I") (by decide +kernel)) (fun _ h9 => h9) rfl (mo_9 hM).2.2.2 dX8_marked_50 ?_
    refine lv_iload_n hx hb dX8_marked_53 rfl (lv_at hl 3 rfl) ?_
    refine w_iald hx hb hK hW (mo_9 hM).1 (mo_9 hM).2.1 (by rw [(mo_9 hM).2.2.1]; exact inx_v.mpr hx4) dX8_marked_54 ?_
    refine lv_iload_n hx hb dX8_marked_55 rfl (lv_at hl 1 rfl) ?_
    refine lv_iconst (v := 3) hx hb dX8_marked_56 (by decide) ?_
    refine lv_icmp_ne (tgt := 66) hx hb dX8_marked_57 (by decide) (fun _ => ?_) (fun z9 => absurd z9 (by decide))
    refine lv_iload_n hx hb dX8_marked_66 rfl (lv_at hl 0 rfl) ?_
    refine lv_if_eq (tgt := 78) hx hb dX8_marked_67 (by decide) (fun z9 => absurd z9 (by decide)) (fun _ => ?_)
    refine lv_aload_n hx hb dX8_marked_70 rfl (lv_at hl 2 rfl) ?_
    refine lv_iload_n hx hb dX8_marked_71 rfl (lv_at hl 3 rfl) ?_
    refine w_ci (w_runV ⟨hx, hb, hml, hown, hts⟩ (c_X8_weight hxo l D q (m_bg (m_bg V 21) 20) J R x hM hx4 (m_bg_h0 (m_bg_h0 (h0)))) hxo (cwV 1 hts gX8_marked_X8_weight rfl rfl rfl (by decide +kernel) ⟨Nat.le_of_ble_eq_true rfl, Nat.le_of_ble_eq_true rfl⟩) hK hW hS hA hXs (w_rcv hK hW hM.1.1 hM.1.2 (by decide) rfl) rfl hl.1 rfl (Nat.le_of_ble_eq_true rfl) dX8_marked_72 ⟨Nat.zero_le _, Nat.zero_le _⟩) hW hS hA (fun H locs hW hS => ?_)
    refine lv_goto (tgt := 79) hx hb dX8_marked_75 (by decide) ?_
    refine lv_iadd hx hb dX8_marked_79 ?_
    exact w_iret hx hb hr hlk hW hS (by simp only [m_mk, m_bg_ne (show 1009 ≠ 1000 by decide) (show 1009 ≠ 1046 by decide), if_neg k3, if_neg k2, if_pos k1]) (by simp only [m_mkV, if_neg k3, if_neg k2, if_pos k1]) rfl rfl dX8_marked_80
  · have h9 := k3
    refine lv_istore_n (lv' := [(2, .int (m_kind V x.toNatClampNeg)), (0, .ref (ad 1000)), (1, .int x)]) hx hb dX8_marked_5 rfl hl (by decide) rfl (fun ls hl => ?_)
    refine lv_iload_n hx hb dX8_marked_6 rfl (lv_at hl 0 rfl) ?_
    refine lv_iconst (v := 1) hx hb dX8_marked_7 (by decide) ?_
    refine lv_icmp_eq (tgt := 16) hx hb dX8_marked_8 (by decide) (fun c_8 => ?_) (fun c_8 => ?_)
    · exact absurd c_8 k1
    · refine lv_iload_n hx hb dX8_marked_11 rfl (lv_at hl 0 rfl) ?_
      refine lv_iconst (v := 2) hx hb dX8_marked_12 (by decide) ?_
      refine lv_icmp_ne (tgt := 20) hx hb dX8_marked_13 (by decide) (fun c_13 => ?_) (fun c_13 => ?_)
      · refine lv_iconst (v := 0) hx hb dX8_marked_20 (by decide) ?_
        refine lv_istore_n (lv' := [(3, .int 0), (2, .int (m_kind V x.toNatClampNeg)), (0, .ref (ad 1000)), (1, .int x)]) hx hb dX8_marked_21 rfl hl (by decide) rfl (fun ls hl => ?_)
        refine lv_iload_n hx hb dX8_marked_22 rfl (lv_at hl 1 rfl) ?_
        refine lv_iconst (v := 3) hx hb dX8_marked_23 (by decide) ?_
        refine lv_icmp_ne (tgt := 33) hx hb dX8_marked_24 (by decide) (fun c_24 => ?_) (fun c_24 => ?_)
        · refine lv_iload_n hx hb dX8_marked_33 rfl (lv_at hl 0 rfl) ?_
          refine lv_if_eq (tgt := 43) hx hb dX8_marked_34 (by decide) (fun _ => ?_) (fun z9 => absurd z9 (by decide))
          refine lv_aload_n hx hb dX8_marked_43 rfl (lv_at hl 2 rfl) ?_
          refine lv_bipush (v := 20) hx hb dX8_marked_44 (by decide) ?_
          refine w_cv (w_runV ⟨hx, hb, hml, hown, hts⟩ (c_X8_began hxo l D q V J R 20 hM (h0)) hxo (cwV 1 hts gX8_marked_X8_began rfl rfl rfl (by decide +kernel) ⟨Nat.le_of_ble_eq_true rfl, Nat.le_of_ble_eq_true rfl⟩) hK hW hS hA hXs (w_rcv hK hW hM.1.1 hM.1.2 (by decide) rfl) rfl hl.1 rfl (Nat.le_of_ble_eq_true rfl) dX8_marked_46 ⟨Nat.zero_le _, Nat.zero_le _⟩) hW hS hA (fun H locs hW hS => ?_)
          refine lv_aload_n hx hb dX8_marked_49 rfl (lv_at hl 2 rfl) ?_
          refine w_getr (ci := 9) (T := TX8) hx hb hts hin_TX8 hown hK hW hM.1.1 hM.1.2 (by decide) rfl 9 (by decide) (hts (.fieldLink RX8 28 "TownClocksModel" "need" "[I") (by decide +kernel)) (fun _ h9 => h9) rfl (mo_9 hM).2.2.2 dX8_marked_50 ?_
          refine lv_iload_n hx hb dX8_marked_53 rfl (lv_at hl 3 rfl) ?_
          refine w_iald hx hb hK hW (mo_9 hM).1 (mo_9 hM).2.1 (by rw [(mo_9 hM).2.2.1]; exact inx_v.mpr hx4) dX8_marked_54 ?_
          refine lv_iload_n hx hb dX8_marked_55 rfl (lv_at hl 1 rfl) ?_
          refine lv_iconst (v := 3) hx hb dX8_marked_56 (by decide) ?_
          refine lv_icmp_ne (tgt := 66) hx hb dX8_marked_57 (by decide) (fun c_57 => ?_) (fun c_57 => ?_)
          · refine lv_iload_n hx hb dX8_marked_66 rfl (lv_at hl 0 rfl) ?_
            refine lv_if_eq (tgt := 78) hx hb dX8_marked_67 (by decide) (fun _ => ?_) (fun z9 => absurd z9 (by decide))
            refine lv_iconst (v := 0) hx hb dX8_marked_78 (by decide) ?_
            refine lv_iadd hx hb dX8_marked_79 ?_
            exact w_iret hx hb hr hlk hW hS (by simp only [m_mk, m_bg_ne (show 1009 ≠ 1000 by decide) (show 1009 ≠ 1046 by decide), if_neg k3, if_neg k2, if_neg k1]) (by simp only [m_mkV, if_neg k3, if_neg k2, if_neg k1]) rfl rfl dX8_marked_80
          · exact absurd c_57 k3
        · exact absurd c_24 k3
      · exact absurd c_13 k2
set_option maxHeartbeats 4000000 in
set_option maxRecDepth 100000 in
theorem c_X8_ask {X : (Nat → Prop) → State → Prop} (hxo : xok X) (l : Launch) (D : va_G) (q : Cq) {dm : List Nat} {kd ln ad : Nat → Nat} (V : Mv) (J : Mj) (R : Mr) (nP nD : Nat) (x v : Int32) (hM : okM dm kd ln R) (hmp : V 1000 1 = nI nP) (hnP : nP ≤ 30) (hmq : V 1000 7 = nI nD) (hnD : nD ≤ 40)  : CtI X l yX8_ask wsX8_ask ({ frames := 3, cells := 0, slots := 0, locals := 68 }) D q dm kd ln ad V J R [.ref (ad 1000), .int x, .int v] (m_ask V nD x v) (m_askV V nD x v) (J) (R) := by
  refine CtI_of (cc := cX8_ask) (maxL := 3) (ret := (some .int)) (by decide +kernel) rfl (Nat.le_of_ble_eq_true rfl) ?_
  intro p e s m below meth c A hx hb hr hml hts hown hlk hmn hK hW hA hXs ls hl
  have hS : va_S A s.heap s.heap [] := va_S.rf
  have hl : lv_has ls 3 [(0, .ref (ad 1000)), (1, .int x), (2, .int v)] := hl
  have hin_TX8 : ∀ w ∈ u_ws RX8 TX8 48, w ∈ wsX8_ask := by decide +kernel
  refine lv_aload_n hx hb dX8_ask_0 rfl (lv_at hl 0 rfl) ?_
  refine lv_iconst (v := 0) hx hb dX8_ask_1 (by decide) ?_
  refine w_puti (ci := 9) (T := TX8) (ty := .int) hx hb hts hin_TX8 tyX8 tyX8_ok nmX8 hown hK hW hS hM.1.1 hM.1.2 (by decide) rfl 0 (by decide) (hts (.fieldLink RX8 95 "TownClocksModel" "thrown" "I") (by decide +kernel)) (fun _ h9 => h9) rfl (tyX8_ok 0 (by decide)) rfl rfl (Nat.le_of_ble_eq_true rfl) rfl dX8_ask_2 (fun H locs hW hS => ?_)
  refine lv_aload_n hx hb dX8_ask_5 rfl (lv_at hl 0 rfl) ?_
  refine lv_iload_n hx hb dX8_ask_6 rfl (lv_at hl 1 rfl) ?_
  refine w_ci (w_runV ⟨hx, hb, hml, hown, hts⟩ (c_X8_isDial hxo l D q (u2 V 1000 0 0) J R nD x hM (by rw [u2_sn (by decide)]; exact hmq) hnD) hxo (cwV 1 hts gX8_ask_X8_isDial rfl rfl rfl (by decide +kernel) ⟨Nat.le_of_ble_eq_true rfl, Nat.le_of_ble_eq_true rfl⟩) hK hW hS hA hXs (w_rcv hK hW hM.1.1 hM.1.2 (by decide) rfl) rfl hl.1 rfl (Nat.le_of_ble_eq_true rfl) dX8_ask_7 ⟨Nat.zero_le _, Nat.zero_le _⟩) hW hS hA (fun H locs hW hS => ?_)
  refine w_ifz (tgt := 23) hx hb dX8_ask_10 (by decide) (fun c_10 => ?_) (fun c_10 => ?_)
  · refine lv_ldc (v := -1000001) hx hb hown (hts (.constant RX8 115 (-1000001)) (by decide +kernel)) dX8_ask_23 ?_
    exact w_iret hx hb hr hlk hW hS (by first | rfl | (simp only [m_ask, m_askV, if_neg c_10, c_10, ↓reduceIte]; done) | simp [bz, m_ask, m_askV, if_neg c_10, c_10]) (by first | rfl | (simp only [m_ask, m_askV, if_neg c_10, c_10, ↓reduceIte]; done) | simp [bz, m_ask, m_askV, if_neg c_10, c_10]) rfl rfl dX8_ask_25
  · refine lv_iload_n hx hb dX8_ask_13 rfl (lv_at hl 2 rfl) ?_
    refine lv_i2l hx hb dX8_ask_14 rfl ?_
    refine lv_lconst (v := 0) hx hb dX8_ask_15 (by decide) ?_
    refine lv_lconst (v := 1) hx hb dX8_ask_16 (by decide) ?_
    refine w_ci (w_runS ⟨hx, hb, hml, hown, hts⟩ (c_X8_in hxo l D q (u2 V 1000 0 0) J R v.toInt64 0 1 ) hxo (va_cwS 3 hts gX8_ask_X8_in rfl rfl rfl (by decide +kernel) ⟨Nat.le_of_ble_eq_true rfl, Nat.le_of_ble_eq_true rfl⟩) hK hW hS hA hXs rfl hl.1 rfl (Nat.le_of_ble_eq_true rfl) dX8_ask_17 ⟨Nat.zero_le _, Nat.zero_le _⟩) hW hS hA (fun H locs hW hS => ?_)
    refine w_i (bz_iff (wid_l (c := 0) (d := 1) (by decide) (by decide))) ?_
    refine w_ifnz (tgt := 26) hx hb dX8_ask_20 (by decide) (fun c_20 => ?_) (fun c_20 => ?_)
    · refine lv_aload_n hx hb dX8_ask_26 rfl (lv_at hl 0 rfl) ?_
      refine lv_iconst (v := 0) hx hb dX8_ask_27 (by decide) ?_
      refine w_puti (ci := 9) (T := TX8) (ty := .int) hx hb hts hin_TX8 tyX8 tyX8_ok nmX8 hown hK hW hS hM.1.1 hM.1.2 (by decide) rfl 47 (by decide) (hts (.fieldLink RX8 266 "TownClocksModel" "traced" "I") (by decide +kernel)) (fun _ h9 => h9) rfl (tyX8_ok 47 (by decide)) rfl rfl (Nat.le_of_ble_eq_true rfl) rfl dX8_ask_28 (fun H locs hW hS => ?_)
      refine lv_iload_n hx hb dX8_ask_31 rfl (lv_at hl 2 rfl) ?_
      refine lv_if_ne (tgt := 43) hx hb dX8_ask_32 (by decide) (fun c_32 => ?_) (fun c_32 => ?_)
      · refine lv_aload_n hx hb dX8_ask_43 rfl (lv_at hl 0 rfl) ?_
        refine lv_iload_n hx hb dX8_ask_44 rfl (lv_at hl 1 rfl) ?_
        refine w_ci (w_runV ⟨hx, hb, hml, hown, hts⟩ (c_X8_marked hxo l D q (u2 (u2 V 1000 0 0) 1000 47 0) J R x hM ⟨c_10.1, by have h9 := c_10.2; show _ < ((40 : Nat) : Int); omega⟩ (by rw [u2_ss]; decide)) hxo (cwV 1 hts gX8_ask_X8_marked rfl rfl rfl (by decide +kernel) ⟨Nat.le_of_ble_eq_true rfl, Nat.le_of_ble_eq_true rfl⟩) hK hW hS hA hXs (w_rcv hK hW hM.1.1 hM.1.2 (by decide) rfl) rfl hl.1 rfl (Nat.le_of_ble_eq_true rfl) dX8_ask_45 ⟨Nat.zero_le _, Nat.zero_le _⟩) hW hS hA (fun H locs hW hS => ?_)
        exact w_iret hx hb hr hlk hW hS (by first | rfl | (simp only [m_ask, m_askV, if_pos c_10, if_pos c_20, if_neg c_32, c_10, c_20, c_32, ↓reduceIte]; done) | simp [bz, m_ask, m_askV, if_pos c_10, if_pos c_20, if_neg c_32, c_10, c_20, c_32]) (by first | rfl | (simp only [m_ask, m_askV, if_pos c_10, if_pos c_20, if_neg c_32, c_10, c_20, c_32, ↓reduceIte]; done) | simp [bz, m_ask, m_askV, if_pos c_10, if_pos c_20, if_neg c_32, c_10, c_20, c_32]) rfl rfl dX8_ask_48
      · refine lv_aload_n hx hb dX8_ask_35 rfl (lv_at hl 0 rfl) ?_
        refine lv_iload_n hx hb dX8_ask_36 rfl (lv_at hl 1 rfl) ?_
        refine w_ci (w_runV ⟨hx, hb, hml, hown, hts⟩ (c_X8_weight hxo l D q (u2 (u2 V 1000 0 0) 1000 47 0) J R x hM ⟨c_10.1, by have h9 := c_10.2; show _ < ((40 : Nat) : Int); omega⟩ (by rw [u2_ss]; decide)) hxo (cwV 1 hts gX8_ask_X8_weight rfl rfl rfl (by decide +kernel) ⟨Nat.le_of_ble_eq_true rfl, Nat.le_of_ble_eq_true rfl⟩) hK hW hS hA hXs (w_rcv hK hW hM.1.1 hM.1.2 (by decide) rfl) rfl hl.1 rfl (Nat.le_of_ble_eq_true rfl) dX8_ask_37 ⟨Nat.zero_le _, Nat.zero_le _⟩) hW hS hA (fun H locs hW hS => ?_)
        refine lv_goto (tgt := 48) hx hb dX8_ask_40 (by decide) ?_
        exact w_iret hx hb hr hlk hW hS (by first | rfl | (simp only [m_ask, m_askV, if_pos c_10, if_pos c_20, if_pos c_32, c_10, c_20, c_32, ↓reduceIte]; done) | simp [bz, m_ask, m_askV, if_pos c_10, if_pos c_20, if_pos c_32, c_10, c_20, c_32]) (by first | rfl | (simp only [m_ask, m_askV, if_pos c_10, if_pos c_20, if_pos c_32, c_10, c_20, c_32, ↓reduceIte]; done) | simp [bz, m_ask, m_askV, if_pos c_10, if_pos c_20, if_pos c_32, c_10, c_20, c_32]) rfl rfl dX8_ask_48
    · refine lv_ldc (v := -1000001) hx hb hown (hts (.constant RX8 115 (-1000001)) (by decide +kernel)) dX8_ask_23 ?_
      exact w_iret hx hb hr hlk hW hS (by first | rfl | (simp only [m_ask, m_askV, if_pos c_10, if_neg c_20, c_10, c_20, ↓reduceIte]; done) | simp [bz, m_ask, m_askV, if_pos c_10, if_neg c_20, c_10, c_20]) (by first | rfl | (simp only [m_ask, m_askV, if_pos c_10, if_neg c_20, c_10, c_20, ↓reduceIte]; done) | simp [bz, m_ask, m_askV, if_pos c_10, if_neg c_20, c_10, c_20]) rfl rfl dX8_ask_25
set_option maxHeartbeats 4000000 in
set_option maxRecDepth 100000 in
theorem c_X8_count {X : (Nat → Prop) → State → Prop} (hxo : xok X) (l : Launch) (D : va_G) (q : Cq) {dm : List Nat} {kd ln ad : Nat → Nat} (V : Mv) (J : Mj) (R : Mr) (nP nD : Nat) (x : Int32) (hM : okM dm kd ln R) (hmp : V 1000 1 = nI nP) (hnP : nP ≤ 30) (hmq : V 1000 7 = nI nD) (hnD : nD ≤ 40)  : CtI X l yX8_count wsX8_count ({ frames := 1, cells := 0, slots := 0, locals := 25 }) D q dm kd ln ad V J R [.ref (ad 1000), .int x] (m_count V nD x) (u2 V 1000 0 0) (J) (R) := by
  refine CtI_of (cc := cX8_count) (maxL := 6) (ret := (some .int)) (by decide +kernel) rfl (Nat.le_of_ble_eq_true rfl) ?_
  intro p e s m below meth c A hx hb hr hml hts hown hlk hmn hK hW hA hXs ls hl
  have hS : va_S A s.heap s.heap [] := va_S.rf
  have hl : lv_has ls 6 [(0, .ref (ad 1000)), (1, .int x)] := hl
  have hin_TX8 : ∀ w ∈ u_ws RX8 TX8 48, w ∈ wsX8_count := by decide +kernel
  obtain ⟨RV, hRV⟩ : ∃ r, r = lpI (fun i a => m_c1 V x i a) nD 0 0 := ⟨_, rfl⟩
  have JL : ∀ n : Nat, ∀ (i : Nat) (a : Int32) (hn : i + n = nD) (hF : lpI (fun i a => m_c1 V x i a) n i a = RV) (h14 : 0 ≤ x ∧ x ≤ 7) (h21 : ¬ x = 0) (h26 : ¬ x = 1) (h32 : ¬ x = 7) (H : Heap) (locs : List Loc) (ls : Array Slot), wok A D q dm kd ln ad (u2 V 1000 0 0) J R H → va_S A s.heap H locs → lv_has ls 6 [(0, .ref (ad 1000)), (1, .int x), (2, .int a), (3, .int (nI i))] → W p l e ({ frames := 1, cells := 0, slots := 0, locals := 25 }) s m ([.ref (ad 1000), .int x] : List Value).toArray below meth c H locs 0 0 (MQ below (QI (m_count V nD x) D q dm kd ln ad (u2 V 1000 0 0) (J) (R) A) ([.ref (ad 1000), .int x] : List Value).toArray s 0 0 A) (F0 m 67 ls []) := by
    intro n
    induction n with
    | zero =>
      intro i a hn hF h14 h21 h26 h32 H locs ls hW hS hl
      refine lv_iload_n hx hb dX8_count_67 rfl (lv_at hl 3 rfl) ?_
      refine lv_aload_n hx hb dX8_count_68 rfl (lv_at hl 0 rfl) ?_
      refine w_get (ci := 9) (T := TX8) hx hb hts hin_TX8 hown hK hW hM.1.1 hM.1.2 (by decide) rfl 7 (by decide) (hts (.fieldLink RX8 128 "TownClocksModel" "dials" "I") (by decide +kernel)) (fun _ h9 => h9) rfl dX8_count_69 ?_
      refine w_i (by rw [u2_sn (by decide)]) ?_
      refine lv_icmp_ge (tgt := 193) hx hb dX8_count_72 (by decide) (fun c_72 => ?_) (fun c_72 => ?_)
      · refine lv_iload_n hx hb dX8_count_193 rfl (lv_at hl 2 rfl) ?_
        exact w_iret hx hb hr hlk hW hS (by rw [m_count, if_pos h14, if_neg h21, if_neg h26, if_neg h32, ← hRV, ← hF]; rfl) rfl rfl rfl dX8_count_194
      · exact absurd (by rw [hmq]; exact nI_le (by omega) (by omega)) c_72
    | succ n ih =>
      intro i a hn hF h14 h21 h26 h32 H locs ls hW hS hl
      have hid : i < nD := by omega
      refine lv_iload_n hx hb dX8_count_67 rfl (lv_at hl 3 rfl) ?_
      refine lv_aload_n hx hb dX8_count_68 rfl (lv_at hl 0 rfl) ?_
      refine w_get (ci := 9) (T := TX8) hx hb hts hin_TX8 hown hK hW hM.1.1 hM.1.2 (by decide) rfl 7 (by decide) (hts (.fieldLink RX8 128 "TownClocksModel" "dials" "I") (by decide +kernel)) (fun _ h9 => h9) rfl dX8_count_69 ?_
      refine w_i (by rw [u2_sn (by decide)]) ?_
      refine lv_icmp_ge (tgt := 193) hx hb dX8_count_72 (by decide) (fun c_72 => ?_) (fun c_72 => ?_)
      · exact absurd c_72 (by rw [hmq]; exact nI_ge (by omega) (by omega))
      · refine lv_aload_n hx hb dX8_count_75 rfl (lv_at hl 0 rfl) ?_
        refine lv_iload_n hx hb dX8_count_76 rfl (lv_at hl 3 rfl) ?_
        refine w_ci (w_runV ⟨hx, hb, hml, hown, hts⟩ (c_X8_kindOf hxo l D q (u2 V 1000 0 0) J R (nI i) hM (inx_n (by omega) (by decide))) hxo (cwV 1 hts gX8_count_X8_kindOf rfl rfl rfl (by decide +kernel) ⟨Nat.le_of_ble_eq_true rfl, Nat.le_of_ble_eq_true rfl⟩) hK hW hS hA hXs (w_rcv hK hW hM.1.1 hM.1.2 (by decide) rfl) rfl hl.1 rfl (Nat.le_of_ble_eq_true rfl) dX8_count_77 ⟨Nat.zero_le _, Nat.zero_le _⟩) hW hS hA (fun H locs hW hS => ?_)
        refine w_i (m_kind0 rfl) ?_
        refine w_i (show m_kind V (nI i).toNatClampNeg = m_kind V i from by rw [nI_clamp (by omega)]) ?_
        refine lv_istore (lv' := [(4, .int (m_kind V i)), (0, .ref (ad 1000)), (1, .int x), (2, .int a), (3, .int (nI i))]) hx hb dX8_count_80 hl (by decide) rfl (fun ls hl => ?_)
        refine lv_iload_n hx hb dX8_count_82 rfl (lv_at hl 2 rfl) ?_
        refine lv_iconst (v := 2) hx hb dX8_count_83 (by decide) ?_
        refine lv_icmp_ne (tgt := 107) hx hb dX8_count_84 (by decide) (fun c_84 => ?_) (fun c_84 => ?_)
        · refine lv_iload_n hx hb dX8_count_107 rfl (lv_at hl 2 rfl) ?_
          refine lv_iconst (v := 3) hx hb dX8_count_108 (by decide) ?_
          refine lv_icmp_ne (tgt := 126) hx hb dX8_count_109 (by decide) (fun c_109 => ?_) (fun c_109 => ?_)
          · refine lv_iload_n hx hb dX8_count_126 rfl (lv_at hl 2 rfl) ?_
            refine lv_iconst (v := 4) hx hb dX8_count_127 (by decide) ?_
            refine lv_icmp_ne (tgt := 140) hx hb dX8_count_128 (by decide) (fun c_128 => ?_) (fun c_128 => ?_)
            · refine lv_aload_n hx hb dX8_count_140 rfl (lv_at hl 1 rfl) ?_
              refine w_getr (ci := 9) (T := TX8) hx hb hts hin_TX8 hown hK hW hM.1.1 hM.1.2 (by decide) rfl 17 (by decide) (hts (.fieldLink RX8 53 "TownClocksModel" "contract" "[I") (by decide +kernel)) (fun _ h9 => h9) rfl (mo_17 hM).2.2.2 dX8_count_141 ?_
              refine lv_iload_n hx hb dX8_count_144 rfl (lv_at hl 4 rfl) ?_
              refine w_ialdN (t := i) hx hb hK hW (mo_17 hM).1 (mo_17 hM).2.1 ⟨by rw [(mo_17 hM).2.2.1]; omega, by omega⟩ dX8_count_145 ?_
              refine w_i (by rw [u2_ne (by decide)]) ?_
              refine lv_if_le (tgt := 153) hx hb dX8_count_146 (by decide) (fun c_146 => ?_) (fun c_146 => ?_)
              · refine lv_iconst (v := 0) hx hb dX8_count_153 (by decide) ?_
                refine lv_istore (lv' := [(5, .int 0), (4, .int (m_kind V i)), (0, .ref (ad 1000)), (1, .int x), (2, .int a), (3, .int (nI i))]) hx hb dX8_count_154 hl (by decide) rfl (fun ls hl => ?_)
                refine lv_iload_n hx hb dX8_count_156 rfl (lv_at hl 4 rfl) ?_
                refine lv_iload_n hx hb dX8_count_157 rfl (lv_at hl 3 rfl) ?_
                refine lv_bipush (v := 6) hx hb dX8_count_158 (by decide) ?_
                refine lv_icmp_ne (tgt := 175) hx hb dX8_count_160 (by decide) (fun c_160 => ?_) (fun c_160 => ?_)
                · refine lv_iload hx hb dX8_count_175 (lv_at hl 0 rfl) ?_
                  refine lv_if_eq (tgt := 184) hx hb dX8_count_177 (by decide) (fun _ => ?_) (fun z9 => absurd z9 (by decide))
                  refine lv_iconst (v := 0) hx hb dX8_count_184 (by decide) ?_
                  refine lv_iadd hx hb dX8_count_185 ?_
                  refine lv_istore_n (lv' := [(2, .int (a + 0)), (5, .int 0), (4, .int (m_kind V i)), (0, .ref (ad 1000)), (1, .int x), (3, .int (nI i))]) hx hb dX8_count_186 rfl hl (by decide) rfl (fun ls hl => ?_)
                  refine lv_iinc (v := nI (i + 1)) (lv' := [(3, .int (nI (i + 1))), (2, .int (a + 0)), (5, .int 0), (4, .int (m_kind V i)), (0, .ref (ad 1000)), (1, .int x)]) hx hb dX8_count_187 hl (k := 5) rfl (by rw [show Int32.ofInt 1 = 1 from by decide]; exact nI_1 _) (by decide) rfl (fun ls hl => ?_)
                  refine lv_goto (tgt := 67) hx hb dX8_count_190 (by decide) ?_
                  exact ih (i + 1) (a + 0) (by omega) (by rw [show a + 0 = m_c1 V x i a from by simp only [m_c1, m_isv, if_neg c_72, if_neg c_84, if_neg c_109, if_neg c_128, if_pos c_146, if_neg c_160, m_10, ↓reduceIte]]; exact hF) h14 h21 h26 h32 _ _ _ hW hS (lv_sub hl [4, 5, 1, 0] rfl)
                · refine lv_aload_n hx hb dX8_count_163 rfl (lv_at hl 2 rfl) ?_
                  refine w_getr (ci := 9) (T := TX8) hx hb hts hin_TX8 hown hK hW hM.1.1 hM.1.2 (by decide) rfl 11 (by decide) (hts (.fieldLink RX8 34 "TownClocksModel" "late" "[I") (by decide +kernel)) (fun _ h9 => h9) rfl (mo_11 hM).2.2.2 dX8_count_164 ?_
                  refine lv_iload_n hx hb dX8_count_167 rfl (lv_at hl 5 rfl) ?_
                  refine w_ialdN (t := i) hx hb hK hW (mo_11 hM).1 (mo_11 hM).2.1 ⟨by rw [(mo_11 hM).2.2.1]; omega, by omega⟩ dX8_count_168 ?_
                  refine w_i (by rw [u2_ne (by decide)]) ?_
                  refine w_ci (w_runS ⟨hx, hb, hml, hown, hts⟩ (c_X8_size hxo l D q (u2 V 1000 0 0) J R (V 1011 i) ) hxo (va_cwS 1 hts gX8_count_X8_size rfl rfl rfl (by decide +kernel) ⟨Nat.le_of_ble_eq_true rfl, Nat.le_of_ble_eq_true rfl⟩) hK hW hS hA hXs rfl hl.1 rfl (Nat.le_of_ble_eq_true rfl) dX8_count_169 ⟨Nat.zero_le _, Nat.zero_le _⟩) hW hS hA (fun H locs hW hS => ?_)
                  refine lv_goto (tgt := 185) hx hb dX8_count_172 (by decide) ?_
                  refine lv_iadd hx hb dX8_count_185 ?_
                  refine lv_istore_n (lv' := [(2, .int (a + (m_size (V 1011 i)))), (5, .int 0), (4, .int (m_kind V i)), (0, .ref (ad 1000)), (1, .int x), (3, .int (nI i))]) hx hb dX8_count_186 rfl hl (by decide) rfl (fun ls hl => ?_)
                  refine lv_iinc (v := nI (i + 1)) (lv' := [(3, .int (nI (i + 1))), (2, .int (a + (m_size (V 1011 i)))), (5, .int 0), (4, .int (m_kind V i)), (0, .ref (ad 1000)), (1, .int x)]) hx hb dX8_count_187 hl (k := 5) rfl (by rw [show Int32.ofInt 1 = 1 from by decide]; exact nI_1 _) (by decide) rfl (fun ls hl => ?_)
                  refine lv_goto (tgt := 67) hx hb dX8_count_190 (by decide) ?_
                  exact ih (i + 1) (a + (m_size (V 1011 i))) (by omega) (by rw [show a + (m_size (V 1011 i)) = m_c1 V x i a from by simp only [m_c1, m_isv, if_neg c_72, if_neg c_84, if_neg c_109, if_neg c_128, if_pos c_146, if_pos c_160, m_10, ↓reduceIte]]; exact hF) h14 h21 h26 h32 _ _ _ hW hS (lv_sub hl [4, 5, 1, 0] rfl)
              · refine lv_iconst (v := 1) hx hb dX8_count_149 (by decide) ?_
                refine lv_goto (tgt := 154) hx hb dX8_count_150 (by decide) ?_
                refine lv_istore (lv' := [(5, .int 1), (4, .int (m_kind V i)), (0, .ref (ad 1000)), (1, .int x), (2, .int a), (3, .int (nI i))]) hx hb dX8_count_154 hl (by decide) rfl (fun ls hl => ?_)
                refine lv_iload_n hx hb dX8_count_156 rfl (lv_at hl 4 rfl) ?_
                refine lv_iload_n hx hb dX8_count_157 rfl (lv_at hl 3 rfl) ?_
                refine lv_bipush (v := 6) hx hb dX8_count_158 (by decide) ?_
                refine lv_icmp_ne (tgt := 175) hx hb dX8_count_160 (by decide) (fun c_160 => ?_) (fun c_160 => ?_)
                · refine lv_iload hx hb dX8_count_175 (lv_at hl 0 rfl) ?_
                  refine lv_if_eq (tgt := 184) hx hb dX8_count_177 (by decide) (fun z9 => absurd z9 (by decide)) (fun _ => ?_)
                  refine lv_iconst (v := 1) hx hb dX8_count_180 (by decide) ?_
                  refine lv_goto (tgt := 185) hx hb dX8_count_181 (by decide) ?_
                  refine lv_iadd hx hb dX8_count_185 ?_
                  refine lv_istore_n (lv' := [(2, .int (a + 1)), (5, .int 1), (4, .int (m_kind V i)), (0, .ref (ad 1000)), (1, .int x), (3, .int (nI i))]) hx hb dX8_count_186 rfl hl (by decide) rfl (fun ls hl => ?_)
                  refine lv_iinc (v := nI (i + 1)) (lv' := [(3, .int (nI (i + 1))), (2, .int (a + 1)), (5, .int 1), (4, .int (m_kind V i)), (0, .ref (ad 1000)), (1, .int x)]) hx hb dX8_count_187 hl (k := 5) rfl (by rw [show Int32.ofInt 1 = 1 from by decide]; exact nI_1 _) (by decide) rfl (fun ls hl => ?_)
                  refine lv_goto (tgt := 67) hx hb dX8_count_190 (by decide) ?_
                  exact ih (i + 1) (a + 1) (by omega) (by rw [show a + 1 = m_c1 V x i a from by simp only [m_c1, m_isv, if_neg c_72, if_neg c_84, if_neg c_109, if_neg c_128, if_neg c_146, if_neg c_160, m_10, ↓reduceIte]]; exact hF) h14 h21 h26 h32 _ _ _ hW hS (lv_sub hl [4, 5, 1, 0] rfl)
                · refine lv_aload_n hx hb dX8_count_163 rfl (lv_at hl 2 rfl) ?_
                  refine w_getr (ci := 9) (T := TX8) hx hb hts hin_TX8 hown hK hW hM.1.1 hM.1.2 (by decide) rfl 11 (by decide) (hts (.fieldLink RX8 34 "TownClocksModel" "late" "[I") (by decide +kernel)) (fun _ h9 => h9) rfl (mo_11 hM).2.2.2 dX8_count_164 ?_
                  refine lv_iload_n hx hb dX8_count_167 rfl (lv_at hl 5 rfl) ?_
                  refine w_ialdN (t := i) hx hb hK hW (mo_11 hM).1 (mo_11 hM).2.1 ⟨by rw [(mo_11 hM).2.2.1]; omega, by omega⟩ dX8_count_168 ?_
                  refine w_i (by rw [u2_ne (by decide)]) ?_
                  refine w_ci (w_runS ⟨hx, hb, hml, hown, hts⟩ (c_X8_size hxo l D q (u2 V 1000 0 0) J R (V 1011 i) ) hxo (va_cwS 1 hts gX8_count_X8_size rfl rfl rfl (by decide +kernel) ⟨Nat.le_of_ble_eq_true rfl, Nat.le_of_ble_eq_true rfl⟩) hK hW hS hA hXs rfl hl.1 rfl (Nat.le_of_ble_eq_true rfl) dX8_count_169 ⟨Nat.zero_le _, Nat.zero_le _⟩) hW hS hA (fun H locs hW hS => ?_)
                  refine lv_goto (tgt := 185) hx hb dX8_count_172 (by decide) ?_
                  refine lv_iadd hx hb dX8_count_185 ?_
                  refine lv_istore_n (lv' := [(2, .int (a + (m_size (V 1011 i)))), (5, .int 1), (4, .int (m_kind V i)), (0, .ref (ad 1000)), (1, .int x), (3, .int (nI i))]) hx hb dX8_count_186 rfl hl (by decide) rfl (fun ls hl => ?_)
                  refine lv_iinc (v := nI (i + 1)) (lv' := [(3, .int (nI (i + 1))), (2, .int (a + (m_size (V 1011 i)))), (5, .int 1), (4, .int (m_kind V i)), (0, .ref (ad 1000)), (1, .int x)]) hx hb dX8_count_187 hl (k := 5) rfl (by rw [show Int32.ofInt 1 = 1 from by decide]; exact nI_1 _) (by decide) rfl (fun ls hl => ?_)
                  refine lv_goto (tgt := 67) hx hb dX8_count_190 (by decide) ?_
                  exact ih (i + 1) (a + (m_size (V 1011 i))) (by omega) (by rw [show a + (m_size (V 1011 i)) = m_c1 V x i a from by simp only [m_c1, m_isv, if_neg c_72, if_neg c_84, if_neg c_109, if_neg c_128, if_neg c_146, if_pos c_160, m_10, ↓reduceIte]]; exact hF) h14 h21 h26 h32 _ _ _ hW hS (lv_sub hl [4, 5, 1, 0] rfl)
            · refine lv_aload_n hx hb dX8_count_131 rfl (lv_at hl 1 rfl) ?_
              refine w_getr (ci := 9) (T := TX8) hx hb hts hin_TX8 hown hK hW hM.1.1 hM.1.2 (by decide) rfl 15 (by decide) (hts (.fieldLink RX8 46 "TownClocksModel" "hasMissed" "[Z") (by decide +kernel)) (fun _ h9 => h9) rfl (mo_15 hM).2.2.2 dX8_count_132 ?_
              refine lv_iload_n hx hb dX8_count_135 rfl (lv_at hl 4 rfl) ?_
              refine w_zaldN (t := i) hx hb hK hW (mo_15 hM).1 (mo_15 hM).2.1 ⟨by rw [(mo_15 hM).2.2.1]; omega, by omega⟩ dX8_count_136 ?_
              refine w_i (by rw [u2_ne (by decide)]) ?_
              refine lv_goto (tgt := 154) hx hb dX8_count_137 (by decide) ?_
              refine lv_istore (lv' := [(5, .int (V 1015 i)), (4, .int (m_kind V i)), (0, .ref (ad 1000)), (1, .int x), (2, .int a), (3, .int (nI i))]) hx hb dX8_count_154 hl (by decide) rfl (fun ls hl => ?_)
              refine lv_iload_n hx hb dX8_count_156 rfl (lv_at hl 4 rfl) ?_
              refine lv_iload_n hx hb dX8_count_157 rfl (lv_at hl 3 rfl) ?_
              refine lv_bipush (v := 6) hx hb dX8_count_158 (by decide) ?_
              refine lv_icmp_ne (tgt := 175) hx hb dX8_count_160 (by decide) (fun c_160 => ?_) (fun c_160 => ?_)
              · refine lv_iload hx hb dX8_count_175 (lv_at hl 0 rfl) ?_
                refine lv_if_eq (tgt := 184) hx hb dX8_count_177 (by decide) (fun c_177 => ?_) (fun c_177 => ?_)
                · refine lv_iconst (v := 0) hx hb dX8_count_184 (by decide) ?_
                  refine lv_iadd hx hb dX8_count_185 ?_
                  refine lv_istore_n (lv' := [(2, .int (a + 0)), (5, .int (V 1015 i)), (4, .int (m_kind V i)), (0, .ref (ad 1000)), (1, .int x), (3, .int (nI i))]) hx hb dX8_count_186 rfl hl (by decide) rfl (fun ls hl => ?_)
                  refine lv_iinc (v := nI (i + 1)) (lv' := [(3, .int (nI (i + 1))), (2, .int (a + 0)), (5, .int (V 1015 i)), (4, .int (m_kind V i)), (0, .ref (ad 1000)), (1, .int x)]) hx hb dX8_count_187 hl (k := 5) rfl (by rw [show Int32.ofInt 1 = 1 from by decide]; exact nI_1 _) (by decide) rfl (fun ls hl => ?_)
                  refine lv_goto (tgt := 67) hx hb dX8_count_190 (by decide) ?_
                  exact ih (i + 1) (a + 0) (by omega) (by rw [show a + 0 = m_c1 V x i a from by simp only [m_c1, m_isv, if_neg c_72, if_neg c_84, if_neg c_109, if_pos c_128, if_neg c_160, if_pos c_177, m_10, ↓reduceIte]]; exact hF) h14 h21 h26 h32 _ _ _ hW hS (lv_sub hl [4, 5, 1, 0] rfl)
                · refine lv_iconst (v := 1) hx hb dX8_count_180 (by decide) ?_
                  refine lv_goto (tgt := 185) hx hb dX8_count_181 (by decide) ?_
                  refine lv_iadd hx hb dX8_count_185 ?_
                  refine lv_istore_n (lv' := [(2, .int (a + 1)), (5, .int (V 1015 i)), (4, .int (m_kind V i)), (0, .ref (ad 1000)), (1, .int x), (3, .int (nI i))]) hx hb dX8_count_186 rfl hl (by decide) rfl (fun ls hl => ?_)
                  refine lv_iinc (v := nI (i + 1)) (lv' := [(3, .int (nI (i + 1))), (2, .int (a + 1)), (5, .int (V 1015 i)), (4, .int (m_kind V i)), (0, .ref (ad 1000)), (1, .int x)]) hx hb dX8_count_187 hl (k := 5) rfl (by rw [show Int32.ofInt 1 = 1 from by decide]; exact nI_1 _) (by decide) rfl (fun ls hl => ?_)
                  refine lv_goto (tgt := 67) hx hb dX8_count_190 (by decide) ?_
                  exact ih (i + 1) (a + 1) (by omega) (by rw [show a + 1 = m_c1 V x i a from by simp only [m_c1, m_isv, if_neg c_72, if_neg c_84, if_neg c_109, if_pos c_128, if_neg c_160, if_neg c_177, m_10, ↓reduceIte]]; exact hF) h14 h21 h26 h32 _ _ _ hW hS (lv_sub hl [4, 5, 1, 0] rfl)
              · refine lv_aload_n hx hb dX8_count_163 rfl (lv_at hl 2 rfl) ?_
                refine w_getr (ci := 9) (T := TX8) hx hb hts hin_TX8 hown hK hW hM.1.1 hM.1.2 (by decide) rfl 11 (by decide) (hts (.fieldLink RX8 34 "TownClocksModel" "late" "[I") (by decide +kernel)) (fun _ h9 => h9) rfl (mo_11 hM).2.2.2 dX8_count_164 ?_
                refine lv_iload_n hx hb dX8_count_167 rfl (lv_at hl 5 rfl) ?_
                refine w_ialdN (t := i) hx hb hK hW (mo_11 hM).1 (mo_11 hM).2.1 ⟨by rw [(mo_11 hM).2.2.1]; omega, by omega⟩ dX8_count_168 ?_
                refine w_i (by rw [u2_ne (by decide)]) ?_
                refine w_ci (w_runS ⟨hx, hb, hml, hown, hts⟩ (c_X8_size hxo l D q (u2 V 1000 0 0) J R (V 1011 i) ) hxo (va_cwS 1 hts gX8_count_X8_size rfl rfl rfl (by decide +kernel) ⟨Nat.le_of_ble_eq_true rfl, Nat.le_of_ble_eq_true rfl⟩) hK hW hS hA hXs rfl hl.1 rfl (Nat.le_of_ble_eq_true rfl) dX8_count_169 ⟨Nat.zero_le _, Nat.zero_le _⟩) hW hS hA (fun H locs hW hS => ?_)
                refine lv_goto (tgt := 185) hx hb dX8_count_172 (by decide) ?_
                refine lv_iadd hx hb dX8_count_185 ?_
                refine lv_istore_n (lv' := [(2, .int (a + (m_size (V 1011 i)))), (5, .int (V 1015 i)), (4, .int (m_kind V i)), (0, .ref (ad 1000)), (1, .int x), (3, .int (nI i))]) hx hb dX8_count_186 rfl hl (by decide) rfl (fun ls hl => ?_)
                refine lv_iinc (v := nI (i + 1)) (lv' := [(3, .int (nI (i + 1))), (2, .int (a + (m_size (V 1011 i)))), (5, .int (V 1015 i)), (4, .int (m_kind V i)), (0, .ref (ad 1000)), (1, .int x)]) hx hb dX8_count_187 hl (k := 5) rfl (by rw [show Int32.ofInt 1 = 1 from by decide]; exact nI_1 _) (by decide) rfl (fun ls hl => ?_)
                refine lv_goto (tgt := 67) hx hb dX8_count_190 (by decide) ?_
                exact ih (i + 1) (a + (m_size (V 1011 i))) (by omega) (by rw [show a + (m_size (V 1011 i)) = m_c1 V x i a from by simp only [m_c1, m_isv, if_neg c_72, if_neg c_84, if_neg c_109, if_pos c_128, if_pos c_160, m_10, ↓reduceIte]]; exact hF) h14 h21 h26 h32 _ _ _ hW hS (lv_sub hl [4, 5, 1, 0] rfl)
          · refine lv_iload hx hb dX8_count_112 (lv_at hl 0 rfl) ?_
            refine lv_iconst (v := 3) hx hb dX8_count_114 (by decide) ?_
            refine lv_icmp_ne (tgt := 122) hx hb dX8_count_115 (by decide) (fun c_115 => ?_) (fun c_115 => ?_)
            · refine lv_iconst (v := 0) hx hb dX8_count_122 (by decide) ?_
              refine lv_goto (tgt := 154) hx hb dX8_count_123 (by decide) ?_
              refine lv_istore (lv' := [(5, .int 0), (4, .int (m_kind V i)), (0, .ref (ad 1000)), (1, .int x), (2, .int a), (3, .int (nI i))]) hx hb dX8_count_154 hl (by decide) rfl (fun ls hl => ?_)
              refine lv_iload_n hx hb dX8_count_156 rfl (lv_at hl 4 rfl) ?_
              refine lv_iload_n hx hb dX8_count_157 rfl (lv_at hl 3 rfl) ?_
              refine lv_bipush (v := 6) hx hb dX8_count_158 (by decide) ?_
              refine lv_icmp_ne (tgt := 175) hx hb dX8_count_160 (by decide) (fun c_160 => ?_) (fun c_160 => ?_)
              · refine lv_iload hx hb dX8_count_175 (lv_at hl 0 rfl) ?_
                refine lv_if_eq (tgt := 184) hx hb dX8_count_177 (by decide) (fun _ => ?_) (fun z9 => absurd z9 (by decide))
                refine lv_iconst (v := 0) hx hb dX8_count_184 (by decide) ?_
                refine lv_iadd hx hb dX8_count_185 ?_
                refine lv_istore_n (lv' := [(2, .int (a + 0)), (5, .int 0), (4, .int (m_kind V i)), (0, .ref (ad 1000)), (1, .int x), (3, .int (nI i))]) hx hb dX8_count_186 rfl hl (by decide) rfl (fun ls hl => ?_)
                refine lv_iinc (v := nI (i + 1)) (lv' := [(3, .int (nI (i + 1))), (2, .int (a + 0)), (5, .int 0), (4, .int (m_kind V i)), (0, .ref (ad 1000)), (1, .int x)]) hx hb dX8_count_187 hl (k := 5) rfl (by rw [show Int32.ofInt 1 = 1 from by decide]; exact nI_1 _) (by decide) rfl (fun ls hl => ?_)
                refine lv_goto (tgt := 67) hx hb dX8_count_190 (by decide) ?_
                exact ih (i + 1) (a + 0) (by omega) (by rw [show a + 0 = m_c1 V x i a from by simp only [m_c1, m_isv, if_neg c_72, if_neg c_84, if_pos c_109, if_neg c_115, if_neg c_160, m_10, ↓reduceIte]]; exact hF) h14 h21 h26 h32 _ _ _ hW hS (lv_sub hl [4, 5, 1, 0] rfl)
              · refine lv_aload_n hx hb dX8_count_163 rfl (lv_at hl 2 rfl) ?_
                refine w_getr (ci := 9) (T := TX8) hx hb hts hin_TX8 hown hK hW hM.1.1 hM.1.2 (by decide) rfl 11 (by decide) (hts (.fieldLink RX8 34 "TownClocksModel" "late" "[I") (by decide +kernel)) (fun _ h9 => h9) rfl (mo_11 hM).2.2.2 dX8_count_164 ?_
                refine lv_iload_n hx hb dX8_count_167 rfl (lv_at hl 5 rfl) ?_
                refine w_ialdN (t := i) hx hb hK hW (mo_11 hM).1 (mo_11 hM).2.1 ⟨by rw [(mo_11 hM).2.2.1]; omega, by omega⟩ dX8_count_168 ?_
                refine w_i (by rw [u2_ne (by decide)]) ?_
                refine w_ci (w_runS ⟨hx, hb, hml, hown, hts⟩ (c_X8_size hxo l D q (u2 V 1000 0 0) J R (V 1011 i) ) hxo (va_cwS 1 hts gX8_count_X8_size rfl rfl rfl (by decide +kernel) ⟨Nat.le_of_ble_eq_true rfl, Nat.le_of_ble_eq_true rfl⟩) hK hW hS hA hXs rfl hl.1 rfl (Nat.le_of_ble_eq_true rfl) dX8_count_169 ⟨Nat.zero_le _, Nat.zero_le _⟩) hW hS hA (fun H locs hW hS => ?_)
                refine lv_goto (tgt := 185) hx hb dX8_count_172 (by decide) ?_
                refine lv_iadd hx hb dX8_count_185 ?_
                refine lv_istore_n (lv' := [(2, .int (a + (m_size (V 1011 i)))), (5, .int 0), (4, .int (m_kind V i)), (0, .ref (ad 1000)), (1, .int x), (3, .int (nI i))]) hx hb dX8_count_186 rfl hl (by decide) rfl (fun ls hl => ?_)
                refine lv_iinc (v := nI (i + 1)) (lv' := [(3, .int (nI (i + 1))), (2, .int (a + (m_size (V 1011 i)))), (5, .int 0), (4, .int (m_kind V i)), (0, .ref (ad 1000)), (1, .int x)]) hx hb dX8_count_187 hl (k := 5) rfl (by rw [show Int32.ofInt 1 = 1 from by decide]; exact nI_1 _) (by decide) rfl (fun ls hl => ?_)
                refine lv_goto (tgt := 67) hx hb dX8_count_190 (by decide) ?_
                exact ih (i + 1) (a + (m_size (V 1011 i))) (by omega) (by rw [show a + (m_size (V 1011 i)) = m_c1 V x i a from by simp only [m_c1, m_isv, if_neg c_72, if_neg c_84, if_pos c_109, if_neg c_115, if_pos c_160, m_10, ↓reduceIte]]; exact hF) h14 h21 h26 h32 _ _ _ hW hS (lv_sub hl [4, 5, 1, 0] rfl)
            · refine lv_iconst (v := 1) hx hb dX8_count_118 (by decide) ?_
              refine lv_goto (tgt := 154) hx hb dX8_count_119 (by decide) ?_
              refine lv_istore (lv' := [(5, .int 1), (4, .int (m_kind V i)), (0, .ref (ad 1000)), (1, .int x), (2, .int a), (3, .int (nI i))]) hx hb dX8_count_154 hl (by decide) rfl (fun ls hl => ?_)
              refine lv_iload_n hx hb dX8_count_156 rfl (lv_at hl 4 rfl) ?_
              refine lv_iload_n hx hb dX8_count_157 rfl (lv_at hl 3 rfl) ?_
              refine lv_bipush (v := 6) hx hb dX8_count_158 (by decide) ?_
              refine lv_icmp_ne (tgt := 175) hx hb dX8_count_160 (by decide) (fun c_160 => ?_) (fun c_160 => ?_)
              · refine lv_iload hx hb dX8_count_175 (lv_at hl 0 rfl) ?_
                refine lv_if_eq (tgt := 184) hx hb dX8_count_177 (by decide) (fun z9 => absurd z9 (by decide)) (fun _ => ?_)
                refine lv_iconst (v := 1) hx hb dX8_count_180 (by decide) ?_
                refine lv_goto (tgt := 185) hx hb dX8_count_181 (by decide) ?_
                refine lv_iadd hx hb dX8_count_185 ?_
                refine lv_istore_n (lv' := [(2, .int (a + 1)), (5, .int 1), (4, .int (m_kind V i)), (0, .ref (ad 1000)), (1, .int x), (3, .int (nI i))]) hx hb dX8_count_186 rfl hl (by decide) rfl (fun ls hl => ?_)
                refine lv_iinc (v := nI (i + 1)) (lv' := [(3, .int (nI (i + 1))), (2, .int (a + 1)), (5, .int 1), (4, .int (m_kind V i)), (0, .ref (ad 1000)), (1, .int x)]) hx hb dX8_count_187 hl (k := 5) rfl (by rw [show Int32.ofInt 1 = 1 from by decide]; exact nI_1 _) (by decide) rfl (fun ls hl => ?_)
                refine lv_goto (tgt := 67) hx hb dX8_count_190 (by decide) ?_
                exact ih (i + 1) (a + 1) (by omega) (by rw [show a + 1 = m_c1 V x i a from by simp only [m_c1, m_isv, if_neg c_72, if_neg c_84, if_pos c_109, if_pos c_115, if_neg c_160, m_10, ↓reduceIte]]; exact hF) h14 h21 h26 h32 _ _ _ hW hS (lv_sub hl [4, 5, 1, 0] rfl)
              · refine lv_aload_n hx hb dX8_count_163 rfl (lv_at hl 2 rfl) ?_
                refine w_getr (ci := 9) (T := TX8) hx hb hts hin_TX8 hown hK hW hM.1.1 hM.1.2 (by decide) rfl 11 (by decide) (hts (.fieldLink RX8 34 "TownClocksModel" "late" "[I") (by decide +kernel)) (fun _ h9 => h9) rfl (mo_11 hM).2.2.2 dX8_count_164 ?_
                refine lv_iload_n hx hb dX8_count_167 rfl (lv_at hl 5 rfl) ?_
                refine w_ialdN (t := i) hx hb hK hW (mo_11 hM).1 (mo_11 hM).2.1 ⟨by rw [(mo_11 hM).2.2.1]; omega, by omega⟩ dX8_count_168 ?_
                refine w_i (by rw [u2_ne (by decide)]) ?_
                refine w_ci (w_runS ⟨hx, hb, hml, hown, hts⟩ (c_X8_size hxo l D q (u2 V 1000 0 0) J R (V 1011 i) ) hxo (va_cwS 1 hts gX8_count_X8_size rfl rfl rfl (by decide +kernel) ⟨Nat.le_of_ble_eq_true rfl, Nat.le_of_ble_eq_true rfl⟩) hK hW hS hA hXs rfl hl.1 rfl (Nat.le_of_ble_eq_true rfl) dX8_count_169 ⟨Nat.zero_le _, Nat.zero_le _⟩) hW hS hA (fun H locs hW hS => ?_)
                refine lv_goto (tgt := 185) hx hb dX8_count_172 (by decide) ?_
                refine lv_iadd hx hb dX8_count_185 ?_
                refine lv_istore_n (lv' := [(2, .int (a + (m_size (V 1011 i)))), (5, .int 1), (4, .int (m_kind V i)), (0, .ref (ad 1000)), (1, .int x), (3, .int (nI i))]) hx hb dX8_count_186 rfl hl (by decide) rfl (fun ls hl => ?_)
                refine lv_iinc (v := nI (i + 1)) (lv' := [(3, .int (nI (i + 1))), (2, .int (a + (m_size (V 1011 i)))), (5, .int 1), (4, .int (m_kind V i)), (0, .ref (ad 1000)), (1, .int x)]) hx hb dX8_count_187 hl (k := 5) rfl (by rw [show Int32.ofInt 1 = 1 from by decide]; exact nI_1 _) (by decide) rfl (fun ls hl => ?_)
                refine lv_goto (tgt := 67) hx hb dX8_count_190 (by decide) ?_
                exact ih (i + 1) (a + (m_size (V 1011 i))) (by omega) (by rw [show a + (m_size (V 1011 i)) = m_c1 V x i a from by simp only [m_c1, m_isv, if_neg c_72, if_neg c_84, if_pos c_109, if_pos c_115, if_pos c_160, m_10, ↓reduceIte]]; exact hF) h14 h21 h26 h32 _ _ _ hW hS (lv_sub hl [4, 5, 1, 0] rfl)
        · refine lv_iload hx hb dX8_count_87 (lv_at hl 0 rfl) ?_
          refine lv_iconst (v := 1) hx hb dX8_count_89 (by decide) ?_
          refine lv_icmp_eq (tgt := 99) hx hb dX8_count_90 (by decide) (fun c_90 => ?_) (fun c_90 => ?_)
          · refine lv_iconst (v := 1) hx hb dX8_count_99 (by decide) ?_
            refine lv_goto (tgt := 154) hx hb dX8_count_100 (by decide) ?_
            refine lv_istore (lv' := [(5, .int 1), (4, .int (m_kind V i)), (0, .ref (ad 1000)), (1, .int x), (2, .int a), (3, .int (nI i))]) hx hb dX8_count_154 hl (by decide) rfl (fun ls hl => ?_)
            refine lv_iload_n hx hb dX8_count_156 rfl (lv_at hl 4 rfl) ?_
            refine lv_iload_n hx hb dX8_count_157 rfl (lv_at hl 3 rfl) ?_
            refine lv_bipush (v := 6) hx hb dX8_count_158 (by decide) ?_
            refine lv_icmp_ne (tgt := 175) hx hb dX8_count_160 (by decide) (fun c_160 => ?_) (fun c_160 => ?_)
            · refine lv_iload hx hb dX8_count_175 (lv_at hl 0 rfl) ?_
              refine lv_if_eq (tgt := 184) hx hb dX8_count_177 (by decide) (fun z9 => absurd z9 (by decide)) (fun _ => ?_)
              refine lv_iconst (v := 1) hx hb dX8_count_180 (by decide) ?_
              refine lv_goto (tgt := 185) hx hb dX8_count_181 (by decide) ?_
              refine lv_iadd hx hb dX8_count_185 ?_
              refine lv_istore_n (lv' := [(2, .int (a + 1)), (5, .int 1), (4, .int (m_kind V i)), (0, .ref (ad 1000)), (1, .int x), (3, .int (nI i))]) hx hb dX8_count_186 rfl hl (by decide) rfl (fun ls hl => ?_)
              refine lv_iinc (v := nI (i + 1)) (lv' := [(3, .int (nI (i + 1))), (2, .int (a + 1)), (5, .int 1), (4, .int (m_kind V i)), (0, .ref (ad 1000)), (1, .int x)]) hx hb dX8_count_187 hl (k := 5) rfl (by rw [show Int32.ofInt 1 = 1 from by decide]; exact nI_1 _) (by decide) rfl (fun ls hl => ?_)
              refine lv_goto (tgt := 67) hx hb dX8_count_190 (by decide) ?_
              exact ih (i + 1) (a + 1) (by omega) (by rw [show a + 1 = m_c1 V x i a from by simp only [m_c1, m_isv, if_neg c_72, if_pos c_84, if_pos c_90, if_neg c_160, m_10, ↓reduceIte]]; exact hF) h14 h21 h26 h32 _ _ _ hW hS (lv_sub hl [4, 5, 1, 0] rfl)
            · refine lv_aload_n hx hb dX8_count_163 rfl (lv_at hl 2 rfl) ?_
              refine w_getr (ci := 9) (T := TX8) hx hb hts hin_TX8 hown hK hW hM.1.1 hM.1.2 (by decide) rfl 11 (by decide) (hts (.fieldLink RX8 34 "TownClocksModel" "late" "[I") (by decide +kernel)) (fun _ h9 => h9) rfl (mo_11 hM).2.2.2 dX8_count_164 ?_
              refine lv_iload_n hx hb dX8_count_167 rfl (lv_at hl 5 rfl) ?_
              refine w_ialdN (t := i) hx hb hK hW (mo_11 hM).1 (mo_11 hM).2.1 ⟨by rw [(mo_11 hM).2.2.1]; omega, by omega⟩ dX8_count_168 ?_
              refine w_i (by rw [u2_ne (by decide)]) ?_
              refine w_ci (w_runS ⟨hx, hb, hml, hown, hts⟩ (c_X8_size hxo l D q (u2 V 1000 0 0) J R (V 1011 i) ) hxo (va_cwS 1 hts gX8_count_X8_size rfl rfl rfl (by decide +kernel) ⟨Nat.le_of_ble_eq_true rfl, Nat.le_of_ble_eq_true rfl⟩) hK hW hS hA hXs rfl hl.1 rfl (Nat.le_of_ble_eq_true rfl) dX8_count_169 ⟨Nat.zero_le _, Nat.zero_le _⟩) hW hS hA (fun H locs hW hS => ?_)
              refine lv_goto (tgt := 185) hx hb dX8_count_172 (by decide) ?_
              refine lv_iadd hx hb dX8_count_185 ?_
              refine lv_istore_n (lv' := [(2, .int (a + (m_size (V 1011 i)))), (5, .int 1), (4, .int (m_kind V i)), (0, .ref (ad 1000)), (1, .int x), (3, .int (nI i))]) hx hb dX8_count_186 rfl hl (by decide) rfl (fun ls hl => ?_)
              refine lv_iinc (v := nI (i + 1)) (lv' := [(3, .int (nI (i + 1))), (2, .int (a + (m_size (V 1011 i)))), (5, .int 1), (4, .int (m_kind V i)), (0, .ref (ad 1000)), (1, .int x)]) hx hb dX8_count_187 hl (k := 5) rfl (by rw [show Int32.ofInt 1 = 1 from by decide]; exact nI_1 _) (by decide) rfl (fun ls hl => ?_)
              refine lv_goto (tgt := 67) hx hb dX8_count_190 (by decide) ?_
              exact ih (i + 1) (a + (m_size (V 1011 i))) (by omega) (by rw [show a + (m_size (V 1011 i)) = m_c1 V x i a from by simp only [m_c1, m_isv, if_neg c_72, if_pos c_84, if_pos c_90, if_pos c_160, m_10, ↓reduceIte]]; exact hF) h14 h21 h26 h32 _ _ _ hW hS (lv_sub hl [4, 5, 1, 0] rfl)
          · refine lv_iload hx hb dX8_count_93 (lv_at hl 0 rfl) ?_
            refine lv_iconst (v := 2) hx hb dX8_count_95 (by decide) ?_
            refine lv_icmp_ne (tgt := 103) hx hb dX8_count_96 (by decide) (fun c_96 => ?_) (fun c_96 => ?_)
            · refine lv_iconst (v := 0) hx hb dX8_count_103 (by decide) ?_
              refine lv_goto (tgt := 154) hx hb dX8_count_104 (by decide) ?_
              refine lv_istore (lv' := [(5, .int 0), (4, .int (m_kind V i)), (0, .ref (ad 1000)), (1, .int x), (2, .int a), (3, .int (nI i))]) hx hb dX8_count_154 hl (by decide) rfl (fun ls hl => ?_)
              refine lv_iload_n hx hb dX8_count_156 rfl (lv_at hl 4 rfl) ?_
              refine lv_iload_n hx hb dX8_count_157 rfl (lv_at hl 3 rfl) ?_
              refine lv_bipush (v := 6) hx hb dX8_count_158 (by decide) ?_
              refine lv_icmp_ne (tgt := 175) hx hb dX8_count_160 (by decide) (fun c_160 => ?_) (fun c_160 => ?_)
              · refine lv_iload hx hb dX8_count_175 (lv_at hl 0 rfl) ?_
                refine lv_if_eq (tgt := 184) hx hb dX8_count_177 (by decide) (fun _ => ?_) (fun z9 => absurd z9 (by decide))
                refine lv_iconst (v := 0) hx hb dX8_count_184 (by decide) ?_
                refine lv_iadd hx hb dX8_count_185 ?_
                refine lv_istore_n (lv' := [(2, .int (a + 0)), (5, .int 0), (4, .int (m_kind V i)), (0, .ref (ad 1000)), (1, .int x), (3, .int (nI i))]) hx hb dX8_count_186 rfl hl (by decide) rfl (fun ls hl => ?_)
                refine lv_iinc (v := nI (i + 1)) (lv' := [(3, .int (nI (i + 1))), (2, .int (a + 0)), (5, .int 0), (4, .int (m_kind V i)), (0, .ref (ad 1000)), (1, .int x)]) hx hb dX8_count_187 hl (k := 5) rfl (by rw [show Int32.ofInt 1 = 1 from by decide]; exact nI_1 _) (by decide) rfl (fun ls hl => ?_)
                refine lv_goto (tgt := 67) hx hb dX8_count_190 (by decide) ?_
                exact ih (i + 1) (a + 0) (by omega) (by rw [show a + 0 = m_c1 V x i a from by simp only [m_c1, m_isv, if_neg c_72, if_pos c_84, if_neg c_90, if_neg c_96, if_neg c_160, m_10, ↓reduceIte]]; exact hF) h14 h21 h26 h32 _ _ _ hW hS (lv_sub hl [4, 5, 1, 0] rfl)
              · refine lv_aload_n hx hb dX8_count_163 rfl (lv_at hl 2 rfl) ?_
                refine w_getr (ci := 9) (T := TX8) hx hb hts hin_TX8 hown hK hW hM.1.1 hM.1.2 (by decide) rfl 11 (by decide) (hts (.fieldLink RX8 34 "TownClocksModel" "late" "[I") (by decide +kernel)) (fun _ h9 => h9) rfl (mo_11 hM).2.2.2 dX8_count_164 ?_
                refine lv_iload_n hx hb dX8_count_167 rfl (lv_at hl 5 rfl) ?_
                refine w_ialdN (t := i) hx hb hK hW (mo_11 hM).1 (mo_11 hM).2.1 ⟨by rw [(mo_11 hM).2.2.1]; omega, by omega⟩ dX8_count_168 ?_
                refine w_i (by rw [u2_ne (by decide)]) ?_
                refine w_ci (w_runS ⟨hx, hb, hml, hown, hts⟩ (c_X8_size hxo l D q (u2 V 1000 0 0) J R (V 1011 i) ) hxo (va_cwS 1 hts gX8_count_X8_size rfl rfl rfl (by decide +kernel) ⟨Nat.le_of_ble_eq_true rfl, Nat.le_of_ble_eq_true rfl⟩) hK hW hS hA hXs rfl hl.1 rfl (Nat.le_of_ble_eq_true rfl) dX8_count_169 ⟨Nat.zero_le _, Nat.zero_le _⟩) hW hS hA (fun H locs hW hS => ?_)
                refine lv_goto (tgt := 185) hx hb dX8_count_172 (by decide) ?_
                refine lv_iadd hx hb dX8_count_185 ?_
                refine lv_istore_n (lv' := [(2, .int (a + (m_size (V 1011 i)))), (5, .int 0), (4, .int (m_kind V i)), (0, .ref (ad 1000)), (1, .int x), (3, .int (nI i))]) hx hb dX8_count_186 rfl hl (by decide) rfl (fun ls hl => ?_)
                refine lv_iinc (v := nI (i + 1)) (lv' := [(3, .int (nI (i + 1))), (2, .int (a + (m_size (V 1011 i)))), (5, .int 0), (4, .int (m_kind V i)), (0, .ref (ad 1000)), (1, .int x)]) hx hb dX8_count_187 hl (k := 5) rfl (by rw [show Int32.ofInt 1 = 1 from by decide]; exact nI_1 _) (by decide) rfl (fun ls hl => ?_)
                refine lv_goto (tgt := 67) hx hb dX8_count_190 (by decide) ?_
                exact ih (i + 1) (a + (m_size (V 1011 i))) (by omega) (by rw [show a + (m_size (V 1011 i)) = m_c1 V x i a from by simp only [m_c1, m_isv, if_neg c_72, if_pos c_84, if_neg c_90, if_neg c_96, if_pos c_160, m_10, ↓reduceIte]]; exact hF) h14 h21 h26 h32 _ _ _ hW hS (lv_sub hl [4, 5, 1, 0] rfl)
            · refine lv_iconst (v := 1) hx hb dX8_count_99 (by decide) ?_
              refine lv_goto (tgt := 154) hx hb dX8_count_100 (by decide) ?_
              refine lv_istore (lv' := [(5, .int 1), (4, .int (m_kind V i)), (0, .ref (ad 1000)), (1, .int x), (2, .int a), (3, .int (nI i))]) hx hb dX8_count_154 hl (by decide) rfl (fun ls hl => ?_)
              refine lv_iload_n hx hb dX8_count_156 rfl (lv_at hl 4 rfl) ?_
              refine lv_iload_n hx hb dX8_count_157 rfl (lv_at hl 3 rfl) ?_
              refine lv_bipush (v := 6) hx hb dX8_count_158 (by decide) ?_
              refine lv_icmp_ne (tgt := 175) hx hb dX8_count_160 (by decide) (fun c_160 => ?_) (fun c_160 => ?_)
              · refine lv_iload hx hb dX8_count_175 (lv_at hl 0 rfl) ?_
                refine lv_if_eq (tgt := 184) hx hb dX8_count_177 (by decide) (fun z9 => absurd z9 (by decide)) (fun _ => ?_)
                refine lv_iconst (v := 1) hx hb dX8_count_180 (by decide) ?_
                refine lv_goto (tgt := 185) hx hb dX8_count_181 (by decide) ?_
                refine lv_iadd hx hb dX8_count_185 ?_
                refine lv_istore_n (lv' := [(2, .int (a + 1)), (5, .int 1), (4, .int (m_kind V i)), (0, .ref (ad 1000)), (1, .int x), (3, .int (nI i))]) hx hb dX8_count_186 rfl hl (by decide) rfl (fun ls hl => ?_)
                refine lv_iinc (v := nI (i + 1)) (lv' := [(3, .int (nI (i + 1))), (2, .int (a + 1)), (5, .int 1), (4, .int (m_kind V i)), (0, .ref (ad 1000)), (1, .int x)]) hx hb dX8_count_187 hl (k := 5) rfl (by rw [show Int32.ofInt 1 = 1 from by decide]; exact nI_1 _) (by decide) rfl (fun ls hl => ?_)
                refine lv_goto (tgt := 67) hx hb dX8_count_190 (by decide) ?_
                exact ih (i + 1) (a + 1) (by omega) (by rw [show a + 1 = m_c1 V x i a from by simp only [m_c1, m_isv, if_neg c_72, if_pos c_84, if_neg c_90, if_pos c_96, if_neg c_160, m_10, ↓reduceIte]]; exact hF) h14 h21 h26 h32 _ _ _ hW hS (lv_sub hl [4, 5, 1, 0] rfl)
              · refine lv_aload_n hx hb dX8_count_163 rfl (lv_at hl 2 rfl) ?_
                refine w_getr (ci := 9) (T := TX8) hx hb hts hin_TX8 hown hK hW hM.1.1 hM.1.2 (by decide) rfl 11 (by decide) (hts (.fieldLink RX8 34 "TownClocksModel" "late" "[I") (by decide +kernel)) (fun _ h9 => h9) rfl (mo_11 hM).2.2.2 dX8_count_164 ?_
                refine lv_iload_n hx hb dX8_count_167 rfl (lv_at hl 5 rfl) ?_
                refine w_ialdN (t := i) hx hb hK hW (mo_11 hM).1 (mo_11 hM).2.1 ⟨by rw [(mo_11 hM).2.2.1]; omega, by omega⟩ dX8_count_168 ?_
                refine w_i (by rw [u2_ne (by decide)]) ?_
                refine w_ci (w_runS ⟨hx, hb, hml, hown, hts⟩ (c_X8_size hxo l D q (u2 V 1000 0 0) J R (V 1011 i) ) hxo (va_cwS 1 hts gX8_count_X8_size rfl rfl rfl (by decide +kernel) ⟨Nat.le_of_ble_eq_true rfl, Nat.le_of_ble_eq_true rfl⟩) hK hW hS hA hXs rfl hl.1 rfl (Nat.le_of_ble_eq_true rfl) dX8_count_169 ⟨Nat.zero_le _, Nat.zero_le _⟩) hW hS hA (fun H locs hW hS => ?_)
                refine lv_goto (tgt := 185) hx hb dX8_count_172 (by decide) ?_
                refine lv_iadd hx hb dX8_count_185 ?_
                refine lv_istore_n (lv' := [(2, .int (a + (m_size (V 1011 i)))), (5, .int 1), (4, .int (m_kind V i)), (0, .ref (ad 1000)), (1, .int x), (3, .int (nI i))]) hx hb dX8_count_186 rfl hl (by decide) rfl (fun ls hl => ?_)
                refine lv_iinc (v := nI (i + 1)) (lv' := [(3, .int (nI (i + 1))), (2, .int (a + (m_size (V 1011 i)))), (5, .int 1), (4, .int (m_kind V i)), (0, .ref (ad 1000)), (1, .int x)]) hx hb dX8_count_187 hl (k := 5) rfl (by rw [show Int32.ofInt 1 = 1 from by decide]; exact nI_1 _) (by decide) rfl (fun ls hl => ?_)
                refine lv_goto (tgt := 67) hx hb dX8_count_190 (by decide) ?_
                exact ih (i + 1) (a + (m_size (V 1011 i))) (by omega) (by rw [show a + (m_size (V 1011 i)) = m_c1 V x i a from by simp only [m_c1, m_isv, if_neg c_72, if_pos c_84, if_neg c_90, if_pos c_96, if_pos c_160, m_10, ↓reduceIte]]; exact hF) h14 h21 h26 h32 _ _ _ hW hS (lv_sub hl [4, 5, 1, 0] rfl)
  refine lv_aload_n hx hb dX8_count_0 rfl (lv_at hl 0 rfl) ?_
  refine lv_iconst (v := 0) hx hb dX8_count_1 (by decide) ?_
  refine w_puti (ci := 9) (T := TX8) (ty := .int) hx hb hts hin_TX8 tyX8 tyX8_ok nmX8 hown hK hW hS hM.1.1 hM.1.2 (by decide) rfl 0 (by decide) (hts (.fieldLink RX8 95 "TownClocksModel" "thrown" "I") (by decide +kernel)) (fun _ h9 => h9) rfl (tyX8_ok 0 (by decide)) rfl rfl (Nat.le_of_ble_eq_true rfl) rfl dX8_count_2 (fun H locs hW hS => ?_)
  refine lv_iload_n hx hb dX8_count_5 rfl (lv_at hl 1 rfl) ?_
  refine lv_i2l hx hb dX8_count_6 rfl ?_
  refine lv_lconst (v := 0) hx hb dX8_count_7 (by decide) ?_
  refine lv_ldc2 (v := 7) hx hb hown (hts (.constantLong RX8 278 (7)) (by decide +kernel)) dX8_count_8 ?_
  refine w_ci (w_runS ⟨hx, hb, hml, hown, hts⟩ (c_X8_in hxo l D q (u2 V 1000 0 0) J R x.toInt64 0 7 ) hxo (va_cwS 3 hts gX8_count_X8_in rfl rfl rfl (by decide +kernel) ⟨Nat.le_of_ble_eq_true rfl, Nat.le_of_ble_eq_true rfl⟩) hK hW hS hA hXs rfl hl.1 rfl (Nat.le_of_ble_eq_true rfl) dX8_count_11 ⟨Nat.zero_le _, Nat.zero_le _⟩) hW hS hA (fun H locs hW hS => ?_)
  refine w_i (bz_iff (wid_l (c := 0) (d := 7) (by decide) (by decide))) ?_
  refine w_ifnz (tgt := 20) hx hb dX8_count_14 (by decide) (fun c_14 => ?_) (fun c_14 => ?_)
  · refine lv_iload_n hx hb dX8_count_20 rfl (lv_at hl 1 rfl) ?_
    refine lv_if_eq (tgt := 35) hx hb dX8_count_21 (by decide) (fun c_21 => ?_) (fun c_21 => ?_)
    · refine lv_iload_n hx hb dX8_count_35 rfl (lv_at hl 1 rfl) ?_
      refine lv_if_ne (tgt := 46) hx hb dX8_count_36 (by decide) (fun c_36 => ?_) (fun c_36 => ?_)
      · exact absurd c_21 c_36
      · refine lv_aload_n hx hb dX8_count_39 rfl (lv_at hl 0 rfl) ?_
        refine w_get (ci := 9) (T := TX8) hx hb hts hin_TX8 hown hK hW hM.1.1 hM.1.2 (by decide) rfl 1 (by decide) (hts (.fieldLink RX8 99 "TownClocksModel" "pipes" "I") (by decide +kernel)) (fun _ h9 => h9) rfl dX8_count_40 ?_
        refine w_i (by rw [u2_sn (by decide)]) ?_
        refine lv_goto (tgt := 62) hx hb dX8_count_43 (by decide) ?_
        exact w_iret hx hb hr hlk hW hS (by simp only [m_count, if_pos c_14, if_pos c_21, if_pos c_36]) rfl rfl rfl dX8_count_62
    · refine lv_iload_n hx hb dX8_count_24 rfl (lv_at hl 1 rfl) ?_
      refine lv_iconst (v := 1) hx hb dX8_count_25 (by decide) ?_
      refine lv_icmp_eq (tgt := 35) hx hb dX8_count_26 (by decide) (fun c_26 => ?_) (fun c_26 => ?_)
      · refine lv_iload_n hx hb dX8_count_35 rfl (lv_at hl 1 rfl) ?_
        refine lv_if_ne (tgt := 46) hx hb dX8_count_36 (by decide) (fun c_36 => ?_) (fun c_36 => ?_)
        · refine lv_iload_n hx hb dX8_count_46 rfl (lv_at hl 1 rfl) ?_
          refine lv_iconst (v := 1) hx hb dX8_count_47 (by decide) ?_
          refine lv_icmp_ne (tgt := 58) hx hb dX8_count_48 (by decide) (fun c_48 => ?_) (fun c_48 => ?_)
          · exact absurd c_26 c_48
          · refine lv_aload_n hx hb dX8_count_51 rfl (lv_at hl 0 rfl) ?_
            refine w_get (ci := 9) (T := TX8) hx hb hts hin_TX8 hown hK hW hM.1.1 hM.1.2 (by decide) rfl 7 (by decide) (hts (.fieldLink RX8 128 "TownClocksModel" "dials" "I") (by decide +kernel)) (fun _ h9 => h9) rfl dX8_count_52 ?_
            refine w_i (by rw [u2_sn (by decide)]) ?_
            refine lv_goto (tgt := 62) hx hb dX8_count_55 (by decide) ?_
            exact w_iret hx hb hr hlk hW hS (by simp only [m_count, if_pos c_14, if_neg c_21, if_pos c_26, if_neg c_36, if_pos c_48]) rfl rfl rfl dX8_count_62
        · exact absurd c_36 c_21
      · refine lv_iload_n hx hb dX8_count_29 rfl (lv_at hl 1 rfl) ?_
        refine lv_bipush (v := 7) hx hb dX8_count_30 (by decide) ?_
        refine lv_icmp_ne (tgt := 63) hx hb dX8_count_32 (by decide) (fun c_32 => ?_) (fun c_32 => ?_)
        · refine lv_iconst (v := 0) hx hb dX8_count_63 (by decide) ?_
          refine lv_istore_n (lv' := [(2, .int 0), (0, .ref (ad 1000)), (1, .int x)]) hx hb dX8_count_64 rfl hl (by decide) rfl (fun ls hl => ?_)
          refine lv_iconst (v := 0) hx hb dX8_count_65 (by decide) ?_
          refine lv_istore_n (lv' := [(3, .int 0), (2, .int 0), (0, .ref (ad 1000)), (1, .int x)]) hx hb dX8_count_66 rfl hl (by decide) rfl (fun ls hl => ?_)
          exact JL nD 0 0 (by omega) hRV.symm c_14 c_21 c_26 c_32 _ _ _ hW hS (lv_sub hl [2, 3, 1, 0] rfl)
        · refine lv_iload_n hx hb dX8_count_35 rfl (lv_at hl 1 rfl) ?_
          refine lv_if_ne (tgt := 46) hx hb dX8_count_36 (by decide) (fun c_36 => ?_) (fun c_36 => ?_)
          · refine lv_iload_n hx hb dX8_count_46 rfl (lv_at hl 1 rfl) ?_
            refine lv_iconst (v := 1) hx hb dX8_count_47 (by decide) ?_
            refine lv_icmp_ne (tgt := 58) hx hb dX8_count_48 (by decide) (fun c_48 => ?_) (fun c_48 => ?_)
            · refine lv_aload_n hx hb dX8_count_58 rfl (lv_at hl 0 rfl) ?_
              refine w_get (ci := 9) (T := TX8) hx hb hts hin_TX8 hown hK hW hM.1.1 hM.1.2 (by decide) rfl 32 (by decide) (hts (.fieldLink RX8 191 "TownClocksModel" "taped" "I") (by decide +kernel)) (fun _ h9 => h9) rfl dX8_count_59 ?_
              refine w_i (by rw [u2_sn (by decide)]) ?_
              exact w_iret hx hb hr hlk hW hS (by simp only [m_count, if_pos c_14, if_neg c_21, if_neg c_26, if_pos c_32, if_neg c_36, if_neg c_48]) rfl rfl rfl dX8_count_62
            · exact absurd c_48 c_26
          · exact absurd c_36 c_21
  · refine lv_ldc (v := -1000001) hx hb hown (hts (.constant RX8 115 (-1000001)) (by decide +kernel)) dX8_count_17 ?_
    exact w_iret hx hb hr hlk hW hS (by first | rfl | (simp only [m_count, if_neg c_14, c_14, ↓reduceIte]; done) | simp [bz, m_count, if_neg c_14, c_14]) rfl rfl rfl dX8_count_19
set_option maxHeartbeats 4000000 in
set_option maxRecDepth 100000 in
theorem c_X8_feed {X : (Nat → Prop) → State → Prop} (hxo : xok X) (l : Launch) (D : va_G) (q : Cq) {dm : List Nat} {kd ln ad : Nat → Nat} (V : Mv) (J : Mj) (R : Mr) (nP nD : Nat) (w : Int64) (n : Int32) (L : Nat) (hM : okM dm kd ln R) (hmp : V 1000 1 = nI nP) (hnP : nP ≤ 30) (hmq : V 1000 7 = nI nD) (hnD : nD ≤ 40) (hL : V 1000 32 = nI L) (hL3 : L ≤ 300) : CtI X l yX8_feed wsX8_feed ({ frames := 1, cells := 0, slots := 0, locals := 25 }) D q dm kd ln ad V J R [.ref (ad 1000), .long w, .int n] (m_feed V n w L) (m_feedV V n w L) (J) (R) := by
  refine CtI_of (cc := cX8_feed) (maxL := 5) (ret := (some .int)) (by decide +kernel) rfl (Nat.le_of_ble_eq_true rfl) ?_
  intro p e s m below meth c A hx hb hr hml hts hown hlk hmn hK hW hA hXs ls hl
  have hS : va_S A s.heap s.heap [] := va_S.rf
  have hl : lv_has ls 5 [(0, .ref (ad 1000)), (1, .long w), (3, .int n)] := hl
  have hin_TX8 : ∀ w ∈ u_ws RX8 TX8 48, w ∈ wsX8_feed := by decide +kernel
  obtain ⟨F, hFe⟩ : ∃ r, r = m_app w n.toNatClampNeg L (u2 V 1000 0 0) := ⟨_, rfl⟩
  have JL : ∀ k : Nat, ∀ (t : Nat) (Vw : Mv) (y : Int32) (hy : y = nI k - 1) (hn : t + k = L + n.toNatClampNeg) (hLw : Vw 1000 32 = nI t) (hF : m_app w k t Vw = F) (hle : L + n.toNatClampNeg ≤ 300) (hc1 : 1 ≤ n ∧ n ≤ 8) (hc2 : V 1000 32 + n ≤ 300) (H : Heap) (locs : List Loc) (ls : Array Slot), wok A D q dm kd ln ad Vw J R H → va_S A s.heap H locs → lv_has ls 5 [(0, .ref (ad 1000)), (1, .long w), (4, .int y)] → W p l e ({ frames := 1, cells := 0, slots := 0, locals := 25 }) s m ([.ref (ad 1000), .long w, .int n] : List Value).toArray below meth c H locs 0 0 (MQ below (QI (m_feed V n w L) D q dm kd ln ad (m_feedV V n w L) (J) (R) A) ([.ref (ad 1000), .long w, .int n] : List Value).toArray s 0 0 A) (F0 m 40 ls []) := by
    intro k
    induction k with
    | zero =>
      intro t Vw y hy hn hLw hF hle hc1 hc2 H locs ls hW hS hl
      refine lv_iload hx hb dX8_feed_40 (lv_at hl 2 rfl) ?_
      refine lv_if_lt (tgt := 82) hx hb dX8_feed_42 (by decide) (fun c_42 => ?_) (fun c_42 => ?_)
      · refine lv_aload_n hx hb dX8_feed_82 rfl (lv_at hl 0 rfl) ?_
        refine w_get (ci := 9) (T := TX8) hx hb hts hin_TX8 hown hK hW hM.1.1 hM.1.2 (by decide) rfl 32 (by decide) (hts (.fieldLink RX8 191 "TownClocksModel" "taped" "I") (by decide +kernel)) (fun _ h9 => h9) rfl dX8_feed_83 ?_
        exact w_iret hx hb hr hlk hW hS (by rw [m_feed, if_pos hc1, if_pos hc2, ← hFe, ← hF]; rfl) (by rw [m_feedV, if_pos hc1, if_pos hc2, ← hFe, ← hF]; rfl) rfl rfl dX8_feed_86
      · exact absurd (by rw [hy]; decide) c_42
    | succ k ih =>
      intro t Vw y hy hn hLw hF hle hc1 hc2 H locs ls hW hS hl
      have hy2 : y = nI k := by rw [hy, nI_pred]
      subst hy2
      refine lv_iload hx hb dX8_feed_40 (lv_at hl 2 rfl) ?_
      refine lv_if_lt (tgt := 82) hx hb dX8_feed_42 (by decide) (fun c_42 => ?_) (fun c_42 => ?_)
      · exact absurd c_42 (nI_pos (by omega))
      · refine lv_aload_n hx hb dX8_feed_45 rfl (lv_at hl 0 rfl) ?_
        refine w_getr (ci := 9) (T := TX8) hx hb hts hin_TX8 hown hK hW hM.1.1 hM.1.2 (by decide) rfl 31 (by decide) (hts (.fieldLink RX8 77 "TownClocksModel" "tape" "[I") (by decide +kernel)) (fun _ h9 => h9) rfl (mo_31 hM).2.2.2 dX8_feed_46 ?_
        refine lv_aload_n hx hb dX8_feed_49 rfl (lv_at hl 0 rfl) ?_
        refine w_get (ci := 9) (T := TX8) hx hb hts hin_TX8 hown hK hW hM.1.1 hM.1.2 (by decide) rfl 32 (by decide) (hts (.fieldLink RX8 191 "TownClocksModel" "taped" "I") (by decide +kernel)) (fun _ h9 => h9) rfl dX8_feed_50 ?_
        refine w_i hLw ?_
        refine lv_lload_n hx hb dX8_feed_53 rfl (lv_at hl 1 rfl) ?_
        refine lv_bipush (v := 8) hx hb dX8_feed_54 (by decide) ?_
        refine lv_iload hx hb dX8_feed_56 (lv_at hl 2 rfl) ?_
        refine lv_imul hx hb dX8_feed_58 ?_
        refine lv_lshr hx hb dX8_feed_59 rfl ?_
        refine lv_ldc2 (v := 255) hx hb hown (hts (.constantLong RX8 194 (255)) (by decide +kernel)) dX8_feed_60 ?_
        refine lv_land hx hb dX8_feed_63 ?_
        refine lv_l2i hx hb dX8_feed_64 rfl ?_
        refine w_iastN (t := t) hx hb hK hW hS (mo_31 hM).1 (mo_31 hM).2.1 ⟨by rw [(mo_31 hM).2.2.1]; omega, by omega⟩ dX8_feed_65 (fun H locs hW hS => ?_)
        refine lv_aload_n hx hb dX8_feed_66 rfl (lv_at hl 0 rfl) ?_
        refine lv_dup hx hb dX8_feed_67 rfl ?_
        refine w_get (ci := 9) (T := TX8) hx hb hts hin_TX8 hown hK hW hM.1.1 hM.1.2 (by decide) rfl 32 (by decide) (hts (.fieldLink RX8 191 "TownClocksModel" "taped" "I") (by decide +kernel)) (fun _ h9 => h9) rfl dX8_feed_68 ?_
        refine w_i (by rw [u2_ne (by decide)]) ?_
        refine w_i hLw ?_
        refine lv_iconst (v := 1) hx hb dX8_feed_71 (by decide) ?_
        refine lv_iadd hx hb dX8_feed_72 ?_
        refine w_puti (ci := 9) (T := TX8) (ty := .int) hx hb hts hin_TX8 tyX8 tyX8_ok nmX8 hown hK hW hS hM.1.1 hM.1.2 (by decide) rfl 32 (by decide) (hts (.fieldLink RX8 191 "TownClocksModel" "taped" "I") (by decide +kernel)) (fun _ h9 => h9) rfl (tyX8_ok 32 (by decide)) rfl rfl (Nat.le_of_ble_eq_true rfl) rfl dX8_feed_73 (fun H locs hW hS => ?_)
        refine lv_iinc (v := (nI k) + (-1)) (lv' := [(4, .int ((nI k) + (-1))), (0, .ref (ad 1000)), (1, .long w)]) hx hb dX8_feed_76 hl (k := 2) rfl rfl (by decide) rfl (fun ls hl => ?_)
        refine lv_goto (tgt := 40) hx hb dX8_feed_79 (by decide) ?_
        exact ih (t + 1) _ _ (ap_neg _) (by omega) (by rw [u2_ss, nI_1]) hF hle hc1 hc2 _ _ _ hW hS (lv_sub hl [1, 2, 0] rfl)
  refine lv_aload_n hx hb dX8_feed_0 rfl (lv_at hl 0 rfl) ?_
  refine lv_iconst (v := 0) hx hb dX8_feed_1 (by decide) ?_
  refine w_puti (ci := 9) (T := TX8) (ty := .int) hx hb hts hin_TX8 tyX8 tyX8_ok nmX8 hown hK hW hS hM.1.1 hM.1.2 (by decide) rfl 0 (by decide) (hts (.fieldLink RX8 95 "TownClocksModel" "thrown" "I") (by decide +kernel)) (fun _ h9 => h9) rfl (tyX8_ok 0 (by decide)) rfl rfl (Nat.le_of_ble_eq_true rfl) rfl dX8_feed_2 (fun H locs hW hS => ?_)
  refine lv_iload_n hx hb dX8_feed_5 rfl (lv_at hl 2 rfl) ?_
  refine lv_i2l hx hb dX8_feed_6 rfl ?_
  refine lv_lconst (v := 1) hx hb dX8_feed_7 (by decide) ?_
  refine lv_ldc2 (v := 8) hx hb hown (hts (.constantLong RX8 189 (8)) (by decide +kernel)) dX8_feed_8 ?_
  refine w_ci (w_runS ⟨hx, hb, hml, hown, hts⟩ (c_X8_in hxo l D q (u2 V 1000 0 0) J R n.toInt64 1 8 ) hxo (va_cwS 3 hts gX8_feed_X8_in rfl rfl rfl (by decide +kernel) ⟨Nat.le_of_ble_eq_true rfl, Nat.le_of_ble_eq_true rfl⟩) hK hW hS hA hXs rfl hl.1 rfl (Nat.le_of_ble_eq_true rfl) dX8_feed_11 ⟨Nat.zero_le _, Nat.zero_le _⟩) hW hS hA (fun H locs hW hS => ?_)
  refine w_i (bz_iff (wid_l (c := 1) (d := 8) (by decide) (by decide))) ?_
  refine w_ifnz (tgt := 20) hx hb dX8_feed_14 (by decide) (fun c_14 => ?_) (fun c_14 => ?_)
  · refine lv_aload_n hx hb dX8_feed_20 rfl (lv_at hl 0 rfl) ?_
    refine w_get (ci := 9) (T := TX8) hx hb hts hin_TX8 hown hK hW hM.1.1 hM.1.2 (by decide) rfl 32 (by decide) (hts (.fieldLink RX8 191 "TownClocksModel" "taped" "I") (by decide +kernel)) (fun _ h9 => h9) rfl dX8_feed_21 ?_
    refine w_i (by rw [u2_sn (by decide)]) ?_
    refine lv_iload_n hx hb dX8_feed_24 rfl (lv_at hl 2 rfl) ?_
    refine lv_iadd hx hb dX8_feed_25 ?_
    refine lv_sipush (v := 300) hx hb dX8_feed_26 (by decide) ?_
    refine lv_icmp_le (tgt := 35) hx hb dX8_feed_29 (by decide) (fun c_29 => ?_) (fun c_29 => ?_)
    · have hnx : inx 9 n := by have h1 := Int32.le_iff_toInt_le.mp c_14.1; have h2 := Int32.le_iff_toInt_le.mp c_14.2; have e1 : (1 : Int32).toInt = 1 := (by decide); have e2 : (8 : Int32).toInt = 8 := (by decide); exact ⟨by omega, by show _ < ((9 : Nat) : Int); omega⟩
      have hle : L + n.toNatClampNeg ≤ 300 := by have h := c_29; rw [hL, inx_e hnx, nI_add] at h; exact (nI_leI (b := 300) (by have := (inx_c hnx).1; omega) (by decide)).mp h
      refine lv_iload_n hx hb dX8_feed_35 rfl (lv_at hl 2 rfl) ?_
      refine lv_iconst (v := 1) hx hb dX8_feed_36 (by decide) ?_
      refine lv_isub hx hb dX8_feed_37 ?_
      refine lv_istore (lv' := [(4, .int (n - 1)), (0, .ref (ad 1000)), (1, .long w), (3, .int n)]) hx hb dX8_feed_38 hl (by decide) rfl (fun ls hl => ?_)
      exact JL n.toNatClampNeg L (u2 V 1000 0 0) _ (by rw [← inx_e hnx]) (by omega) hL hFe.symm hle c_14 c_29 _ _ _ hW hS (lv_sub hl [1, 2, 0] rfl)
    · refine lv_ldc (v := -1000003) hx hb hown (hts (.constant RX8 116 (-1000003)) (by decide +kernel)) dX8_feed_32 ?_
      exact w_iret hx hb hr hlk hW hS (by first | rfl | (simp only [m_feed, m_feedV, if_pos c_14, if_neg c_29, c_14, c_29, ↓reduceIte]; done) | simp [bz, m_feed, m_feedV, if_pos c_14, if_neg c_29, c_14, c_29]) (by first | rfl | (simp only [m_feed, m_feedV, if_pos c_14, if_neg c_29, c_14, c_29, ↓reduceIte]; done) | simp [bz, m_feed, m_feedV, if_pos c_14, if_neg c_29, c_14, c_29]) rfl rfl dX8_feed_34
  · refine lv_ldc (v := -1000001) hx hb hown (hts (.constant RX8 115 (-1000001)) (by decide +kernel)) dX8_feed_17 ?_
    exact w_iret hx hb hr hlk hW hS (by first | rfl | (simp only [m_feed, m_feedV, if_neg c_14, c_14, ↓reduceIte]; done) | simp [bz, m_feed, m_feedV, if_neg c_14, c_14]) (by first | rfl | (simp only [m_feed, m_feedV, if_neg c_14, c_14, ↓reduceIte]; done) | simp [bz, m_feed, m_feedV, if_neg c_14, c_14]) rfl rfl dX8_feed_19
set_option maxHeartbeats 4000000 in
set_option maxRecDepth 100000 in
theorem c_X8_pipe {X : (Nat → Prop) → State → Prop} (hxo : xok X) (l : Launch) (D : va_G) (q : Cq) {dm : List Nat} {kd ln ad : Nat → Nat} (V : Mv) (J : Mj) (R : Mr) (nP nD : Nat) (x lo2 t : Int32) (hM : okM dm kd ln R) (hmp : V 1000 1 = nI nP) (hnP : nP ≤ 30) (hmq : V 1000 7 = nI nD) (hnD : nD ≤ 40)  : CtI X l yX8_pipe wsX8_pipe ({ frames := 2, cells := 0, slots := 0, locals := 46 }) D q dm kd ln ad V J R [.ref (ad 1000), .int x, .int lo2, .int t] (m_pipe V nP x lo2 t) (m_pipeV V nP x lo2 t) (J) (R) := by
  refine CtI_of (cc := cX8_pipe) (maxL := 4) (ret := (some .int)) (by decide +kernel) rfl (Nat.le_of_ble_eq_true rfl) ?_
  intro p e s m below meth c A hx hb hr hml hts hown hlk hmn hK hW hA hXs ls hl
  have hS : va_S A s.heap s.heap [] := va_S.rf
  have hl : lv_has ls 4 [(0, .ref (ad 1000)), (1, .int x), (2, .int lo2), (3, .int t)] := hl
  have hin_TX8 : ∀ w ∈ u_ws RX8 TX8 48, w ∈ wsX8_pipe := by decide +kernel
  refine lv_aload_n hx hb dX8_pipe_0 rfl (lv_at hl 0 rfl) ?_
  refine lv_iconst (v := 0) hx hb dX8_pipe_1 (by decide) ?_
  refine w_puti (ci := 9) (T := TX8) (ty := .int) hx hb hts hin_TX8 tyX8 tyX8_ok nmX8 hown hK hW hS hM.1.1 hM.1.2 (by decide) rfl 0 (by decide) (hts (.fieldLink RX8 95 "TownClocksModel" "thrown" "I") (by decide +kernel)) (fun _ h9 => h9) rfl (tyX8_ok 0 (by decide)) rfl rfl (Nat.le_of_ble_eq_true rfl) rfl dX8_pipe_2 (fun H locs hW hS => ?_)
  refine lv_iload_n hx hb dX8_pipe_5 rfl (lv_at hl 1 rfl) ?_
  refine lv_ldc (v := -1000000) hx hb hown (hts (.constant RX8 106 (-1000000)) (by decide +kernel)) dX8_pipe_6 ?_
  refine lv_icmp_eq (tgt := 19) hx hb dX8_pipe_8 (by decide) (fun c_8 => ?_) (fun c_8 => ?_)
  · refine lv_iload_n hx hb dX8_pipe_19 rfl (lv_at hl 2 rfl) ?_
    refine lv_i2l hx hb dX8_pipe_20 rfl ?_
    refine lv_lconst (v := 0) hx hb dX8_pipe_21 (by decide) ?_
    refine lv_ldc2 (v := 50) hx hb hown (hts (.constantLong RX8 111 (50)) (by decide +kernel)) dX8_pipe_22 ?_
    refine w_ci (w_runS ⟨hx, hb, hml, hown, hts⟩ (c_X8_in hxo l D q (u2 V 1000 0 0) J R lo2.toInt64 0 50 ) hxo (va_cwS 3 hts gX8_pipe_X8_in rfl rfl rfl (by decide +kernel) ⟨Nat.le_of_ble_eq_true rfl, Nat.le_of_ble_eq_true rfl⟩) hK hW hS hA hXs rfl hl.1 rfl (Nat.le_of_ble_eq_true rfl) dX8_pipe_25 ⟨Nat.zero_le _, Nat.zero_le _⟩) hW hS hA (fun H locs hW hS => ?_)
    refine w_i (bz_iff (wid_l (c := 0) (d := 50) (by decide) (by decide))) ?_
    refine w_ifz (tgt := 43) hx hb dX8_pipe_28 (by decide) (fun c_28 => ?_) (fun c_28 => ?_)
    · refine lv_ldc (v := -1000001) hx hb hown (hts (.constant RX8 115 (-1000001)) (by decide +kernel)) dX8_pipe_43 ?_
      exact w_iret hx hb hr hlk hW hS (by first | rfl | (simp only [m_pipe, m_pipeV, m_pcore, m_pcoreV, if_pos c_8, if_neg c_28, c_8, c_28, ↓reduceIte]; done) | simp [bz, m_pipe, m_pipeV, m_pcore, m_pcoreV, if_pos c_8, if_neg c_28, c_8, c_28]) (by first | rfl | (simp only [m_pipe, m_pipeV, m_pcore, m_pcoreV, if_pos c_8, if_neg c_28, c_8, c_28, ↓reduceIte]; done) | simp [bz, m_pipe, m_pipeV, m_pcore, m_pcoreV, if_pos c_8, if_neg c_28, c_8, c_28]) rfl rfl dX8_pipe_45
    · refine lv_iload_n hx hb dX8_pipe_31 rfl (lv_at hl 3 rfl) ?_
      refine lv_i2l hx hb dX8_pipe_32 rfl ?_
      refine lv_lconst (v := 0) hx hb dX8_pipe_33 (by decide) ?_
      refine lv_ldc2 (v := 20) hx hb hown (hts (.constantLong RX8 113 (20)) (by decide +kernel)) dX8_pipe_34 ?_
      refine w_ci (w_runS ⟨hx, hb, hml, hown, hts⟩ (c_X8_in hxo l D q (u2 V 1000 0 0) J R t.toInt64 0 20 ) hxo (va_cwS 3 hts gX8_pipe_X8_in rfl rfl rfl (by decide +kernel) ⟨Nat.le_of_ble_eq_true rfl, Nat.le_of_ble_eq_true rfl⟩) hK hW hS hA hXs rfl hl.1 rfl (Nat.le_of_ble_eq_true rfl) dX8_pipe_37 ⟨Nat.zero_le _, Nat.zero_le _⟩) hW hS hA (fun H locs hW hS => ?_)
      refine w_i (bz_iff (wid_l (c := 0) (d := 20) (by decide) (by decide))) ?_
      refine w_ifnz (tgt := 46) hx hb dX8_pipe_40 (by decide) (fun c_40 => ?_) (fun c_40 => ?_)
      · refine lv_aload_n hx hb dX8_pipe_46 rfl (lv_at hl 0 rfl) ?_
        refine w_get (ci := 9) (T := TX8) hx hb hts hin_TX8 hown hK hW hM.1.1 hM.1.2 (by decide) rfl 1 (by decide) (hts (.fieldLink RX8 99 "TownClocksModel" "pipes" "I") (by decide +kernel)) (fun _ h9 => h9) rfl dX8_pipe_47 ?_
        refine w_i (by rw [u2_sn (by decide)]) ?_
        refine lv_bipush (v := 30) hx hb dX8_pipe_50 (by decide) ?_
        refine lv_icmp_ne (tgt := 58) hx hb dX8_pipe_52 (by decide) (fun c_52 => ?_) (fun c_52 => ?_)
        · refine lv_aload_n hx hb dX8_pipe_58 rfl (lv_at hl 0 rfl) ?_
          refine w_getr (ci := 9) (T := TX8) hx hb hts hin_TX8 hown hK hW hM.1.1 hM.1.2 (by decide) rfl 2 (by decide) (hts (.fieldLink RX8 7 "TownClocksModel" "parent" "[I") (by decide +kernel)) (fun _ h9 => h9) rfl (mo_2 hM).2.2.2 dX8_pipe_59 ?_
          refine lv_aload_n hx hb dX8_pipe_62 rfl (lv_at hl 0 rfl) ?_
          refine w_get (ci := 9) (T := TX8) hx hb hts hin_TX8 hown hK hW hM.1.1 hM.1.2 (by decide) rfl 1 (by decide) (hts (.fieldLink RX8 99 "TownClocksModel" "pipes" "I") (by decide +kernel)) (fun _ h9 => h9) rfl dX8_pipe_63 ?_
          refine w_i (by rw [u2_sn (by decide)]) ?_
          refine w_i hmp ?_
          refine lv_iload_n hx hb dX8_pipe_66 rfl (lv_at hl 1 rfl) ?_
          refine w_iastN (t := nP) hx hb hK hW hS (mo_2 hM).1 (mo_2 hM).2.1 ⟨by rw [(mo_2 hM).2.2.1]; have h9 := c_52; rw [hmp] at h9; have h8 : nP ≠ 30 := fun e => h9 (by rw [e]; rfl); omega, by omega⟩ dX8_pipe_67 (fun H locs hW hS => ?_)
          refine lv_aload_n hx hb dX8_pipe_68 rfl (lv_at hl 0 rfl) ?_
          refine w_getr (ci := 9) (T := TX8) hx hb hts hin_TX8 hown hK hW hM.1.1 hM.1.2 (by decide) rfl 3 (by decide) (hts (.fieldLink RX8 13 "TownClocksModel" "loss" "[I") (by decide +kernel)) (fun _ h9 => h9) rfl (mo_3 hM).2.2.2 dX8_pipe_69 ?_
          refine lv_aload_n hx hb dX8_pipe_72 rfl (lv_at hl 0 rfl) ?_
          refine w_get (ci := 9) (T := TX8) hx hb hts hin_TX8 hown hK hW hM.1.1 hM.1.2 (by decide) rfl 1 (by decide) (hts (.fieldLink RX8 99 "TownClocksModel" "pipes" "I") (by decide +kernel)) (fun _ h9 => h9) rfl dX8_pipe_73 ?_
          refine w_i (by rw [u2_ne (by decide), u2_sn (by decide)]) ?_
          refine w_i hmp ?_
          refine lv_iload_n hx hb dX8_pipe_76 rfl (lv_at hl 2 rfl) ?_
          refine w_iastN (t := nP) hx hb hK hW hS (mo_3 hM).1 (mo_3 hM).2.1 ⟨by rw [(mo_3 hM).2.2.1]; have h9 := c_52; rw [hmp] at h9; have h8 : nP ≠ 30 := fun e => h9 (by rw [e]; rfl); omega, by omega⟩ dX8_pipe_77 (fun H locs hW hS => ?_)
          refine lv_aload_n hx hb dX8_pipe_78 rfl (lv_at hl 0 rfl) ?_
          refine w_getr (ci := 9) (T := TX8) hx hb hts hin_TX8 hown hK hW hM.1.1 hM.1.2 (by decide) rfl 4 (by decide) (hts (.fieldLink RX8 16 "TownClocksModel" "lag" "[I") (by decide +kernel)) (fun _ h9 => h9) rfl (mo_4 hM).2.2.2 dX8_pipe_79 ?_
          refine lv_aload_n hx hb dX8_pipe_82 rfl (lv_at hl 0 rfl) ?_
          refine w_get (ci := 9) (T := TX8) hx hb hts hin_TX8 hown hK hW hM.1.1 hM.1.2 (by decide) rfl 1 (by decide) (hts (.fieldLink RX8 99 "TownClocksModel" "pipes" "I") (by decide +kernel)) (fun _ h9 => h9) rfl dX8_pipe_83 ?_
          refine w_i (by rw [u2_ne (by decide), u2_ne (by decide), u2_sn (by decide)]) ?_
          refine w_i hmp ?_
          refine lv_iload_n hx hb dX8_pipe_86 rfl (lv_at hl 3 rfl) ?_
          refine w_iastN (t := nP) hx hb hK hW hS (mo_4 hM).1 (mo_4 hM).2.1 ⟨by rw [(mo_4 hM).2.2.1]; have h9 := c_52; rw [hmp] at h9; have h8 : nP ≠ 30 := fun e => h9 (by rw [e]; rfl); omega, by omega⟩ dX8_pipe_87 (fun H locs hW hS => ?_)
          refine lv_aload_n hx hb dX8_pipe_88 rfl (lv_at hl 0 rfl) ?_
          refine w_getr (ci := 9) (T := TX8) hx hb hts hin_TX8 hown hK hW hM.1.1 hM.1.2 (by decide) rfl 5 (by decide) (hts (.fieldLink RX8 19 "TownClocksModel" "leak" "[I") (by decide +kernel)) (fun _ h9 => h9) rfl (mo_5 hM).2.2.2 dX8_pipe_89 ?_
          refine lv_aload_n hx hb dX8_pipe_92 rfl (lv_at hl 0 rfl) ?_
          refine w_get (ci := 9) (T := TX8) hx hb hts hin_TX8 hown hK hW hM.1.1 hM.1.2 (by decide) rfl 1 (by decide) (hts (.fieldLink RX8 99 "TownClocksModel" "pipes" "I") (by decide +kernel)) (fun _ h9 => h9) rfl dX8_pipe_93 ?_
          refine w_i (by rw [u2_ne (by decide), u2_ne (by decide), u2_ne (by decide), u2_sn (by decide)]) ?_
          refine w_i hmp ?_
          refine lv_iconst (v := 0) hx hb dX8_pipe_96 (by decide) ?_
          refine w_iastN (t := nP) hx hb hK hW hS (mo_5 hM).1 (mo_5 hM).2.1 ⟨by rw [(mo_5 hM).2.2.1]; have h9 := c_52; rw [hmp] at h9; have h8 : nP ≠ 30 := fun e => h9 (by rw [e]; rfl); omega, by omega⟩ dX8_pipe_97 (fun H locs hW hS => ?_)
          refine lv_aload_n hx hb dX8_pipe_98 rfl (lv_at hl 0 rfl) ?_
          refine lv_dup hx hb dX8_pipe_99 rfl ?_
          refine w_get (ci := 9) (T := TX8) hx hb hts hin_TX8 hown hK hW hM.1.1 hM.1.2 (by decide) rfl 1 (by decide) (hts (.fieldLink RX8 99 "TownClocksModel" "pipes" "I") (by decide +kernel)) (fun _ h9 => h9) rfl dX8_pipe_100 ?_
          refine w_i (by rw [u2_ne (by decide), u2_ne (by decide), u2_ne (by decide), u2_ne (by decide), u2_sn (by decide)]) ?_
          refine lv_iconst (v := 1) hx hb dX8_pipe_103 (by decide) ?_
          refine lv_iadd hx hb dX8_pipe_104 ?_
          refine w_puti (ci := 9) (T := TX8) (ty := .int) hx hb hts hin_TX8 tyX8 tyX8_ok nmX8 hown hK hW hS hM.1.1 hM.1.2 (by decide) rfl 1 (by decide) (hts (.fieldLink RX8 99 "TownClocksModel" "pipes" "I") (by decide +kernel)) (fun _ h9 => h9) rfl (tyX8_ok 1 (by decide)) rfl rfl (Nat.le_of_ble_eq_true rfl) rfl dX8_pipe_105 (fun H locs hW hS => ?_)
          refine lv_aload_n hx hb dX8_pipe_108 rfl (lv_at hl 0 rfl) ?_
          refine w_get (ci := 9) (T := TX8) hx hb hts hin_TX8 hown hK hW hM.1.1 hM.1.2 (by decide) rfl 1 (by decide) (hts (.fieldLink RX8 99 "TownClocksModel" "pipes" "I") (by decide +kernel)) (fun _ h9 => h9) rfl dX8_pipe_109 ?_
          refine w_i (by rw [u2_ss]) ?_
          refine lv_iconst (v := 1) hx hb dX8_pipe_112 (by decide) ?_
          refine lv_isub hx hb dX8_pipe_113 ?_
          exact w_iret hx hb hr hlk hW hS (by simp only [m_pipe, m_pcore, if_pos c_8, if_pos c_28, if_pos c_40, if_neg c_52]; rw [hmp]; exact ap_m1 nP) (by first | rfl | (simp only [m_pipe, m_pipeV, m_pcore, m_pcoreV, if_pos c_8, if_pos c_28, if_pos c_40, if_neg c_52, c_8, c_28, c_40, c_52, ↓reduceIte]; done) | simp [bz, m_pipe, m_pipeV, m_pcore, m_pcoreV, if_pos c_8, if_pos c_28, if_pos c_40, if_neg c_52, c_8, c_28, c_40, c_52]) rfl rfl dX8_pipe_114
        · refine lv_ldc (v := -1000003) hx hb hown (hts (.constant RX8 116 (-1000003)) (by decide +kernel)) dX8_pipe_55 ?_
          exact w_iret hx hb hr hlk hW hS (by first | rfl | (simp only [m_pipe, m_pipeV, m_pcore, m_pcoreV, if_pos c_8, if_pos c_28, if_pos c_40, if_pos c_52, c_8, c_28, c_40, c_52, ↓reduceIte]; done) | simp [bz, m_pipe, m_pipeV, m_pcore, m_pcoreV, if_pos c_8, if_pos c_28, if_pos c_40, if_pos c_52, c_8, c_28, c_40, c_52]) (by first | rfl | (simp only [m_pipe, m_pipeV, m_pcore, m_pcoreV, if_pos c_8, if_pos c_28, if_pos c_40, if_pos c_52, c_8, c_28, c_40, c_52, ↓reduceIte]; done) | simp [bz, m_pipe, m_pipeV, m_pcore, m_pcoreV, if_pos c_8, if_pos c_28, if_pos c_40, if_pos c_52, c_8, c_28, c_40, c_52]) rfl rfl dX8_pipe_57
      · refine lv_ldc (v := -1000001) hx hb hown (hts (.constant RX8 115 (-1000001)) (by decide +kernel)) dX8_pipe_43 ?_
        exact w_iret hx hb hr hlk hW hS (by first | rfl | (simp only [m_pipe, m_pipeV, m_pcore, m_pcoreV, if_pos c_8, if_pos c_28, if_neg c_40, c_8, c_28, c_40, ↓reduceIte]; done) | simp [bz, m_pipe, m_pipeV, m_pcore, m_pcoreV, if_pos c_8, if_pos c_28, if_neg c_40, c_8, c_28, c_40]) (by first | rfl | (simp only [m_pipe, m_pipeV, m_pcore, m_pcoreV, if_pos c_8, if_pos c_28, if_neg c_40, c_8, c_28, c_40, ↓reduceIte]; done) | simp [bz, m_pipe, m_pipeV, m_pcore, m_pcoreV, if_pos c_8, if_pos c_28, if_neg c_40, c_8, c_28, c_40]) rfl rfl dX8_pipe_45
  · refine lv_aload_n hx hb dX8_pipe_11 rfl (lv_at hl 0 rfl) ?_
    refine lv_iload_n hx hb dX8_pipe_12 rfl (lv_at hl 1 rfl) ?_
    refine w_ci (w_runV ⟨hx, hb, hml, hown, hts⟩ (c_X8_isPipe hxo l D q (u2 V 1000 0 0) J R nP x hM (by rw [u2_sn (by decide)]; exact hmp) hnP) hxo (cwV 1 hts gX8_pipe_X8_isPipe rfl rfl rfl (by decide +kernel) ⟨Nat.le_of_ble_eq_true rfl, Nat.le_of_ble_eq_true rfl⟩) hK hW hS hA hXs (w_rcv hK hW hM.1.1 hM.1.2 (by decide) rfl) rfl hl.1 rfl (Nat.le_of_ble_eq_true rfl) dX8_pipe_13 ⟨Nat.zero_le _, Nat.zero_le _⟩) hW hS hA (fun H locs hW hS => ?_)
    refine w_ifz (tgt := 43) hx hb dX8_pipe_16 (by decide) (fun c_16 => ?_) (fun c_16 => ?_)
    · refine lv_ldc (v := -1000001) hx hb hown (hts (.constant RX8 115 (-1000001)) (by decide +kernel)) dX8_pipe_43 ?_
      exact w_iret hx hb hr hlk hW hS (by first | rfl | (simp only [m_pipe, m_pipeV, m_pcore, m_pcoreV, if_neg c_8, if_neg c_16, c_8, c_16, ↓reduceIte]; done) | simp [bz, m_pipe, m_pipeV, m_pcore, m_pcoreV, if_neg c_8, if_neg c_16, c_8, c_16]) (by first | rfl | (simp only [m_pipe, m_pipeV, m_pcore, m_pcoreV, if_neg c_8, if_neg c_16, c_8, c_16, ↓reduceIte]; done) | simp [bz, m_pipe, m_pipeV, m_pcore, m_pcoreV, if_neg c_8, if_neg c_16, c_8, c_16]) rfl rfl dX8_pipe_45
    · refine lv_iload_n hx hb dX8_pipe_19 rfl (lv_at hl 2 rfl) ?_
      refine lv_i2l hx hb dX8_pipe_20 rfl ?_
      refine lv_lconst (v := 0) hx hb dX8_pipe_21 (by decide) ?_
      refine lv_ldc2 (v := 50) hx hb hown (hts (.constantLong RX8 111 (50)) (by decide +kernel)) dX8_pipe_22 ?_
      refine w_ci (w_runS ⟨hx, hb, hml, hown, hts⟩ (c_X8_in hxo l D q (u2 V 1000 0 0) J R lo2.toInt64 0 50 ) hxo (va_cwS 3 hts gX8_pipe_X8_in rfl rfl rfl (by decide +kernel) ⟨Nat.le_of_ble_eq_true rfl, Nat.le_of_ble_eq_true rfl⟩) hK hW hS hA hXs rfl hl.1 rfl (Nat.le_of_ble_eq_true rfl) dX8_pipe_25 ⟨Nat.zero_le _, Nat.zero_le _⟩) hW hS hA (fun H locs hW hS => ?_)
      refine w_i (bz_iff (wid_l (c := 0) (d := 50) (by decide) (by decide))) ?_
      refine w_ifz (tgt := 43) hx hb dX8_pipe_28 (by decide) (fun c_28 => ?_) (fun c_28 => ?_)
      · refine lv_ldc (v := -1000001) hx hb hown (hts (.constant RX8 115 (-1000001)) (by decide +kernel)) dX8_pipe_43 ?_
        exact w_iret hx hb hr hlk hW hS (by first | rfl | (simp only [m_pipe, m_pipeV, m_pcore, m_pcoreV, if_neg c_8, if_pos c_16, if_neg c_28, c_8, c_16, c_28, ↓reduceIte]; done) | simp [bz, m_pipe, m_pipeV, m_pcore, m_pcoreV, if_neg c_8, if_pos c_16, if_neg c_28, c_8, c_16, c_28]) (by first | rfl | (simp only [m_pipe, m_pipeV, m_pcore, m_pcoreV, if_neg c_8, if_pos c_16, if_neg c_28, c_8, c_16, c_28, ↓reduceIte]; done) | simp [bz, m_pipe, m_pipeV, m_pcore, m_pcoreV, if_neg c_8, if_pos c_16, if_neg c_28, c_8, c_16, c_28]) rfl rfl dX8_pipe_45
      · refine lv_iload_n hx hb dX8_pipe_31 rfl (lv_at hl 3 rfl) ?_
        refine lv_i2l hx hb dX8_pipe_32 rfl ?_
        refine lv_lconst (v := 0) hx hb dX8_pipe_33 (by decide) ?_
        refine lv_ldc2 (v := 20) hx hb hown (hts (.constantLong RX8 113 (20)) (by decide +kernel)) dX8_pipe_34 ?_
        refine w_ci (w_runS ⟨hx, hb, hml, hown, hts⟩ (c_X8_in hxo l D q (u2 V 1000 0 0) J R t.toInt64 0 20 ) hxo (va_cwS 3 hts gX8_pipe_X8_in rfl rfl rfl (by decide +kernel) ⟨Nat.le_of_ble_eq_true rfl, Nat.le_of_ble_eq_true rfl⟩) hK hW hS hA hXs rfl hl.1 rfl (Nat.le_of_ble_eq_true rfl) dX8_pipe_37 ⟨Nat.zero_le _, Nat.zero_le _⟩) hW hS hA (fun H locs hW hS => ?_)
        refine w_i (bz_iff (wid_l (c := 0) (d := 20) (by decide) (by decide))) ?_
        refine w_ifnz (tgt := 46) hx hb dX8_pipe_40 (by decide) (fun c_40 => ?_) (fun c_40 => ?_)
        · refine lv_aload_n hx hb dX8_pipe_46 rfl (lv_at hl 0 rfl) ?_
          refine w_get (ci := 9) (T := TX8) hx hb hts hin_TX8 hown hK hW hM.1.1 hM.1.2 (by decide) rfl 1 (by decide) (hts (.fieldLink RX8 99 "TownClocksModel" "pipes" "I") (by decide +kernel)) (fun _ h9 => h9) rfl dX8_pipe_47 ?_
          refine w_i (by rw [u2_sn (by decide)]) ?_
          refine lv_bipush (v := 30) hx hb dX8_pipe_50 (by decide) ?_
          refine lv_icmp_ne (tgt := 58) hx hb dX8_pipe_52 (by decide) (fun c_52 => ?_) (fun c_52 => ?_)
          · refine lv_aload_n hx hb dX8_pipe_58 rfl (lv_at hl 0 rfl) ?_
            refine w_getr (ci := 9) (T := TX8) hx hb hts hin_TX8 hown hK hW hM.1.1 hM.1.2 (by decide) rfl 2 (by decide) (hts (.fieldLink RX8 7 "TownClocksModel" "parent" "[I") (by decide +kernel)) (fun _ h9 => h9) rfl (mo_2 hM).2.2.2 dX8_pipe_59 ?_
            refine lv_aload_n hx hb dX8_pipe_62 rfl (lv_at hl 0 rfl) ?_
            refine w_get (ci := 9) (T := TX8) hx hb hts hin_TX8 hown hK hW hM.1.1 hM.1.2 (by decide) rfl 1 (by decide) (hts (.fieldLink RX8 99 "TownClocksModel" "pipes" "I") (by decide +kernel)) (fun _ h9 => h9) rfl dX8_pipe_63 ?_
            refine w_i (by rw [u2_sn (by decide)]) ?_
            refine w_i hmp ?_
            refine lv_iload_n hx hb dX8_pipe_66 rfl (lv_at hl 1 rfl) ?_
            refine w_iastN (t := nP) hx hb hK hW hS (mo_2 hM).1 (mo_2 hM).2.1 ⟨by rw [(mo_2 hM).2.2.1]; have h9 := c_52; rw [hmp] at h9; have h8 : nP ≠ 30 := fun e => h9 (by rw [e]; rfl); omega, by omega⟩ dX8_pipe_67 (fun H locs hW hS => ?_)
            refine lv_aload_n hx hb dX8_pipe_68 rfl (lv_at hl 0 rfl) ?_
            refine w_getr (ci := 9) (T := TX8) hx hb hts hin_TX8 hown hK hW hM.1.1 hM.1.2 (by decide) rfl 3 (by decide) (hts (.fieldLink RX8 13 "TownClocksModel" "loss" "[I") (by decide +kernel)) (fun _ h9 => h9) rfl (mo_3 hM).2.2.2 dX8_pipe_69 ?_
            refine lv_aload_n hx hb dX8_pipe_72 rfl (lv_at hl 0 rfl) ?_
            refine w_get (ci := 9) (T := TX8) hx hb hts hin_TX8 hown hK hW hM.1.1 hM.1.2 (by decide) rfl 1 (by decide) (hts (.fieldLink RX8 99 "TownClocksModel" "pipes" "I") (by decide +kernel)) (fun _ h9 => h9) rfl dX8_pipe_73 ?_
            refine w_i (by rw [u2_ne (by decide), u2_sn (by decide)]) ?_
            refine w_i hmp ?_
            refine lv_iload_n hx hb dX8_pipe_76 rfl (lv_at hl 2 rfl) ?_
            refine w_iastN (t := nP) hx hb hK hW hS (mo_3 hM).1 (mo_3 hM).2.1 ⟨by rw [(mo_3 hM).2.2.1]; have h9 := c_52; rw [hmp] at h9; have h8 : nP ≠ 30 := fun e => h9 (by rw [e]; rfl); omega, by omega⟩ dX8_pipe_77 (fun H locs hW hS => ?_)
            refine lv_aload_n hx hb dX8_pipe_78 rfl (lv_at hl 0 rfl) ?_
            refine w_getr (ci := 9) (T := TX8) hx hb hts hin_TX8 hown hK hW hM.1.1 hM.1.2 (by decide) rfl 4 (by decide) (hts (.fieldLink RX8 16 "TownClocksModel" "lag" "[I") (by decide +kernel)) (fun _ h9 => h9) rfl (mo_4 hM).2.2.2 dX8_pipe_79 ?_
            refine lv_aload_n hx hb dX8_pipe_82 rfl (lv_at hl 0 rfl) ?_
            refine w_get (ci := 9) (T := TX8) hx hb hts hin_TX8 hown hK hW hM.1.1 hM.1.2 (by decide) rfl 1 (by decide) (hts (.fieldLink RX8 99 "TownClocksModel" "pipes" "I") (by decide +kernel)) (fun _ h9 => h9) rfl dX8_pipe_83 ?_
            refine w_i (by rw [u2_ne (by decide), u2_ne (by decide), u2_sn (by decide)]) ?_
            refine w_i hmp ?_
            refine lv_iload_n hx hb dX8_pipe_86 rfl (lv_at hl 3 rfl) ?_
            refine w_iastN (t := nP) hx hb hK hW hS (mo_4 hM).1 (mo_4 hM).2.1 ⟨by rw [(mo_4 hM).2.2.1]; have h9 := c_52; rw [hmp] at h9; have h8 : nP ≠ 30 := fun e => h9 (by rw [e]; rfl); omega, by omega⟩ dX8_pipe_87 (fun H locs hW hS => ?_)
            refine lv_aload_n hx hb dX8_pipe_88 rfl (lv_at hl 0 rfl) ?_
            refine w_getr (ci := 9) (T := TX8) hx hb hts hin_TX8 hown hK hW hM.1.1 hM.1.2 (by decide) rfl 5 (by decide) (hts (.fieldLink RX8 19 "TownClocksModel" "leak" "[I") (by decide +kernel)) (fun _ h9 => h9) rfl (mo_5 hM).2.2.2 dX8_pipe_89 ?_
            refine lv_aload_n hx hb dX8_pipe_92 rfl (lv_at hl 0 rfl) ?_
            refine w_get (ci := 9) (T := TX8) hx hb hts hin_TX8 hown hK hW hM.1.1 hM.1.2 (by decide) rfl 1 (by decide) (hts (.fieldLink RX8 99 "TownClocksModel" "pipes" "I") (by decide +kernel)) (fun _ h9 => h9) rfl dX8_pipe_93 ?_
            refine w_i (by rw [u2_ne (by decide), u2_ne (by decide), u2_ne (by decide), u2_sn (by decide)]) ?_
            refine w_i hmp ?_
            refine lv_iconst (v := 0) hx hb dX8_pipe_96 (by decide) ?_
            refine w_iastN (t := nP) hx hb hK hW hS (mo_5 hM).1 (mo_5 hM).2.1 ⟨by rw [(mo_5 hM).2.2.1]; have h9 := c_52; rw [hmp] at h9; have h8 : nP ≠ 30 := fun e => h9 (by rw [e]; rfl); omega, by omega⟩ dX8_pipe_97 (fun H locs hW hS => ?_)
            refine lv_aload_n hx hb dX8_pipe_98 rfl (lv_at hl 0 rfl) ?_
            refine lv_dup hx hb dX8_pipe_99 rfl ?_
            refine w_get (ci := 9) (T := TX8) hx hb hts hin_TX8 hown hK hW hM.1.1 hM.1.2 (by decide) rfl 1 (by decide) (hts (.fieldLink RX8 99 "TownClocksModel" "pipes" "I") (by decide +kernel)) (fun _ h9 => h9) rfl dX8_pipe_100 ?_
            refine w_i (by rw [u2_ne (by decide), u2_ne (by decide), u2_ne (by decide), u2_ne (by decide), u2_sn (by decide)]) ?_
            refine lv_iconst (v := 1) hx hb dX8_pipe_103 (by decide) ?_
            refine lv_iadd hx hb dX8_pipe_104 ?_
            refine w_puti (ci := 9) (T := TX8) (ty := .int) hx hb hts hin_TX8 tyX8 tyX8_ok nmX8 hown hK hW hS hM.1.1 hM.1.2 (by decide) rfl 1 (by decide) (hts (.fieldLink RX8 99 "TownClocksModel" "pipes" "I") (by decide +kernel)) (fun _ h9 => h9) rfl (tyX8_ok 1 (by decide)) rfl rfl (Nat.le_of_ble_eq_true rfl) rfl dX8_pipe_105 (fun H locs hW hS => ?_)
            refine lv_aload_n hx hb dX8_pipe_108 rfl (lv_at hl 0 rfl) ?_
            refine w_get (ci := 9) (T := TX8) hx hb hts hin_TX8 hown hK hW hM.1.1 hM.1.2 (by decide) rfl 1 (by decide) (hts (.fieldLink RX8 99 "TownClocksModel" "pipes" "I") (by decide +kernel)) (fun _ h9 => h9) rfl dX8_pipe_109 ?_
            refine w_i (by rw [u2_ss]) ?_
            refine lv_iconst (v := 1) hx hb dX8_pipe_112 (by decide) ?_
            refine lv_isub hx hb dX8_pipe_113 ?_
            exact w_iret hx hb hr hlk hW hS (by simp only [m_pipe, m_pcore, if_neg c_8, if_pos c_16, if_pos c_28, if_pos c_40, if_neg c_52]; rw [hmp]; exact ap_m1 nP) (by first | rfl | (simp only [m_pipe, m_pipeV, m_pcore, m_pcoreV, if_neg c_8, if_pos c_16, if_pos c_28, if_pos c_40, if_neg c_52, c_8, c_16, c_28, c_40, c_52, ↓reduceIte]; done) | simp [bz, m_pipe, m_pipeV, m_pcore, m_pcoreV, if_neg c_8, if_pos c_16, if_pos c_28, if_pos c_40, if_neg c_52, c_8, c_16, c_28, c_40, c_52]) rfl rfl dX8_pipe_114
          · refine lv_ldc (v := -1000003) hx hb hown (hts (.constant RX8 116 (-1000003)) (by decide +kernel)) dX8_pipe_55 ?_
            exact w_iret hx hb hr hlk hW hS (by first | rfl | (simp only [m_pipe, m_pipeV, m_pcore, m_pcoreV, if_neg c_8, if_pos c_16, if_pos c_28, if_pos c_40, if_pos c_52, c_8, c_16, c_28, c_40, c_52, ↓reduceIte]; done) | simp [bz, m_pipe, m_pipeV, m_pcore, m_pcoreV, if_neg c_8, if_pos c_16, if_pos c_28, if_pos c_40, if_pos c_52, c_8, c_16, c_28, c_40, c_52]) (by first | rfl | (simp only [m_pipe, m_pipeV, m_pcore, m_pcoreV, if_neg c_8, if_pos c_16, if_pos c_28, if_pos c_40, if_pos c_52, c_8, c_16, c_28, c_40, c_52, ↓reduceIte]; done) | simp [bz, m_pipe, m_pipeV, m_pcore, m_pcoreV, if_neg c_8, if_pos c_16, if_pos c_28, if_pos c_40, if_pos c_52, c_8, c_16, c_28, c_40, c_52]) rfl rfl dX8_pipe_57
        · refine lv_ldc (v := -1000001) hx hb hown (hts (.constant RX8 115 (-1000001)) (by decide +kernel)) dX8_pipe_43 ?_
          exact w_iret hx hb hr hlk hW hS (by first | rfl | (simp only [m_pipe, m_pipeV, m_pcore, m_pcoreV, if_neg c_8, if_pos c_16, if_pos c_28, if_neg c_40, c_8, c_16, c_28, c_40, ↓reduceIte]; done) | simp [bz, m_pipe, m_pipeV, m_pcore, m_pcoreV, if_neg c_8, if_pos c_16, if_pos c_28, if_neg c_40, c_8, c_16, c_28, c_40]) (by first | rfl | (simp only [m_pipe, m_pipeV, m_pcore, m_pcoreV, if_neg c_8, if_pos c_16, if_pos c_28, if_neg c_40, c_8, c_16, c_28, c_40, ↓reduceIte]; done) | simp [bz, m_pipe, m_pipeV, m_pcore, m_pcoreV, if_neg c_8, if_pos c_16, if_pos c_28, if_neg c_40, c_8, c_16, c_28, c_40]) rfl rfl dX8_pipe_45
set_option maxHeartbeats 4000000 in
set_option maxRecDepth 100000 in
theorem c_X8_dial {X : (Nat → Prop) → State → Prop} (hxo : xok X) (l : Launch) (D : va_G) (q : Cq) {dm : List Nat} {kd ln ad : Nat → Nat} (V : Mv) (J : Mj) (R : Mr) (nP nD : Nat) (x lo2 t : Int32) (hM : okM dm kd ln R) (hmp : V 1000 1 = nI nP) (hnP : nP ≤ 30) (hmq : V 1000 7 = nI nD) (hnD : nD ≤ 40)  : CtI X l yX8_dial wsX8_dial ({ frames := 2, cells := 0, slots := 0, locals := 46 }) D q dm kd ln ad V J R [.ref (ad 1000), .int x, .int lo2, .int t] (m_dial V nP nD x lo2 t) (m_dialV V nP nD x lo2 t) (J) (R) := by
  refine CtI_of (cc := cX8_dial) (maxL := 4) (ret := (some .int)) (by decide +kernel) rfl (Nat.le_of_ble_eq_true rfl) ?_
  intro p e s m below meth c A hx hb hr hml hts hown hlk hmn hK hW hA hXs ls hl
  have hS : va_S A s.heap s.heap [] := va_S.rf
  have hl : lv_has ls 4 [(0, .ref (ad 1000)), (1, .int x), (2, .int lo2), (3, .int t)] := hl
  have hin_TX8 : ∀ w ∈ u_ws RX8 TX8 48, w ∈ wsX8_dial := by decide +kernel
  refine lv_aload_n hx hb dX8_dial_0 rfl (lv_at hl 0 rfl) ?_
  refine lv_iconst (v := 0) hx hb dX8_dial_1 (by decide) ?_
  refine w_puti (ci := 9) (T := TX8) (ty := .int) hx hb hts hin_TX8 tyX8 tyX8_ok nmX8 hown hK hW hS hM.1.1 hM.1.2 (by decide) rfl 0 (by decide) (hts (.fieldLink RX8 95 "TownClocksModel" "thrown" "I") (by decide +kernel)) (fun _ h9 => h9) rfl (tyX8_ok 0 (by decide)) rfl rfl (Nat.le_of_ble_eq_true rfl) rfl dX8_dial_2 (fun H locs hW hS => ?_)
  refine lv_aload_n hx hb dX8_dial_5 rfl (lv_at hl 0 rfl) ?_
  refine lv_iload_n hx hb dX8_dial_6 rfl (lv_at hl 1 rfl) ?_
  refine w_ci (w_runV ⟨hx, hb, hml, hown, hts⟩ (c_X8_isPipe hxo l D q (u2 V 1000 0 0) J R nP x hM (by rw [u2_sn (by decide)]; exact hmp) hnP) hxo (cwV 1 hts gX8_dial_X8_isPipe rfl rfl rfl (by decide +kernel) ⟨Nat.le_of_ble_eq_true rfl, Nat.le_of_ble_eq_true rfl⟩) hK hW hS hA hXs (w_rcv hK hW hM.1.1 hM.1.2 (by decide) rfl) rfl hl.1 rfl (Nat.le_of_ble_eq_true rfl) dX8_dial_7 ⟨Nat.zero_le _, Nat.zero_le _⟩) hW hS hA (fun H locs hW hS => ?_)
  refine w_ifz (tgt := 37) hx hb dX8_dial_10 (by decide) (fun c_10 => ?_) (fun c_10 => ?_)
  · refine lv_ldc (v := -1000001) hx hb hown (hts (.constant RX8 115 (-1000001)) (by decide +kernel)) dX8_dial_37 ?_
    exact w_iret hx hb hr hlk hW hS (by first | rfl | (simp only [m_dial, m_dialV, if_neg c_10, c_10, ↓reduceIte]; done) | simp [bz, m_dial, m_dialV, if_neg c_10, c_10]) (by first | rfl | (simp only [m_dial, m_dialV, if_neg c_10, c_10, ↓reduceIte]; done) | simp [bz, m_dial, m_dialV, if_neg c_10, c_10]) rfl rfl dX8_dial_39
  · refine lv_iload_n hx hb dX8_dial_13 rfl (lv_at hl 2 rfl) ?_
    refine lv_i2l hx hb dX8_dial_14 rfl ?_
    refine lv_lconst (v := 1) hx hb dX8_dial_15 (by decide) ?_
    refine lv_ldc2 (v := 100) hx hb hown (hts (.constantLong RX8 131 (100)) (by decide +kernel)) dX8_dial_16 ?_
    refine w_ci (w_runS ⟨hx, hb, hml, hown, hts⟩ (c_X8_in hxo l D q (u2 V 1000 0 0) J R lo2.toInt64 1 100 ) hxo (va_cwS 3 hts gX8_dial_X8_in rfl rfl rfl (by decide +kernel) ⟨Nat.le_of_ble_eq_true rfl, Nat.le_of_ble_eq_true rfl⟩) hK hW hS hA hXs rfl hl.1 rfl (Nat.le_of_ble_eq_true rfl) dX8_dial_19 ⟨Nat.zero_le _, Nat.zero_le _⟩) hW hS hA (fun H locs hW hS => ?_)
    refine w_i (bz_iff (wid_l (c := 1) (d := 100) (by decide) (by decide))) ?_
    refine w_ifz (tgt := 37) hx hb dX8_dial_22 (by decide) (fun c_22 => ?_) (fun c_22 => ?_)
    · refine lv_ldc (v := -1000001) hx hb hown (hts (.constant RX8 115 (-1000001)) (by decide +kernel)) dX8_dial_37 ?_
      exact w_iret hx hb hr hlk hW hS (by first | rfl | (simp only [m_dial, m_dialV, if_pos c_10, if_neg c_22, c_10, c_22, ↓reduceIte]; done) | simp [bz, m_dial, m_dialV, if_pos c_10, if_neg c_22, c_10, c_22]) (by first | rfl | (simp only [m_dial, m_dialV, if_pos c_10, if_neg c_22, c_10, c_22, ↓reduceIte]; done) | simp [bz, m_dial, m_dialV, if_pos c_10, if_neg c_22, c_10, c_22]) rfl rfl dX8_dial_39
    · refine lv_iload_n hx hb dX8_dial_25 rfl (lv_at hl 3 rfl) ?_
      refine lv_i2l hx hb dX8_dial_26 rfl ?_
      refine lv_lconst (v := 0) hx hb dX8_dial_27 (by decide) ?_
      refine lv_ldc2 (v := 2) hx hb hown (hts (.constantLong RX8 119 (2)) (by decide +kernel)) dX8_dial_28 ?_
      refine w_ci (w_runS ⟨hx, hb, hml, hown, hts⟩ (c_X8_in hxo l D q (u2 V 1000 0 0) J R t.toInt64 0 2 ) hxo (va_cwS 3 hts gX8_dial_X8_in rfl rfl rfl (by decide +kernel) ⟨Nat.le_of_ble_eq_true rfl, Nat.le_of_ble_eq_true rfl⟩) hK hW hS hA hXs rfl hl.1 rfl (Nat.le_of_ble_eq_true rfl) dX8_dial_31 ⟨Nat.zero_le _, Nat.zero_le _⟩) hW hS hA (fun H locs hW hS => ?_)
      refine w_i (bz_iff (wid_l (c := 0) (d := 2) (by decide) (by decide))) ?_
      refine w_ifnz (tgt := 40) hx hb dX8_dial_34 (by decide) (fun c_34 => ?_) (fun c_34 => ?_)
      · refine lv_aload_n hx hb dX8_dial_40 rfl (lv_at hl 0 rfl) ?_
        refine w_get (ci := 9) (T := TX8) hx hb hts hin_TX8 hown hK hW hM.1.1 hM.1.2 (by decide) rfl 7 (by decide) (hts (.fieldLink RX8 128 "TownClocksModel" "dials" "I") (by decide +kernel)) (fun _ h9 => h9) rfl dX8_dial_41 ?_
        refine w_i (by rw [u2_sn (by decide)]) ?_
        refine lv_bipush (v := 40) hx hb dX8_dial_44 (by decide) ?_
        refine lv_icmp_ne (tgt := 52) hx hb dX8_dial_46 (by decide) (fun c_46 => ?_) (fun c_46 => ?_)
        · refine lv_aload_n hx hb dX8_dial_52 rfl (lv_at hl 0 rfl) ?_
          refine w_getr (ci := 9) (T := TX8) hx hb hts hin_TX8 hown hK hW hM.1.1 hM.1.2 (by decide) rfl 8 (by decide) (hts (.fieldLink RX8 25 "TownClocksModel" "on" "[I") (by decide +kernel)) (fun _ h9 => h9) rfl (mo_8 hM).2.2.2 dX8_dial_53 ?_
          refine lv_aload_n hx hb dX8_dial_56 rfl (lv_at hl 0 rfl) ?_
          refine w_get (ci := 9) (T := TX8) hx hb hts hin_TX8 hown hK hW hM.1.1 hM.1.2 (by decide) rfl 7 (by decide) (hts (.fieldLink RX8 128 "TownClocksModel" "dials" "I") (by decide +kernel)) (fun _ h9 => h9) rfl dX8_dial_57 ?_
          refine w_i (by rw [u2_sn (by decide)]) ?_
          refine w_i hmq ?_
          refine lv_iload_n hx hb dX8_dial_60 rfl (lv_at hl 1 rfl) ?_
          refine w_iastN (t := nD) hx hb hK hW hS (mo_8 hM).1 (mo_8 hM).2.1 ⟨by rw [(mo_8 hM).2.2.1]; have h9 := c_46; rw [hmq] at h9; have h8 : nD ≠ 40 := fun e => h9 (by rw [e]; rfl); omega, by omega⟩ dX8_dial_61 (fun H locs hW hS => ?_)
          refine lv_aload_n hx hb dX8_dial_62 rfl (lv_at hl 0 rfl) ?_
          refine w_getr (ci := 9) (T := TX8) hx hb hts hin_TX8 hown hK hW hM.1.1 hM.1.2 (by decide) rfl 9 (by decide) (hts (.fieldLink RX8 28 "TownClocksModel" "need" "[I") (by decide +kernel)) (fun _ h9 => h9) rfl (mo_9 hM).2.2.2 dX8_dial_63 ?_
          refine lv_aload_n hx hb dX8_dial_66 rfl (lv_at hl 0 rfl) ?_
          refine w_get (ci := 9) (T := TX8) hx hb hts hin_TX8 hown hK hW hM.1.1 hM.1.2 (by decide) rfl 7 (by decide) (hts (.fieldLink RX8 128 "TownClocksModel" "dials" "I") (by decide +kernel)) (fun _ h9 => h9) rfl dX8_dial_67 ?_
          refine w_i (by rw [u2_ne (by decide), u2_sn (by decide)]) ?_
          refine w_i hmq ?_
          refine lv_iload_n hx hb dX8_dial_70 rfl (lv_at hl 2 rfl) ?_
          refine w_iastN (t := nD) hx hb hK hW hS (mo_9 hM).1 (mo_9 hM).2.1 ⟨by rw [(mo_9 hM).2.2.1]; have h9 := c_46; rw [hmq] at h9; have h8 : nD ≠ 40 := fun e => h9 (by rw [e]; rfl); omega, by omega⟩ dX8_dial_71 (fun H locs hW hS => ?_)
          refine lv_aload_n hx hb dX8_dial_72 rfl (lv_at hl 0 rfl) ?_
          refine w_getr (ci := 9) (T := TX8) hx hb hts hin_TX8 hown hK hW hM.1.1 hM.1.2 (by decide) rfl 10 (by decide) (hts (.fieldLink RX8 31 "TownClocksModel" "sortOf" "[I") (by decide +kernel)) (fun _ h9 => h9) rfl (mo_10 hM).2.2.2 dX8_dial_73 ?_
          refine lv_aload_n hx hb dX8_dial_76 rfl (lv_at hl 0 rfl) ?_
          refine w_get (ci := 9) (T := TX8) hx hb hts hin_TX8 hown hK hW hM.1.1 hM.1.2 (by decide) rfl 7 (by decide) (hts (.fieldLink RX8 128 "TownClocksModel" "dials" "I") (by decide +kernel)) (fun _ h9 => h9) rfl dX8_dial_77 ?_
          refine w_i (by rw [u2_ne (by decide), u2_ne (by decide), u2_sn (by decide)]) ?_
          refine w_i hmq ?_
          refine lv_iload_n hx hb dX8_dial_80 rfl (lv_at hl 3 rfl) ?_
          refine w_iastN (t := nD) hx hb hK hW hS (mo_10 hM).1 (mo_10 hM).2.1 ⟨by rw [(mo_10 hM).2.2.1]; have h9 := c_46; rw [hmq] at h9; have h8 : nD ≠ 40 := fun e => h9 (by rw [e]; rfl); omega, by omega⟩ dX8_dial_81 (fun H locs hW hS => ?_)
          refine lv_aload_n hx hb dX8_dial_82 rfl (lv_at hl 0 rfl) ?_
          refine lv_dup hx hb dX8_dial_83 rfl ?_
          refine w_get (ci := 9) (T := TX8) hx hb hts hin_TX8 hown hK hW hM.1.1 hM.1.2 (by decide) rfl 7 (by decide) (hts (.fieldLink RX8 128 "TownClocksModel" "dials" "I") (by decide +kernel)) (fun _ h9 => h9) rfl dX8_dial_84 ?_
          refine w_i (by rw [u2_ne (by decide), u2_ne (by decide), u2_ne (by decide), u2_sn (by decide)]) ?_
          refine lv_iconst (v := 1) hx hb dX8_dial_87 (by decide) ?_
          refine lv_iadd hx hb dX8_dial_88 ?_
          refine w_puti (ci := 9) (T := TX8) (ty := .int) hx hb hts hin_TX8 tyX8 tyX8_ok nmX8 hown hK hW hS hM.1.1 hM.1.2 (by decide) rfl 7 (by decide) (hts (.fieldLink RX8 128 "TownClocksModel" "dials" "I") (by decide +kernel)) (fun _ h9 => h9) rfl (tyX8_ok 7 (by decide)) rfl rfl (Nat.le_of_ble_eq_true rfl) rfl dX8_dial_89 (fun H locs hW hS => ?_)
          refine lv_aload_n hx hb dX8_dial_92 rfl (lv_at hl 0 rfl) ?_
          refine w_get (ci := 9) (T := TX8) hx hb hts hin_TX8 hown hK hW hM.1.1 hM.1.2 (by decide) rfl 7 (by decide) (hts (.fieldLink RX8 128 "TownClocksModel" "dials" "I") (by decide +kernel)) (fun _ h9 => h9) rfl dX8_dial_93 ?_
          refine w_i (by rw [u2_ss]) ?_
          refine lv_iconst (v := 1) hx hb dX8_dial_96 (by decide) ?_
          refine lv_isub hx hb dX8_dial_97 ?_
          exact w_iret hx hb hr hlk hW hS (by simp only [m_dial, if_pos c_10, if_pos c_22, if_pos c_34, if_neg c_46]; rw [hmq]; exact ap_m1 nD) (by first | rfl | (simp only [m_dial, m_dialV, if_pos c_10, if_pos c_22, if_pos c_34, if_neg c_46, c_10, c_22, c_34, c_46, ↓reduceIte]; done) | simp [bz, m_dial, m_dialV, if_pos c_10, if_pos c_22, if_pos c_34, if_neg c_46, c_10, c_22, c_34, c_46]) rfl rfl dX8_dial_98
        · refine lv_ldc (v := -1000003) hx hb hown (hts (.constant RX8 116 (-1000003)) (by decide +kernel)) dX8_dial_49 ?_
          exact w_iret hx hb hr hlk hW hS (by first | rfl | (simp only [m_dial, m_dialV, if_pos c_10, if_pos c_22, if_pos c_34, if_pos c_46, c_10, c_22, c_34, c_46, ↓reduceIte]; done) | simp [bz, m_dial, m_dialV, if_pos c_10, if_pos c_22, if_pos c_34, if_pos c_46, c_10, c_22, c_34, c_46]) (by first | rfl | (simp only [m_dial, m_dialV, if_pos c_10, if_pos c_22, if_pos c_34, if_pos c_46, c_10, c_22, c_34, c_46, ↓reduceIte]; done) | simp [bz, m_dial, m_dialV, if_pos c_10, if_pos c_22, if_pos c_34, if_pos c_46, c_10, c_22, c_34, c_46]) rfl rfl dX8_dial_51
      · refine lv_ldc (v := -1000001) hx hb hown (hts (.constant RX8 115 (-1000001)) (by decide +kernel)) dX8_dial_37 ?_
        exact w_iret hx hb hr hlk hW hS (by first | rfl | (simp only [m_dial, m_dialV, if_pos c_10, if_pos c_22, if_neg c_34, c_10, c_22, c_34, ↓reduceIte]; done) | simp [bz, m_dial, m_dialV, if_pos c_10, if_pos c_22, if_neg c_34, c_10, c_22, c_34]) (by first | rfl | (simp only [m_dial, m_dialV, if_pos c_10, if_pos c_22, if_neg c_34, c_10, c_22, c_34, ↓reduceIte]; done) | simp [bz, m_dial, m_dialV, if_pos c_10, if_pos c_22, if_neg c_34, c_10, c_22, c_34]) rfl rfl dX8_dial_39
