abbrev x_isk (a b : Int32) : Prop := a = b ∨ b = 0 ∨ (a = 2 ∧ b = 1)
def x_pl (R : Mr) (k : Nat) : Nat := (R k 0).getD 0
def x_get (V : Mv) (nD : Nat) (x : Int32) (j : Nat) : Int32 := if inx nD x then V (200 + x.toNatClampNeg) j else -1000001
def x_leak (V : Mv) (nP : Nat) (x v : Int32) : Int32 := if inx nP x then (if 0 ≤ v ∧ v ≤ 60 then V (100 + x.toNatClampNeg) 5 else -1000001) else -1000001
def x_leakV (V : Mv) (nP : Nat) (x v : Int32) : Mv := if inx nP x then (if 0 ≤ v ∧ v ≤ 60 then u2 V (100 + x.toNatClampNeg) 5 v else V) else V
def x_told (V : Mv) (R : Mr) (nP : Nat) (x v : Int32) : Int32 := if inx nP x then (if v = 0 then x_air V R x.toNatClampNeg else if v = 1 then V (100 + x.toNatClampNeg) 3 else if v = 2 then V (100 + x.toNatClampNeg) 5 else -1000001) else -1000001
def x_drift (V : Mv) (v : Int32) : Int32 := if -5 ≤ v ∧ v ≤ 5 then V 3 1 else -1000001
def x_driftV (V : Mv) (v : Int32) : Mv := if -5 ≤ v ∧ v ≤ 5 then u2 V 3 1 v else V
def x_now (V : Mv) (J : Mj) (x : Int32) : Int64 := if x = 0 then (V 3 0).toInt64 else if x = 1 then J 3 2 else if x = 2 then -5 * J 3 4 else if x = 3 then 5 * J 3 4 else if x = 4 then (V 3 3).toInt64 else -1000001
def x_look (V : Mv) (nD : Nat) (x : Int32) : Int32 := if inx nD x then V (200 + x.toNatClampNeg) 3 else -1000001
def x_lookV (V : Mv) (nD : Nat) (x : Int32) : Mv := if inx nD x then x_known V (200 + x.toNatClampNeg) else V
def x_state (V : Mv) (R : Mr) (nD : Nat) (x v : Int32) : Int32 := if inx nD x then (if v = 0 then V (200 + x.toNatClampNeg) 3 else if v = 1 then V (200 + x.toNatClampNeg) 4 else if v = 2 then V (200 + x.toNatClampNeg) 4 + V (200 + x.toNatClampNeg) 5 else if v = 3 then V (200 + x.toNatClampNeg) 6 else if v = 4 then V (x_pl R (200 + x.toNatClampNeg)) 0 else if v = 5 then V (200 + x.toNatClampNeg) 1 else -1000001) else -1000001
def x_put (V : Mv) (nD : Nat) (x v : Int32) : Int32 := if inx nD x then (if v = 0 then -1000001 else if -60 ≤ v ∧ v ≤ 60 then V (200 + x.toNatClampNeg) 3 - v else -1000001) else -1000001
def x_putV (V : Mv) (nD : Nat) (x v : Int32) : Mv := if inx nD x then (if v = 0 then V else if -60 ≤ v ∧ v ≤ 60 then x_putOn V (200 + x.toNatClampNeg) v else V) else V
def x_rightV (V : Mv) (nD : Nat) (x : Int32) : Mv := if inx nD x then x_right V (200 + x.toNatClampNeg) else V
def x_ahead (V : Mv) (R : Mr) (nD : Nat) (x : Int32) : Int32 := if inx nD x then (if x_isk (x_kind V (200 + x.toNatClampNeg)) 1 then (V (x_pl R (200 + x.toNatClampNeg)) 3 + 10 - 1) / 10 * 10 else -1000004) else -1000001
def x_kindOf (V : Mv) (nD : Nat) (x : Int32) : Int32 := if inx nD x then x_kind V (200 + x.toNatClampNeg) else -1000001
def x_as (V : Mv) (nD : Nat) (x v : Int32) : Int32 := if inx nD x then (if 0 ≤ v ∧ v ≤ 3 then (if x_isk (x_kind V (200 + x.toNatClampNeg)) v then V (200 + x.toNatClampNeg) 3 else -1000004) else -1000001) else -1000001
def x_trace (V : Mv) (nT : Nat) (x : Int32) : Int32 := if inx nT x then V 15 x.toNatClampNeg else -1000000
set_option maxHeartbeats 4000000 in
set_option maxRecDepth 100000 in
theorem c_X7_isOfKind {X : (Nat → Prop) → State → Prop} (hxo : xok X) (l : Launch) (D : va_G) (q : Cq) {dm : List Nat} {kd ln ad : Nat → Nat} (V : Mv) (J : Mj) (R : Mr) (a b : Int32)  : CtI X l yX7_isOfKind wsX7_isOfKind ({ frames := 0, cells := 0, slots := 0, locals := 0 }) D q dm kd ln ad V J R [.int a, .int b] (bz (x_isk a b)) (V) (J) (R) := by
  refine CtI_of (cc := cX7_isOfKind) (maxL := 2) (ret := (some .boolean)) (by decide +kernel) rfl (Nat.le_of_ble_eq_true rfl) ?_
  intro p e s m below meth c A hx hb hr hml hts hown hlk hmn hK hW hA hXs ls hl
  have hS : va_S A s.heap s.heap [] := va_S.rf
  have hl : lv_has ls 2 [(0, .int a), (1, .int b)] := hl
  refine lv_iload_n hx hb dX7_isOfKind_0 rfl (lv_at hl 0 rfl) ?_
  refine lv_iload_n hx hb dX7_isOfKind_1 rfl (lv_at hl 1 rfl) ?_
  refine lv_icmp_eq (tgt := 19) hx hb dX7_isOfKind_2 (by decide) (fun c_2 => ?_) (fun c_2 => ?_)
  · refine lv_iconst (v := 1) hx hb dX7_isOfKind_19 (by decide) ?_
    refine lv_goto (tgt := 24) hx hb dX7_isOfKind_20 (by decide) ?_
    exact w_zret hx hb hr hlk hW hS (Or.inr rfl) (Eq.symm (bz_t (Or.inl c_2))) rfl rfl rfl dX7_isOfKind_24
  · refine lv_iload_n hx hb dX7_isOfKind_5 rfl (lv_at hl 1 rfl) ?_
    refine lv_if_eq (tgt := 19) hx hb dX7_isOfKind_6 (by decide) (fun c_6 => ?_) (fun c_6 => ?_)
    · refine lv_iconst (v := 1) hx hb dX7_isOfKind_19 (by decide) ?_
      refine lv_goto (tgt := 24) hx hb dX7_isOfKind_20 (by decide) ?_
      exact w_zret hx hb hr hlk hW hS (Or.inr rfl) (Eq.symm (bz_t (Or.inr (Or.inl c_6)))) rfl rfl rfl dX7_isOfKind_24
    · refine lv_iload_n hx hb dX7_isOfKind_9 rfl (lv_at hl 0 rfl) ?_
      refine lv_iconst (v := 2) hx hb dX7_isOfKind_10 (by decide) ?_
      refine lv_icmp_ne (tgt := 23) hx hb dX7_isOfKind_11 (by decide) (fun c_11 => ?_) (fun c_11 => ?_)
      · refine lv_iconst (v := 0) hx hb dX7_isOfKind_23 (by decide) ?_
        exact w_zret hx hb hr hlk hW hS (Or.inl rfl) (Eq.symm (bz_f (fun h => h.elim c_2 (fun h => h.elim c_6 (fun h => c_11 h.1))))) rfl rfl rfl dX7_isOfKind_24
      · refine lv_iload_n hx hb dX7_isOfKind_14 rfl (lv_at hl 1 rfl) ?_
        refine lv_iconst (v := 1) hx hb dX7_isOfKind_15 (by decide) ?_
        refine lv_icmp_ne (tgt := 23) hx hb dX7_isOfKind_16 (by decide) (fun c_16 => ?_) (fun c_16 => ?_)
        · refine lv_iconst (v := 0) hx hb dX7_isOfKind_23 (by decide) ?_
          exact w_zret hx hb hr hlk hW hS (Or.inl rfl) (Eq.symm (bz_f (fun h => h.elim c_2 (fun h => h.elim c_6 (fun h => c_16 h.2))))) rfl rfl rfl dX7_isOfKind_24
        · refine lv_iconst (v := 1) hx hb dX7_isOfKind_19 (by decide) ?_
          refine lv_goto (tgt := 24) hx hb dX7_isOfKind_20 (by decide) ?_
          exact w_zret hx hb hr hlk hW hS (Or.inr rfl) (Eq.symm (bz_t (Or.inr (Or.inr ⟨c_11, c_16⟩)))) rfl rfl rfl dX7_isOfKind_24
set_option maxHeartbeats 4000000 in
set_option maxRecDepth 100000 in
theorem c_X2_tellMinute {X : (Nat → Prop) → State → Prop} (hxo : xok X) (l : Launch) (D : va_G) (q : Cq) {dm : List Nat} {kd ln ad : Nat → Nat} (V : Mv) (J : Mj) (R : Mr) (k : Nat) (hk : k ∈ dm) (hd : kd k = 3) : CtV X l yX2_tellMinute wsX2_tellMinute ({ frames := 0, cells := 0, slots := 0, locals := 0 }) D q dm kd ln ad V J R [.ref (ad k)] (u2 V k 0 (V k 0 + 1)) (u2 (u2 J k 4 (J k 4 + 1)) k 2 (J k 2 + (V k 1).toInt64)) (R) := by
  refine CtV_of (cc := cX2_tellMinute) (maxL := 1) (ret := none) (by decide +kernel) rfl (Nat.le_of_ble_eq_true rfl) ?_
  intro p e s m below meth c A hx hb hr hml hts hown hlk hmn hK hW hA hXs ls hl
  have hS : va_S A s.heap s.heap [] := va_S.rf
  have hl : lv_has ls 1 [(0, .ref (ad k))] := hl
  have hin_TX2 : ∀ w ∈ u_ws RX2 TX2 5, w ∈ wsX2_tellMinute := by decide +kernel
  refine lv_aload_n hx hb dX2_tellMinute_0 rfl (lv_at hl 0 rfl) ?_
  refine lv_dup hx hb dX2_tellMinute_1 rfl ?_
  refine w_get (ci := 3) (T := TX2) hx hb hts hin_TX2 hown hK hW hk hd (by decide) rfl 0 (by decide) (hts (.fieldLink RX2 7 "TownClocks$Master" "minute" "I") (by decide +kernel)) (fun _ h9 => h9) rfl dX2_tellMinute_2 ?_
  refine lv_iconst (v := 1) hx hb dX2_tellMinute_5 (by decide) ?_
  refine lv_iadd hx hb dX2_tellMinute_6 ?_
  refine w_puti (ci := 3) (T := TX2) (ty := .int) hx hb hts hin_TX2 tyX2 tyX2_ok nmX2 hown hK hW hS hk hd (by decide) rfl 0 (by decide) (hts (.fieldLink RX2 7 "TownClocks$Master" "minute" "I") (by decide +kernel)) (fun _ h9 => h9) rfl (tyX2_ok 0 (by decide)) rfl rfl (Nat.le_of_ble_eq_true rfl) rfl dX2_tellMinute_7 (fun H locs hW hS => ?_)
  refine lv_aload_n hx hb dX2_tellMinute_10 rfl (lv_at hl 0 rfl) ?_
  refine lv_dup hx hb dX2_tellMinute_11 rfl ?_
  refine w_get (ci := 3) (T := TX2) hx hb hts hin_TX2 hown hK hW hk hd (by decide) rfl 4 (by decide) (hts (.fieldLink RX2 13 "TownClocks$Master" "minutesSinceSighting" "J") (by decide +kernel)) (fun _ h9 => h9) rfl dX2_tellMinute_12 ?_
  refine lv_lconst (v := 1) hx hb dX2_tellMinute_15 (by decide) ?_
  refine lv_ladd hx hb dX2_tellMinute_16 ?_
  refine w_putl (ci := 3) (T := TX2) (ty := .long) hx hb hts hin_TX2 tyX2 tyX2_ok nmX2 hown hK hW hS hk hd (by decide) rfl 4 (by decide) (hts (.fieldLink RX2 13 "TownClocks$Master" "minutesSinceSighting" "J") (by decide +kernel)) (fun _ h9 => h9) rfl (tyX2_ok 4 (by decide)) rfl rfl (Nat.le_of_ble_eq_true rfl) rfl dX2_tellMinute_17 (fun H locs hW hS => ?_)
  refine lv_aload_n hx hb dX2_tellMinute_20 rfl (lv_at hl 0 rfl) ?_
  refine lv_dup hx hb dX2_tellMinute_21 rfl ?_
  refine w_get (ci := 3) (T := TX2) hx hb hts hin_TX2 hown hK hW hk hd (by decide) rfl 2 (by decide) (hts (.fieldLink RX2 17 "TownClocks$Master" "off" "J") (by decide +kernel)) (fun _ h9 => h9) rfl dX2_tellMinute_22 ?_
  refine w_j (by rw [u2_sn (by decide)]) ?_
  refine lv_aload_n hx hb dX2_tellMinute_25 rfl (lv_at hl 0 rfl) ?_
  refine w_get (ci := 3) (T := TX2) hx hb hts hin_TX2 hown hK hW hk hd (by decide) rfl 1 (by decide) (hts (.fieldLink RX2 20 "TownClocks$Master" "drift" "I") (by decide +kernel)) (fun _ h9 => h9) rfl dX2_tellMinute_26 ?_
  refine w_i (by rw [u2_sn (by decide)]) ?_
  refine lv_i2l hx hb dX2_tellMinute_29 rfl ?_
  refine lv_ladd hx hb dX2_tellMinute_30 ?_
  refine w_putl (ci := 3) (T := TX2) (ty := .long) hx hb hts hin_TX2 tyX2 tyX2_ok nmX2 hown hK hW hS hk hd (by decide) rfl 2 (by decide) (hts (.fieldLink RX2 17 "TownClocks$Master" "off" "J") (by decide +kernel)) (fun _ h9 => h9) rfl (tyX2_ok 2 (by decide)) rfl rfl (Nat.le_of_ble_eq_true rfl) rfl dX2_tellMinute_31 (fun H locs hW hS => ?_)
  exact w_vret hx hb hr hlk hW hS rfl rfl rfl dX2_tellMinute_34
set_option maxHeartbeats 4000000 in
set_option maxRecDepth 100000 in
theorem c_X2_putRightByStars {X : (Nat → Prop) → State → Prop} (hxo : xok X) (l : Launch) (D : va_G) (q : Cq) {dm : List Nat} {kd ln ad : Nat → Nat} (V : Mv) (J : Mj) (R : Mr) (k : Nat) (hk : k ∈ dm) (hd : kd k = 3) : CtL X l yX2_putRightByStars wsX2_putRightByStars ({ frames := 0, cells := 0, slots := 0, locals := 0 }) D q dm kd ln ad V J R [.ref (ad k)] (J k 2) (u2 V k 3 (V k 3 + 1)) (u2 (u2 J k 2 0) k 4 0) (R) := by
  refine CtL_of (cc := cX2_putRightByStars) (maxL := 3) (ret := (some .long)) (by decide +kernel) rfl (Nat.le_of_ble_eq_true rfl) ?_
  intro p e s m below meth c A hx hb hr hml hts hown hlk hmn hK hW hA hXs ls hl
  have hS : va_S A s.heap s.heap [] := va_S.rf
  have hl : lv_has ls 3 [(0, .ref (ad k))] := hl
  have hin_TX2 : ∀ w ∈ u_ws RX2 TX2 5, w ∈ wsX2_putRightByStars := by decide +kernel
  refine lv_aload_n hx hb dX2_putRightByStars_0 rfl (lv_at hl 0 rfl) ?_
  refine w_get (ci := 3) (T := TX2) hx hb hts hin_TX2 hown hK hW hk hd (by decide) rfl 2 (by decide) (hts (.fieldLink RX2 17 "TownClocks$Master" "off" "J") (by decide +kernel)) (fun _ h9 => h9) rfl dX2_putRightByStars_1 ?_
  refine lv_lstore_n (lv' := [(1, .long (J k 2)), (0, .ref (ad k))]) hx hb dX2_putRightByStars_4 rfl hl (by decide) rfl (fun ls hl => ?_)
  refine lv_aload_n hx hb dX2_putRightByStars_5 rfl (lv_at hl 1 rfl) ?_
  refine lv_lconst (v := 0) hx hb dX2_putRightByStars_6 (by decide) ?_
  refine w_putl (ci := 3) (T := TX2) (ty := .long) hx hb hts hin_TX2 tyX2 tyX2_ok nmX2 hown hK hW hS hk hd (by decide) rfl 2 (by decide) (hts (.fieldLink RX2 17 "TownClocks$Master" "off" "J") (by decide +kernel)) (fun _ h9 => h9) rfl (tyX2_ok 2 (by decide)) rfl rfl (Nat.le_of_ble_eq_true rfl) rfl dX2_putRightByStars_7 (fun H locs hW hS => ?_)
  refine lv_aload_n hx hb dX2_putRightByStars_10 rfl (lv_at hl 1 rfl) ?_
  refine lv_lconst (v := 0) hx hb dX2_putRightByStars_11 (by decide) ?_
  refine w_putl (ci := 3) (T := TX2) (ty := .long) hx hb hts hin_TX2 tyX2 tyX2_ok nmX2 hown hK hW hS hk hd (by decide) rfl 4 (by decide) (hts (.fieldLink RX2 13 "TownClocks$Master" "minutesSinceSighting" "J") (by decide +kernel)) (fun _ h9 => h9) rfl (tyX2_ok 4 (by decide)) rfl rfl (Nat.le_of_ble_eq_true rfl) rfl dX2_putRightByStars_12 (fun H locs hW hS => ?_)
  refine lv_aload_n hx hb dX2_putRightByStars_15 rfl (lv_at hl 1 rfl) ?_
  refine lv_dup hx hb dX2_putRightByStars_16 rfl ?_
  refine w_get (ci := 3) (T := TX2) hx hb hts hin_TX2 hown hK hW hk hd (by decide) rfl 3 (by decide) (hts (.fieldLink RX2 23 "TownClocks$Master" "sightings" "I") (by decide +kernel)) (fun _ h9 => h9) rfl dX2_putRightByStars_17 ?_
  refine lv_iconst (v := 1) hx hb dX2_putRightByStars_20 (by decide) ?_
  refine lv_iadd hx hb dX2_putRightByStars_21 ?_
  refine w_puti (ci := 3) (T := TX2) (ty := .int) hx hb hts hin_TX2 tyX2 tyX2_ok nmX2 hown hK hW hS hk hd (by decide) rfl 3 (by decide) (hts (.fieldLink RX2 23 "TownClocks$Master" "sightings" "I") (by decide +kernel)) (fun _ h9 => h9) rfl (tyX2_ok 3 (by decide)) rfl rfl (Nat.le_of_ble_eq_true rfl) rfl dX2_putRightByStars_22 (fun H locs hW hS => ?_)
  refine lv_lload_n hx hb dX2_putRightByStars_25 rfl (lv_at hl 0 rfl) ?_
  exact w_lret hx hb hr hlk hW hS rfl rfl rfl rfl dX2_putRightByStars_26
set_option maxHeartbeats 4000000 in
set_option maxRecDepth 100000 in
theorem c_X7_leak {X : (Nat → Prop) → State → Prop} (hxo : xok X) (l : Launch) (D : va_G) (q : Cq) {dm : List Nat} {kd ln ad : Nat → Nat} (V : Mv) (J : Mj) (R : Mr) (nP nD : Nat) (x v : Int32) (hX : okX dm kd ln R nP nD) (hp : V 1 2 = nI nP) (hq : V 2 2 = nI nD)  : CtI X l yX7_leak wsX7_leak ({ frames := 4, cells := 0, slots := 0, locals := 85 }) D q dm kd ln ad V J R [.ref (ad 0), .int x, .int v] (x_leak V nP x v) (x_leakV V nP x v) (J) (R) := by
  refine CtI_of (cc := cX7_leak) (maxL := 5) (ret := (some .int)) (by decide +kernel) rfl (Nat.le_of_ble_eq_true rfl) ?_
  intro p e s m below meth c A hx hb hr hml hts hown hlk hmn hK hW hA hXs ls hl
  have hS : va_S A s.heap s.heap [] := va_S.rf
  have hl : lv_has ls 5 [(0, .ref (ad 0)), (1, .int x), (2, .int v)] := hl
  have hin_TX3 : ∀ w ∈ u_ws RX3 TX3 6, w ∈ wsX7_leak := by decide +kernel
  refine lv_aload_n hx hb dX7_leak_0 rfl (lv_at hl 0 rfl) ?_
  refine lv_iload_n hx hb dX7_leak_1 rfl (lv_at hl 1 rfl) ?_
  refine w_cq (w_runV ⟨hx, hb, hml, hown, hts⟩ (c_X7_pipeAt hxo l D q V J R nP nD x hX hp) hxo (cwV 1 hts gX7_leak_X7_pipeAt rfl rfl rfl (by decide +kernel) ⟨Nat.le_of_ble_eq_true rfl, Nat.le_of_ble_eq_true rfl⟩) hK hW hS hA hXs (w_rcv hK hW (hX.1 0 (by decide)).1 (hX.1 0 (by decide)).2.1 (by decide) rfl) rfl hl.1 rfl (Nat.le_of_ble_eq_true rfl) dX7_leak_2 ⟨Nat.zero_le _, Nat.zero_le _⟩) hW hS hA (fun H locs hW hS => ?_)
  by_cases hix : inx nP x
  · refine w_some (by rw [x_at, if_pos hix]) ?_
    refine lv_astore_n (lv' := [(3, .ref (ad (100 + x.toNatClampNeg))), (0, .ref (ad 0)), (1, .int x), (2, .int v)]) hx hb dX7_leak_5 rfl hl (by decide) rfl (fun ls hl => ?_)
    refine lv_aload_n hx hb dX7_leak_6 rfl (lv_at hl 0 rfl) ?_
    refine lv_ifnull hx hb dX7_leak_7 ?_
    refine lv_iload_n hx hb dX7_leak_10 rfl (lv_at hl 3 rfl) ?_
    refine lv_iconst (v := 0) hx hb dX7_leak_11 (by decide) ?_
    refine lv_bipush (v := 60) hx hb dX7_leak_12 (by decide) ?_
    refine w_ci (w_runS ⟨hx, hb, hml, hown, hts⟩ (c_X7_within hxo l D q V J R v 0 60 ) hxo (va_cwS 3 hts gX7_leak_X7_within rfl rfl rfl (by decide +kernel) ⟨Nat.le_of_ble_eq_true rfl, Nat.le_of_ble_eq_true rfl⟩) hK hW hS hA hXs rfl hl.1 rfl (Nat.le_of_ble_eq_true rfl) dX7_leak_14 ⟨Nat.zero_le _, Nat.zero_le _⟩) hW hS hA (fun H locs hW hS => ?_)
    refine w_ifnz (tgt := 23) hx hb dX7_leak_17 (by decide) (fun c_17 => ?_) (fun c_17 => ?_)
    · refine lv_aload_n hx hb dX7_leak_23 rfl (lv_at hl 0 rfl) ?_
      refine w_get (ci := 4) (T := TX3) hx hb hts hin_TX3 hown hK hW (hX.2.2.1 x.toNatClampNeg (inx_c hix).1).1 (hX.2.2.1 x.toNatClampNeg (inx_c hix).1).2.1 (by decide) rfl 5 (by decide) (hts (.fieldLink RX7 76 "TownClocks$Pipe" "leak" "I") (by decide +kernel)) (fun _ h9 => h9) rfl dX7_leak_24 ?_
      refine lv_istore (lv' := [(4, .int (V (100 + x.toNatClampNeg) 5)), (3, .ref (ad (100 + x.toNatClampNeg))), (0, .ref (ad 0)), (1, .int x), (2, .int v)]) hx hb dX7_leak_27 hl (by decide) rfl (fun ls hl => ?_)
      refine lv_aload_n hx hb dX7_leak_29 rfl (lv_at hl 1 rfl) ?_
      refine lv_iload_n hx hb dX7_leak_30 rfl (lv_at hl 4 rfl) ?_
      refine w_puti (ci := 4) (T := TX3) (ty := .int) hx hb hts hin_TX3 tyX3 tyX3_ok nmX3 hown hK hW hS (hX.2.2.1 x.toNatClampNeg (inx_c hix).1).1 (hX.2.2.1 x.toNatClampNeg (inx_c hix).1).2.1 (by decide) rfl 5 (by decide) (hts (.fieldLink RX7 76 "TownClocks$Pipe" "leak" "I") (by decide +kernel)) (fun _ h9 => h9) rfl (tyX3_ok 5 (by decide)) rfl rfl (Nat.le_of_ble_eq_true rfl) rfl dX7_leak_31 (fun H locs hW hS => ?_)
      refine lv_iload hx hb dX7_leak_34 (lv_at hl 0 rfl) ?_
      exact w_iret hx hb hr hlk hW hS (by first | rfl | (simp only [x_leak, x_leakV, if_pos hix, if_pos c_17, hix, c_17, ↓reduceIte]; done) | simp [bz, x_leak, x_leakV, if_pos hix, if_pos c_17, hix, c_17]) (by first | rfl | (simp only [x_leak, x_leakV, if_pos hix, if_pos c_17, hix, c_17, ↓reduceIte]; done) | simp [bz, x_leak, x_leakV, if_pos hix, if_pos c_17, hix, c_17]) rfl rfl dX7_leak_36
    · refine lv_ldc (v := -1000001) hx hb hown (hts (.constant RX7 57 (-1000001)) (by decide +kernel)) dX7_leak_20 ?_
      exact w_iret hx hb hr hlk hW hS (by first | rfl | (simp only [x_leak, x_leakV, if_pos hix, if_neg c_17, hix, c_17, ↓reduceIte]; done) | simp [bz, x_leak, x_leakV, if_pos hix, if_neg c_17, hix, c_17]) (by first | rfl | (simp only [x_leak, x_leakV, if_pos hix, if_neg c_17, hix, c_17, ↓reduceIte]; done) | simp [bz, x_leak, x_leakV, if_pos hix, if_neg c_17, hix, c_17]) rfl rfl dX7_leak_22
  · refine w_none (by rw [x_at, if_neg hix]) ?_
    refine lv_astore_nN (lv' := [(3, .null), (0, .ref (ad 0)), (1, .int x), (2, .int v)]) hx hb dX7_leak_5 rfl hl (by decide) rfl (fun ls hl => ?_)
    refine lv_aload_nN hx hb dX7_leak_6 rfl (lv_at hl 0 rfl) ?_
    refine lv_ifnullN (tgt := 20) hx hb dX7_leak_7 (by decide) ?_
    refine lv_ldc (v := -1000001) hx hb hown (hts (.constant RX7 57 (-1000001)) (by decide +kernel)) dX7_leak_20 ?_
    exact w_iret hx hb hr hlk hW hS (by first | rfl | (simp only [x_leak, x_leakV, if_neg hix, hix, ↓reduceIte]; done) | simp [bz, x_leak, x_leakV, if_neg hix, hix]) (by first | rfl | (simp only [x_leak, x_leakV, if_neg hix, hix, ↓reduceIte]; done) | simp [bz, x_leak, x_leakV, if_neg hix, hix]) rfl rfl dX7_leak_22
set_option maxHeartbeats 4000000 in
set_option maxRecDepth 100000 in
theorem c_X7_told {X : (Nat → Prop) → State → Prop} (hxo : xok X) (l : Launch) (D : va_G) (q : Cq) {dm : List Nat} {kd ln ad : Nat → Nat} (V : Mv) (J : Mj) (R : Mr) (nP nD : Nat) (x v : Int32) (hX : okX dm kd ln R nP nD) (hp : V 1 2 = nI nP) (hq : V 2 2 = nI nD)  : CtI X l yX7_told wsX7_told ({ frames := 4, cells := 0, slots := 0, locals := 85 }) D q dm kd ln ad V J R [.ref (ad 0), .int x, .int v] (x_told V R nP x v) (V) (J) (R) := by
  refine CtI_of (cc := cX7_told) (maxL := 4) (ret := (some .int)) (by decide +kernel) rfl (Nat.le_of_ble_eq_true rfl) ?_
  intro p e s m below meth c A hx hb hr hml hts hown hlk hmn hK hW hA hXs ls hl
  have hS : va_S A s.heap s.heap [] := va_S.rf
  have hl : lv_has ls 4 [(0, .ref (ad 0)), (1, .int x), (2, .int v)] := hl
  have hin_TX3 : ∀ w ∈ u_ws RX3 TX3 6, w ∈ wsX7_told := by decide +kernel
  refine lv_aload_n hx hb dX7_told_0 rfl (lv_at hl 0 rfl) ?_
  refine lv_iload_n hx hb dX7_told_1 rfl (lv_at hl 1 rfl) ?_
  refine w_cq (w_runV ⟨hx, hb, hml, hown, hts⟩ (c_X7_pipeAt hxo l D q V J R nP nD x hX hp) hxo (cwV 1 hts gX7_told_X7_pipeAt rfl rfl rfl (by decide +kernel) ⟨Nat.le_of_ble_eq_true rfl, Nat.le_of_ble_eq_true rfl⟩) hK hW hS hA hXs (w_rcv hK hW (hX.1 0 (by decide)).1 (hX.1 0 (by decide)).2.1 (by decide) rfl) rfl hl.1 rfl (Nat.le_of_ble_eq_true rfl) dX7_told_2 ⟨Nat.zero_le _, Nat.zero_le _⟩) hW hS hA (fun H locs hW hS => ?_)
  by_cases hix : inx nP x
  · refine w_some (by rw [x_at, if_pos hix]) ?_
    refine lv_astore_n (lv' := [(3, .ref (ad (100 + x.toNatClampNeg))), (0, .ref (ad 0)), (1, .int x), (2, .int v)]) hx hb dX7_told_5 rfl hl (by decide) rfl (fun ls hl => ?_)
    refine lv_aload_n hx hb dX7_told_6 rfl (lv_at hl 0 rfl) ?_
    refine lv_ifnonnull (tgt := 13) hx hb dX7_told_7 (by decide) ?_
    refine lv_iload_n hx hb dX7_told_13 rfl (lv_at hl 3 rfl) ?_
    by_cases c_14_0 : v = 0
    · refine w_i c_14_0 ?_
      refine lv_tableIn (tgt := 40) hx hb dX7_told_14 (by decide) (by decide) (off := 26) (by decide) (by decide) ?_
      refine lv_aload_n hx hb dX7_told_40 rfl (lv_at hl 0 rfl) ?_
      refine w_ci (w_runV ⟨hx, hb, hml, hown, hts⟩ (c_X3_air hxo l D q V J R nP nD x.toNatClampNeg hX (inx_c hix).1) hxo (cwV 0 hts gX7_told_X3_air rfl rfl rfl (by decide +kernel) ⟨Nat.le_of_ble_eq_true rfl, Nat.le_of_ble_eq_true rfl⟩) hK hW hS hA hXs (w_rcv hK hW (hX.2.2.1 x.toNatClampNeg (inx_c hix).1).1 (hX.2.2.1 x.toNatClampNeg (inx_c hix).1).2.1 (by decide) rfl) rfl hl.1 rfl (Nat.le_of_ble_eq_true rfl) dX7_told_41 ⟨Nat.zero_le _, Nat.zero_le _⟩) hW hS hA (fun H locs hW hS => ?_)
      exact w_iret hx hb hr hlk hW hS (by first | rfl | (simp only [x_told, if_pos hix, if_pos c_14_0, hix, c_14_0, ↓reduceIte]; done) | simp [bz, x_told, if_pos hix, if_pos c_14_0, hix, c_14_0]) rfl rfl rfl dX7_told_44
    by_cases c_14_1 : v = 1
    · refine w_i c_14_1 ?_
      refine lv_tableIn (tgt := 45) hx hb dX7_told_14 (by decide) (by decide) (off := 31) (by decide) (by decide) ?_
      refine lv_aload_n hx hb dX7_told_45 rfl (lv_at hl 0 rfl) ?_
      refine w_get (ci := 4) (T := TX3) hx hb hts hin_TX3 hown hK hW (hX.2.2.1 x.toNatClampNeg (inx_c hix).1).1 (hX.2.2.1 x.toNatClampNeg (inx_c hix).1).2.1 (by decide) rfl 3 (by decide) (hts (.fieldLink RX7 83 "TownClocks$Pipe" "lagInAll" "I") (by decide +kernel)) (fun _ h9 => h9) rfl dX7_told_46 ?_
      exact w_iret hx hb hr hlk hW hS (by first | rfl | (simp only [x_told, if_pos hix, if_neg c_14_0, if_pos c_14_1, hix, c_14_0, c_14_1, ↓reduceIte]; done) | simp [bz, x_told, if_pos hix, if_neg c_14_0, if_pos c_14_1, hix, c_14_0, c_14_1]) rfl rfl rfl dX7_told_49
    by_cases c_14_2 : v = 2
    · refine w_i c_14_2 ?_
      refine lv_tableIn (tgt := 50) hx hb dX7_told_14 (by decide) (by decide) (off := 36) (by decide) (by decide) ?_
      refine lv_aload_n hx hb dX7_told_50 rfl (lv_at hl 0 rfl) ?_
      refine w_get (ci := 4) (T := TX3) hx hb hts hin_TX3 hown hK hW (hX.2.2.1 x.toNatClampNeg (inx_c hix).1).1 (hX.2.2.1 x.toNatClampNeg (inx_c hix).1).2.1 (by decide) rfl 5 (by decide) (hts (.fieldLink RX7 76 "TownClocks$Pipe" "leak" "I") (by decide +kernel)) (fun _ h9 => h9) rfl dX7_told_51 ?_
      exact w_iret hx hb hr hlk hW hS (by first | rfl | (simp only [x_told, if_pos hix, if_neg c_14_0, if_neg c_14_1, if_pos c_14_2, hix, c_14_0, c_14_1, c_14_2, ↓reduceIte]; done) | simp [bz, x_told, if_pos hix, if_neg c_14_0, if_neg c_14_1, if_pos c_14_2, hix, c_14_0, c_14_1, c_14_2]) rfl rfl rfl dX7_told_54
    refine lv_tableOut (tgt := 55) hx hb dX7_told_14 (by have h0 := i32_neL c_14_0 (k := 0) (by decide); have h1 := i32_neL c_14_1 (k := 1) (by decide); have h2 := i32_neL c_14_2 (k := 2) (by decide); omega) (by decide) ?_
    refine lv_ldc (v := -1000001) hx hb hown (hts (.constant RX7 57 (-1000001)) (by decide +kernel)) dX7_told_55 ?_
    exact w_iret hx hb hr hlk hW hS (by first | rfl | (simp only [x_told, if_pos hix, if_neg c_14_0, if_neg c_14_1, if_neg c_14_2, hix, c_14_0, c_14_1, c_14_2, ↓reduceIte]; done) | simp [bz, x_told, if_pos hix, if_neg c_14_0, if_neg c_14_1, if_neg c_14_2, hix, c_14_0, c_14_1, c_14_2]) rfl rfl rfl dX7_told_57
  · refine w_none (by rw [x_at, if_neg hix]) ?_
    refine lv_astore_nN (lv' := [(3, .null), (0, .ref (ad 0)), (1, .int x), (2, .int v)]) hx hb dX7_told_5 rfl hl (by decide) rfl (fun ls hl => ?_)
    refine lv_aload_nN hx hb dX7_told_6 rfl (lv_at hl 0 rfl) ?_
    refine lv_ifnonnullN hx hb dX7_told_7 ?_
    refine lv_ldc (v := -1000001) hx hb hown (hts (.constant RX7 57 (-1000001)) (by decide +kernel)) dX7_told_10 ?_
    exact w_iret hx hb hr hlk hW hS (by first | rfl | (simp only [x_told, if_neg hix, hix, ↓reduceIte]; done) | simp [bz, x_told, if_neg hix, hix]) rfl rfl rfl dX7_told_12
set_option maxHeartbeats 4000000 in
set_option maxRecDepth 100000 in
theorem c_X7_drift {X : (Nat → Prop) → State → Prop} (hxo : xok X) (l : Launch) (D : va_G) (q : Cq) {dm : List Nat} {kd ln ad : Nat → Nat} (V : Mv) (J : Mj) (R : Mr) (nP nD : Nat) (v : Int32) (hX : okX dm kd ln R nP nD) (hp : V 1 2 = nI nP) (hq : V 2 2 = nI nD)  : CtI X l yX7_drift wsX7_drift ({ frames := 1, cells := 0, slots := 0, locals := 22 }) D q dm kd ln ad V J R [.ref (ad 0), .int v] (x_drift V v) (x_driftV V v) (J) (R) := by
  refine CtI_of (cc := cX7_drift) (maxL := 3) (ret := (some .int)) (by decide +kernel) rfl (Nat.le_of_ble_eq_true rfl) ?_
  intro p e s m below meth c A hx hb hr hml hts hown hlk hmn hK hW hA hXs ls hl
  have hS : va_S A s.heap s.heap [] := va_S.rf
  have hl : lv_has ls 3 [(0, .ref (ad 0)), (1, .int v)] := hl
  have hin_TX7 : ∀ w ∈ u_ws RX7 TX7 8, w ∈ wsX7_drift := by decide +kernel
  have hin_TX2 : ∀ w ∈ u_ws RX2 TX2 5, w ∈ wsX7_drift := by decide +kernel
  refine lv_iload_n hx hb dX7_drift_0 rfl (lv_at hl 1 rfl) ?_
  refine lv_bipush (v := (-5)) hx hb dX7_drift_1 (by decide) ?_
  refine lv_iconst (v := 5) hx hb dX7_drift_3 (by decide) ?_
  refine w_ci (w_runS ⟨hx, hb, hml, hown, hts⟩ (c_X7_within hxo l D q V J R v (-5) 5 ) hxo (va_cwS 3 hts gX7_drift_X7_within rfl rfl rfl (by decide +kernel) ⟨Nat.le_of_ble_eq_true rfl, Nat.le_of_ble_eq_true rfl⟩) hK hW hS hA hXs rfl hl.1 rfl (Nat.le_of_ble_eq_true rfl) dX7_drift_4 ⟨Nat.zero_le _, Nat.zero_le _⟩) hW hS hA (fun H locs hW hS => ?_)
  refine w_ifnz (tgt := 13) hx hb dX7_drift_7 (by decide) (fun c_7 => ?_) (fun c_7 => ?_)
  · refine lv_aload_n hx hb dX7_drift_13 rfl (lv_at hl 0 rfl) ?_
    refine w_getr (ci := 8) (T := TX7) hx hb hts hin_TX7 hown hK hW (hX.1 0 (by decide)).1 (hX.1 0 (by decide)).2.1 (by decide) rfl 2 (by decide) (hts (.fieldLink RX7 22 "TownClocks" "master" "LTownClocks$Master;") (by decide +kernel)) (fun _ h9 => h9) rfl ((hX.1 0 (by decide)).2.2.2 2 3 rfl) dX7_drift_14 ?_
    refine w_get (ci := 3) (T := TX2) hx hb hts hin_TX2 hown hK hW (hX.1 3 (by decide)).1 (hX.1 3 (by decide)).2.1 (by decide) rfl 1 (by decide) (hts (.fieldLink RX7 110 "TownClocks$Master" "drift" "I") (by decide +kernel)) (fun _ h9 => h9) rfl dX7_drift_17 ?_
    refine lv_istore_n (lv' := [(2, .int (V 3 1)), (0, .ref (ad 0)), (1, .int v)]) hx hb dX7_drift_20 rfl hl (by decide) rfl (fun ls hl => ?_)
    refine lv_aload_n hx hb dX7_drift_21 rfl (lv_at hl 1 rfl) ?_
    refine w_getr (ci := 8) (T := TX7) hx hb hts hin_TX7 hown hK hW (hX.1 0 (by decide)).1 (hX.1 0 (by decide)).2.1 (by decide) rfl 2 (by decide) (hts (.fieldLink RX7 22 "TownClocks" "master" "LTownClocks$Master;") (by decide +kernel)) (fun _ h9 => h9) rfl ((hX.1 0 (by decide)).2.2.2 2 3 rfl) dX7_drift_22 ?_
    refine lv_iload_n hx hb dX7_drift_25 rfl (lv_at hl 2 rfl) ?_
    refine w_puti (ci := 3) (T := TX2) (ty := .int) hx hb hts hin_TX2 tyX2 tyX2_ok nmX2 hown hK hW hS (hX.1 3 (by decide)).1 (hX.1 3 (by decide)).2.1 (by decide) rfl 1 (by decide) (hts (.fieldLink RX7 110 "TownClocks$Master" "drift" "I") (by decide +kernel)) (fun _ h9 => h9) rfl (tyX2_ok 1 (by decide)) rfl rfl (Nat.le_of_ble_eq_true rfl) rfl dX7_drift_26 (fun H locs hW hS => ?_)
    refine lv_iload_n hx hb dX7_drift_29 rfl (lv_at hl 0 rfl) ?_
    exact w_iret hx hb hr hlk hW hS (by first | rfl | (simp only [x_drift, x_driftV, if_pos c_7, c_7, ↓reduceIte]; done) | simp [bz, x_drift, x_driftV, if_pos c_7, c_7]) (by first | rfl | (simp only [x_drift, x_driftV, if_pos c_7, c_7, ↓reduceIte]; done) | simp [bz, x_drift, x_driftV, if_pos c_7, c_7]) rfl rfl dX7_drift_30
  · refine lv_ldc (v := -1000001) hx hb hown (hts (.constant RX7 57 (-1000001)) (by decide +kernel)) dX7_drift_10 ?_
    exact w_iret hx hb hr hlk hW hS (by first | rfl | (simp only [x_drift, x_driftV, if_neg c_7, c_7, ↓reduceIte]; done) | simp [bz, x_drift, x_driftV, if_neg c_7, c_7]) (by first | rfl | (simp only [x_drift, x_driftV, if_neg c_7, c_7, ↓reduceIte]; done) | simp [bz, x_drift, x_driftV, if_neg c_7, c_7]) rfl rfl dX7_drift_12
set_option maxHeartbeats 4000000 in
set_option maxRecDepth 100000 in
theorem c_X7_sight {X : (Nat → Prop) → State → Prop} (hxo : xok X) (l : Launch) (D : va_G) (q : Cq) {dm : List Nat} {kd ln ad : Nat → Nat} (V : Mv) (J : Mj) (R : Mr) (nP nD : Nat)  (hX : okX dm kd ln R nP nD) (hp : V 1 2 = nI nP) (hq : V 2 2 = nI nD)  : CtL X l yX7_sight wsX7_sight ({ frames := 1, cells := 0, slots := 0, locals := 22 }) D q dm kd ln ad V J R [.ref (ad 0)] (J 3 2) (u2 V 3 3 (V 3 3 + 1)) (u2 (u2 J 3 2 0) 3 4 0) (R) := by
  refine CtL_of (cc := cX7_sight) (maxL := 1) (ret := (some .long)) (by decide +kernel) rfl (Nat.le_of_ble_eq_true rfl) ?_
  intro p e s m below meth c A hx hb hr hml hts hown hlk hmn hK hW hA hXs ls hl
  have hS : va_S A s.heap s.heap [] := va_S.rf
  have hl : lv_has ls 1 [(0, .ref (ad 0))] := hl
  have hin_TX7 : ∀ w ∈ u_ws RX7 TX7 8, w ∈ wsX7_sight := by decide +kernel
  refine lv_aload_n hx hb dX7_sight_0 rfl (lv_at hl 0 rfl) ?_
  refine w_getr (ci := 8) (T := TX7) hx hb hts hin_TX7 hown hK hW (hX.1 0 (by decide)).1 (hX.1 0 (by decide)).2.1 (by decide) rfl 2 (by decide) (hts (.fieldLink RX7 22 "TownClocks" "master" "LTownClocks$Master;") (by decide +kernel)) (fun _ h9 => h9) rfl ((hX.1 0 (by decide)).2.2.2 2 3 rfl) dX7_sight_1 ?_
  refine w_cl (w_runV ⟨hx, hb, hml, hown, hts⟩ (c_X2_putRightByStars hxo l D q V J R 3 (hX.1 3 (by decide)).1 (hX.1 3 (by decide)).2.1) hxo (cwV 0 hts gX7_sight_X2_putRightByStars rfl rfl rfl (by decide +kernel) ⟨Nat.le_of_ble_eq_true rfl, Nat.le_of_ble_eq_true rfl⟩) hK hW hS hA hXs (w_rcv hK hW (hX.1 3 (by decide)).1 (hX.1 3 (by decide)).2.1 (by decide) rfl) rfl hl.1 rfl (Nat.le_of_ble_eq_true rfl) dX7_sight_4 ⟨Nat.zero_le _, Nat.zero_le _⟩) hW hS hA (fun H locs hW hS => ?_)
  exact w_lret hx hb hr hlk hW hS rfl rfl rfl rfl dX7_sight_7
set_option maxHeartbeats 4000000 in
set_option maxRecDepth 100000 in
theorem c_X7_now {X : (Nat → Prop) → State → Prop} (hxo : xok X) (l : Launch) (D : va_G) (q : Cq) {dm : List Nat} {kd ln ad : Nat → Nat} (V : Mv) (J : Mj) (R : Mr) (nP nD : Nat) (x : Int32) (hX : okX dm kd ln R nP nD) (hp : V 1 2 = nI nP) (hq : V 2 2 = nI nD)  : CtL X l yX7_now wsX7_now ({ frames := 0, cells := 0, slots := 0, locals := 0 }) D q dm kd ln ad V J R [.ref (ad 0), .int x] (x_now V J x) (V) (J) (R) := by
  refine CtL_of (cc := cX7_now) (maxL := 2) (ret := (some .long)) (by decide +kernel) rfl (Nat.le_of_ble_eq_true rfl) ?_
  intro p e s m below meth c A hx hb hr hml hts hown hlk hmn hK hW hA hXs ls hl
  have hS : va_S A s.heap s.heap [] := va_S.rf
  have hl : lv_has ls 2 [(0, .ref (ad 0)), (1, .int x)] := hl
  have hin_TX7 : ∀ w ∈ u_ws RX7 TX7 8, w ∈ wsX7_now := by decide +kernel
  have hin_TX2 : ∀ w ∈ u_ws RX2 TX2 5, w ∈ wsX7_now := by decide +kernel
  refine lv_iload_n hx hb dX7_now_0 rfl (lv_at hl 1 rfl) ?_
  by_cases c_1_0 : x = 0
  · refine w_i c_1_0 ?_
    refine lv_tableIn (tgt := 36) hx hb dX7_now_1 (by decide) (by decide) (off := 35) (by decide) (by decide) ?_
    refine lv_aload_n hx hb dX7_now_36 rfl (lv_at hl 0 rfl) ?_
    refine w_getr (ci := 8) (T := TX7) hx hb hts hin_TX7 hown hK hW (hX.1 0 (by decide)).1 (hX.1 0 (by decide)).2.1 (by decide) rfl 2 (by decide) (hts (.fieldLink RX7 22 "TownClocks" "master" "LTownClocks$Master;") (by decide +kernel)) (fun _ h9 => h9) rfl ((hX.1 0 (by decide)).2.2.2 2 3 rfl) dX7_now_37 ?_
    refine w_get (ci := 3) (T := TX2) hx hb hts hin_TX2 hown hK hW (hX.1 3 (by decide)).1 (hX.1 3 (by decide)).2.1 (by decide) rfl 0 (by decide) (hts (.fieldLink RX7 91 "TownClocks$Master" "minute" "I") (by decide +kernel)) (fun _ h9 => h9) rfl dX7_now_40 ?_
    refine lv_i2l hx hb dX7_now_43 rfl ?_
    exact w_lret hx hb hr hlk hW hS (by first | rfl | (simp only [x_now, if_pos c_1_0, c_1_0, ↓reduceIte]; done) | simp [bz, x_now, if_pos c_1_0, c_1_0]) rfl rfl rfl dX7_now_44
  by_cases c_1_1 : x = 1
  · refine w_i c_1_1 ?_
    refine lv_tableIn (tgt := 45) hx hb dX7_now_1 (by decide) (by decide) (off := 44) (by decide) (by decide) ?_
    refine lv_aload_n hx hb dX7_now_45 rfl (lv_at hl 0 rfl) ?_
    refine w_getr (ci := 8) (T := TX7) hx hb hts hin_TX7 hown hK hW (hX.1 0 (by decide)).1 (hX.1 0 (by decide)).2.1 (by decide) rfl 2 (by decide) (hts (.fieldLink RX7 22 "TownClocks" "master" "LTownClocks$Master;") (by decide +kernel)) (fun _ h9 => h9) rfl ((hX.1 0 (by decide)).2.2.2 2 3 rfl) dX7_now_46 ?_
    refine w_get (ci := 3) (T := TX2) hx hb hts hin_TX2 hown hK hW (hX.1 3 (by decide)).1 (hX.1 3 (by decide)).2.1 (by decide) rfl 2 (by decide) (hts (.fieldLink RX7 117 "TownClocks$Master" "off" "J") (by decide +kernel)) (fun _ h9 => h9) rfl dX7_now_49 ?_
    exact w_lret hx hb hr hlk hW hS (by first | rfl | (simp only [x_now, if_neg c_1_0, if_pos c_1_1, c_1_0, c_1_1, ↓reduceIte]; done) | simp [bz, x_now, if_neg c_1_0, if_pos c_1_1, c_1_0, c_1_1]) rfl rfl rfl dX7_now_52
  by_cases c_1_2 : x = 2
  · refine w_i c_1_2 ?_
    refine lv_tableIn (tgt := 53) hx hb dX7_now_1 (by decide) (by decide) (off := 52) (by decide) (by decide) ?_
    refine lv_ldc2 (v := -5) hx hb hown (hts (.constantLong RX7 121 (-5)) (by decide +kernel)) dX7_now_53 ?_
    refine lv_aload_n hx hb dX7_now_56 rfl (lv_at hl 0 rfl) ?_
    refine w_getr (ci := 8) (T := TX7) hx hb hts hin_TX7 hown hK hW (hX.1 0 (by decide)).1 (hX.1 0 (by decide)).2.1 (by decide) rfl 2 (by decide) (hts (.fieldLink RX7 22 "TownClocks" "master" "LTownClocks$Master;") (by decide +kernel)) (fun _ h9 => h9) rfl ((hX.1 0 (by decide)).2.2.2 2 3 rfl) dX7_now_57 ?_
    refine w_get (ci := 3) (T := TX2) hx hb hts hin_TX2 hown hK hW (hX.1 3 (by decide)).1 (hX.1 3 (by decide)).2.1 (by decide) rfl 4 (by decide) (hts (.fieldLink RX7 123 "TownClocks$Master" "minutesSinceSighting" "J") (by decide +kernel)) (fun _ h9 => h9) rfl dX7_now_60 ?_
    refine lv_lmul hx hb dX7_now_63 ?_
    exact w_lret hx hb hr hlk hW hS (by first | rfl | (simp only [x_now, if_neg c_1_0, if_neg c_1_1, if_pos c_1_2, c_1_0, c_1_1, c_1_2, ↓reduceIte]; done) | simp [bz, x_now, if_neg c_1_0, if_neg c_1_1, if_pos c_1_2, c_1_0, c_1_1, c_1_2]) rfl rfl rfl dX7_now_64
  by_cases c_1_3 : x = 3
  · refine w_i c_1_3 ?_
    refine lv_tableIn (tgt := 65) hx hb dX7_now_1 (by decide) (by decide) (off := 64) (by decide) (by decide) ?_
    refine lv_ldc2 (v := 5) hx hb hown (hts (.constantLong RX7 126 (5)) (by decide +kernel)) dX7_now_65 ?_
    refine lv_aload_n hx hb dX7_now_68 rfl (lv_at hl 0 rfl) ?_
    refine w_getr (ci := 8) (T := TX7) hx hb hts hin_TX7 hown hK hW (hX.1 0 (by decide)).1 (hX.1 0 (by decide)).2.1 (by decide) rfl 2 (by decide) (hts (.fieldLink RX7 22 "TownClocks" "master" "LTownClocks$Master;") (by decide +kernel)) (fun _ h9 => h9) rfl ((hX.1 0 (by decide)).2.2.2 2 3 rfl) dX7_now_69 ?_
    refine w_get (ci := 3) (T := TX2) hx hb hts hin_TX2 hown hK hW (hX.1 3 (by decide)).1 (hX.1 3 (by decide)).2.1 (by decide) rfl 4 (by decide) (hts (.fieldLink RX7 123 "TownClocks$Master" "minutesSinceSighting" "J") (by decide +kernel)) (fun _ h9 => h9) rfl dX7_now_72 ?_
    refine lv_lmul hx hb dX7_now_75 ?_
    exact w_lret hx hb hr hlk hW hS (by first | rfl | (simp only [x_now, if_neg c_1_0, if_neg c_1_1, if_neg c_1_2, if_pos c_1_3, c_1_0, c_1_1, c_1_2, c_1_3, ↓reduceIte]; done) | simp [bz, x_now, if_neg c_1_0, if_neg c_1_1, if_neg c_1_2, if_pos c_1_3, c_1_0, c_1_1, c_1_2, c_1_3]) rfl rfl rfl dX7_now_76
  by_cases c_1_4 : x = 4
  · refine w_i c_1_4 ?_
    refine lv_tableIn (tgt := 77) hx hb dX7_now_1 (by decide) (by decide) (off := 76) (by decide) (by decide) ?_
    refine lv_aload_n hx hb dX7_now_77 rfl (lv_at hl 0 rfl) ?_
    refine w_getr (ci := 8) (T := TX7) hx hb hts hin_TX7 hown hK hW (hX.1 0 (by decide)).1 (hX.1 0 (by decide)).2.1 (by decide) rfl 2 (by decide) (hts (.fieldLink RX7 22 "TownClocks" "master" "LTownClocks$Master;") (by decide +kernel)) (fun _ h9 => h9) rfl ((hX.1 0 (by decide)).2.2.2 2 3 rfl) dX7_now_78 ?_
    refine w_get (ci := 3) (T := TX2) hx hb hts hin_TX2 hown hK hW (hX.1 3 (by decide)).1 (hX.1 3 (by decide)).2.1 (by decide) rfl 3 (by decide) (hts (.fieldLink RX7 128 "TownClocks$Master" "sightings" "I") (by decide +kernel)) (fun _ h9 => h9) rfl dX7_now_81 ?_
    refine lv_i2l hx hb dX7_now_84 rfl ?_
    exact w_lret hx hb hr hlk hW hS (by first | rfl | (simp only [x_now, if_neg c_1_0, if_neg c_1_1, if_neg c_1_2, if_neg c_1_3, if_pos c_1_4, c_1_0, c_1_1, c_1_2, c_1_3, c_1_4, ↓reduceIte]; done) | simp [bz, x_now, if_neg c_1_0, if_neg c_1_1, if_neg c_1_2, if_neg c_1_3, if_pos c_1_4, c_1_0, c_1_1, c_1_2, c_1_3, c_1_4]) rfl rfl rfl dX7_now_85
  refine lv_tableOut (tgt := 86) hx hb dX7_now_1 (by have h0 := i32_neL c_1_0 (k := 0) (by decide); have h1 := i32_neL c_1_1 (k := 1) (by decide); have h2 := i32_neL c_1_2 (k := 2) (by decide); have h3 := i32_neL c_1_3 (k := 3) (by decide); have h4 := i32_neL c_1_4 (k := 4) (by decide); omega) (by decide) ?_
  refine lv_ldc2 (v := -1000001) hx hb hown (hts (.constantLong RX7 131 (-1000001)) (by decide +kernel)) dX7_now_86 ?_
  exact w_lret hx hb hr hlk hW hS (by first | rfl | (simp only [x_now, if_neg c_1_0, if_neg c_1_1, if_neg c_1_2, if_neg c_1_3, if_neg c_1_4, c_1_0, c_1_1, c_1_2, c_1_3, c_1_4, ↓reduceIte]; done) | simp [bz, x_now, if_neg c_1_0, if_neg c_1_1, if_neg c_1_2, if_neg c_1_3, if_neg c_1_4, c_1_0, c_1_1, c_1_2, c_1_3, c_1_4]) rfl rfl rfl dX7_now_89
set_option maxHeartbeats 4000000 in
set_option maxRecDepth 100000 in
theorem c_X7_look {X : (Nat → Prop) → State → Prop} (hxo : xok X) (l : Launch) (D : va_G) (q : Cq) {dm : List Nat} {kd ln ad : Nat → Nat} (V : Mv) (J : Mj) (R : Mr) (nP nD : Nat) (x : Int32) (hX : okX dm kd ln R nP nD) (hp : V 1 2 = nI nP) (hq : V 2 2 = nI nD)  : CtI X l yX7_look wsX7_look ({ frames := 4, cells := 0, slots := 0, locals := 85 }) D q dm kd ln ad V J R [.ref (ad 0), .int x] (x_look V nD x) (x_lookV V nD x) (J) (R) := by
  refine CtI_of (cc := cX7_look) (maxL := 3) (ret := (some .int)) (by decide +kernel) rfl (Nat.le_of_ble_eq_true rfl) ?_
  intro p e s m below meth c A hx hb hr hml hts hown hlk hmn hK hW hA hXs ls hl
  have hS : va_S A s.heap s.heap [] := va_S.rf
  have hl : lv_has ls 3 [(0, .ref (ad 0)), (1, .int x)] := hl
  have hin_TX0 : ∀ w ∈ u_ws RX0 TX0 12, w ∈ wsX7_look := by decide +kernel
  refine lv_aload_n hx hb dX7_look_0 rfl (lv_at hl 0 rfl) ?_
  refine lv_iload_n hx hb dX7_look_1 rfl (lv_at hl 1 rfl) ?_
  refine w_cq (w_runV ⟨hx, hb, hml, hown, hts⟩ (c_X7_dialAt hxo l D q V J R nP nD x hX hq) hxo (cwV 1 hts gX7_look_X7_dialAt rfl rfl rfl (by decide +kernel) ⟨Nat.le_of_ble_eq_true rfl, Nat.le_of_ble_eq_true rfl⟩) hK hW hS hA hXs (w_rcv hK hW (hX.1 0 (by decide)).1 (hX.1 0 (by decide)).2.1 (by decide) rfl) rfl hl.1 rfl (Nat.le_of_ble_eq_true rfl) dX7_look_2 ⟨Nat.zero_le _, Nat.zero_le _⟩) hW hS hA (fun H locs hW hS => ?_)
  by_cases hix : inx nD x
  · refine w_some (by rw [x_at, if_pos hix]) ?_
    refine lv_astore_n (lv' := [(2, .ref (ad (200 + x.toNatClampNeg))), (0, .ref (ad 0)), (1, .int x)]) hx hb dX7_look_5 rfl hl (by decide) rfl (fun ls hl => ?_)
    refine lv_aload_n hx hb dX7_look_6 rfl (lv_at hl 0 rfl) ?_
    refine lv_ifnonnull (tgt := 13) hx hb dX7_look_7 (by decide) ?_
    refine lv_aload_n hx hb dX7_look_13 rfl (lv_at hl 0 rfl) ?_
    refine w_cv (w_runV ⟨hx, hb, hml, hown, hts⟩ (c_X0_becomeKnown hxo l D q V J R (200 + x.toNatClampNeg) (hX.2.2.2.1 x.toNatClampNeg (inx_c hix).1).1 (hX.2.2.2.1 x.toNatClampNeg (inx_c hix).1).2.1) hxo (cwV 0 hts gX7_look_X0_becomeKnown rfl rfl rfl (by decide +kernel) ⟨Nat.le_of_ble_eq_true rfl, Nat.le_of_ble_eq_true rfl⟩) hK hW hS hA hXs (w_rcv hK hW (hX.2.2.2.1 x.toNatClampNeg (inx_c hix).1).1 (hX.2.2.2.1 x.toNatClampNeg (inx_c hix).1).2.1 (by decide) rfl) rfl hl.1 rfl (Nat.le_of_ble_eq_true rfl) dX7_look_14 ⟨Nat.zero_le _, Nat.zero_le _⟩) hW hS hA (fun H locs hW hS => ?_)
    refine lv_aload_n hx hb dX7_look_17 rfl (lv_at hl 0 rfl) ?_
    refine w_get (ci := 1) (T := TX0) hx hb hts hin_TX0 hown hK hW (hX.2.2.2.1 x.toNatClampNeg (inx_c hix).1).1 (hX.2.2.2.1 x.toNatClampNeg (inx_c hix).1).2.1 (by decide) rfl 3 (by decide) (hts (.fieldLink RX7 140 "TownClocks$Dial" "late" "I") (by decide +kernel)) (fun _ h9 => h9) rfl dX7_look_18 ?_
    exact w_iret hx hb hr hlk hW hS (by simp only [x_look, if_pos hix]; exact (show x_known V (200 + x.toNatClampNeg) (200 + x.toNatClampNeg) 3 = V (200 + x.toNatClampNeg) 3 from by rw [x_known, u2_sn (by decide), u2_sn (by decide)])) (by first | rfl | (simp only [x_look, x_lookV, if_pos hix, hix, ↓reduceIte]; done) | simp [bz, x_look, x_lookV, if_pos hix, hix]) rfl rfl dX7_look_21
  · refine w_none (by rw [x_at, if_neg hix]) ?_
    refine lv_astore_nN (lv' := [(2, .null), (0, .ref (ad 0)), (1, .int x)]) hx hb dX7_look_5 rfl hl (by decide) rfl (fun ls hl => ?_)
    refine lv_aload_nN hx hb dX7_look_6 rfl (lv_at hl 0 rfl) ?_
    refine lv_ifnonnullN hx hb dX7_look_7 ?_
    refine lv_ldc (v := -1000001) hx hb hown (hts (.constant RX7 57 (-1000001)) (by decide +kernel)) dX7_look_10 ?_
    exact w_iret hx hb hr hlk hW hS (by simp only [x_look, if_neg hix]) (by first | rfl | (simp only [x_look, x_lookV, if_neg hix, hix, ↓reduceIte]; done) | simp [bz, x_look, x_lookV, if_neg hix, hix]) rfl rfl dX7_look_12
set_option maxHeartbeats 4000000 in
set_option maxRecDepth 100000 in
theorem c_X7_state {X : (Nat → Prop) → State → Prop} (hxo : xok X) (l : Launch) (D : va_G) (q : Cq) {dm : List Nat} {kd ln ad : Nat → Nat} (V : Mv) (J : Mj) (R : Mr) (nP nD : Nat) (x v : Int32) (hX : okX dm kd ln R nP nD) (hp : V 1 2 = nI nP) (hq : V 2 2 = nI nD)  : CtI X l yX7_state wsX7_state ({ frames := 4, cells := 0, slots := 0, locals := 85 }) D q dm kd ln ad V J R [.ref (ad 0), .int x, .int v] (x_state V R nD x v) (V) (J) (R) := by
  refine CtI_of (cc := cX7_state) (maxL := 4) (ret := (some .int)) (by decide +kernel) rfl (Nat.le_of_ble_eq_true rfl) ?_
  intro p e s m below meth c A hx hb hr hml hts hown hlk hmn hK hW hA hXs ls hl
  have hS : va_S A s.heap s.heap [] := va_S.rf
  have hl : lv_has ls 4 [(0, .ref (ad 0)), (1, .int x), (2, .int v)] := hl
  have hin_TX0 : ∀ w ∈ u_ws RX0 TX0 12, w ∈ wsX7_state := by decide +kernel
  have hin_TX3 : ∀ w ∈ u_ws RX3 TX3 6, w ∈ wsX7_state := by decide +kernel
  refine lv_aload_n hx hb dX7_state_0 rfl (lv_at hl 0 rfl) ?_
  refine lv_iload_n hx hb dX7_state_1 rfl (lv_at hl 1 rfl) ?_
  refine w_cq (w_runV ⟨hx, hb, hml, hown, hts⟩ (c_X7_dialAt hxo l D q V J R nP nD x hX hq) hxo (cwV 1 hts gX7_state_X7_dialAt rfl rfl rfl (by decide +kernel) ⟨Nat.le_of_ble_eq_true rfl, Nat.le_of_ble_eq_true rfl⟩) hK hW hS hA hXs (w_rcv hK hW (hX.1 0 (by decide)).1 (hX.1 0 (by decide)).2.1 (by decide) rfl) rfl hl.1 rfl (Nat.le_of_ble_eq_true rfl) dX7_state_2 ⟨Nat.zero_le _, Nat.zero_le _⟩) hW hS hA (fun H locs hW hS => ?_)
  by_cases hix : inx nD x
  · refine w_some (by rw [x_at, if_pos hix]) ?_
    refine lv_astore_n (lv' := [(3, .ref (ad (200 + x.toNatClampNeg))), (0, .ref (ad 0)), (1, .int x), (2, .int v)]) hx hb dX7_state_5 rfl hl (by decide) rfl (fun ls hl => ?_)
    refine lv_aload_n hx hb dX7_state_6 rfl (lv_at hl 0 rfl) ?_
    refine lv_ifnonnull (tgt := 13) hx hb dX7_state_7 (by decide) ?_
    refine lv_iload_n hx hb dX7_state_13 rfl (lv_at hl 3 rfl) ?_
    by_cases c_14_0 : v = 0
    · refine w_i c_14_0 ?_
      refine lv_tableIn (tgt := 52) hx hb dX7_state_14 (by decide) (by decide) (off := 38) (by decide) (by decide) ?_
      refine lv_aload_n hx hb dX7_state_52 rfl (lv_at hl 0 rfl) ?_
      refine w_get (ci := 1) (T := TX0) hx hb hts hin_TX0 hown hK hW (hX.2.2.2.1 x.toNatClampNeg (inx_c hix).1).1 (hX.2.2.2.1 x.toNatClampNeg (inx_c hix).1).2.1 (by decide) rfl 3 (by decide) (hts (.fieldLink RX7 140 "TownClocks$Dial" "late" "I") (by decide +kernel)) (fun _ h9 => h9) rfl dX7_state_53 ?_
      exact w_iret hx hb hr hlk hW hS (by first | rfl | (simp only [x_state, x_pl, Option.getD, if_pos hix, if_pos c_14_0, hix, c_14_0, ↓reduceIte]; done) | simp [bz, x_state, x_pl, Option.getD, if_pos hix, if_pos c_14_0, hix, c_14_0]) rfl rfl rfl dX7_state_56
    by_cases c_14_1 : v = 1
    · refine w_i c_14_1 ?_
      refine lv_tableIn (tgt := 57) hx hb dX7_state_14 (by decide) (by decide) (off := 43) (by decide) (by decide) ?_
      refine lv_aload_n hx hb dX7_state_57 rfl (lv_at hl 0 rfl) ?_
      refine w_get (ci := 1) (T := TX0) hx hb hts hin_TX0 hown hK hW (hX.2.2.2.1 x.toNatClampNeg (inx_c hix).1).1 (hX.2.2.2.1 x.toNatClampNeg (inx_c hix).1).2.1 (by decide) rfl 4 (by decide) (hts (.fieldLink RX7 143 "TownClocks$Dial" "knownLeast" "I") (by decide +kernel)) (fun _ h9 => h9) rfl dX7_state_58 ?_
      exact w_iret hx hb hr hlk hW hS (by first | rfl | (simp only [x_state, x_pl, Option.getD, if_pos hix, if_neg c_14_0, if_pos c_14_1, hix, c_14_0, c_14_1, ↓reduceIte]; done) | simp [bz, x_state, x_pl, Option.getD, if_pos hix, if_neg c_14_0, if_pos c_14_1, hix, c_14_0, c_14_1]) rfl rfl rfl dX7_state_61
    by_cases c_14_2 : v = 2
    · refine w_i c_14_2 ?_
      refine lv_tableIn (tgt := 62) hx hb dX7_state_14 (by decide) (by decide) (off := 48) (by decide) (by decide) ?_
      refine lv_aload_n hx hb dX7_state_62 rfl (lv_at hl 0 rfl) ?_
      refine w_get (ci := 1) (T := TX0) hx hb hts hin_TX0 hown hK hW (hX.2.2.2.1 x.toNatClampNeg (inx_c hix).1).1 (hX.2.2.2.1 x.toNatClampNeg (inx_c hix).1).2.1 (by decide) rfl 4 (by decide) (hts (.fieldLink RX7 143 "TownClocks$Dial" "knownLeast" "I") (by decide +kernel)) (fun _ h9 => h9) rfl dX7_state_63 ?_
      refine lv_aload_n hx hb dX7_state_66 rfl (lv_at hl 0 rfl) ?_
      refine w_get (ci := 1) (T := TX0) hx hb hts hin_TX0 hown hK hW (hX.2.2.2.1 x.toNatClampNeg (inx_c hix).1).1 (hX.2.2.2.1 x.toNatClampNeg (inx_c hix).1).2.1 (by decide) rfl 5 (by decide) (hts (.fieldLink RX7 146 "TownClocks$Dial" "puffsSinceKnown" "I") (by decide +kernel)) (fun _ h9 => h9) rfl dX7_state_67 ?_
      refine lv_iadd hx hb dX7_state_70 ?_
      exact w_iret hx hb hr hlk hW hS (by first | rfl | (simp only [x_state, x_pl, Option.getD, if_pos hix, if_neg c_14_0, if_neg c_14_1, if_pos c_14_2, hix, c_14_0, c_14_1, c_14_2, ↓reduceIte]; done) | simp [bz, x_state, x_pl, Option.getD, if_pos hix, if_neg c_14_0, if_neg c_14_1, if_pos c_14_2, hix, c_14_0, c_14_1, c_14_2]) rfl rfl rfl dX7_state_71
    by_cases c_14_3 : v = 3
    · refine w_i c_14_3 ?_
      refine lv_tableIn (tgt := 72) hx hb dX7_state_14 (by decide) (by decide) (off := 58) (by decide) (by decide) ?_
      refine lv_aload_n hx hb dX7_state_72 rfl (lv_at hl 0 rfl) ?_
      refine w_get (ci := 1) (T := TX0) hx hb hts hin_TX0 hown hK hW (hX.2.2.2.1 x.toNatClampNeg (inx_c hix).1).1 (hX.2.2.2.1 x.toNatClampNeg (inx_c hix).1).2.1 (by decide) rfl 6 (by decide) (hts (.fieldLink RX7 149 "TownClocks$Dial" "missedRunning" "I") (by decide +kernel)) (fun _ h9 => h9) rfl dX7_state_73 ?_
      exact w_iret hx hb hr hlk hW hS (by first | rfl | (simp only [x_state, x_pl, Option.getD, if_pos hix, if_neg c_14_0, if_neg c_14_1, if_neg c_14_2, if_pos c_14_3, hix, c_14_0, c_14_1, c_14_2, c_14_3, ↓reduceIte]; done) | simp [bz, x_state, x_pl, Option.getD, if_pos hix, if_neg c_14_0, if_neg c_14_1, if_neg c_14_2, if_pos c_14_3, hix, c_14_0, c_14_1, c_14_2, c_14_3]) rfl rfl rfl dX7_state_76
    by_cases c_14_4 : v = 4
    · refine w_i c_14_4 ?_
      refine lv_tableIn (tgt := 77) hx hb dX7_state_14 (by decide) (by decide) (off := 63) (by decide) (by decide) ?_
      refine lv_aload_n hx hb dX7_state_77 rfl (lv_at hl 0 rfl) ?_
      obtain ⟨i, hi, hRi⟩ := (hX.2.2.2.1 x.toNatClampNeg (inx_c hix).1).2.2.2
      refine w_getr (ci := 1) (T := TX0) hx hb hts hin_TX0 hown hK hW (hX.2.2.2.1 x.toNatClampNeg (inx_c hix).1).1 (hX.2.2.2.1 x.toNatClampNeg (inx_c hix).1).2.1 (by decide) rfl 0 (by decide) (hts (.fieldLink RX7 152 "TownClocks$Dial" "pipe" "LTownClocks$Pipe;") (by decide +kernel)) (fun _ h9 => h9) rfl hRi dX7_state_78 ?_
      refine w_get (ci := 4) (T := TX3) hx hb hts hin_TX3 hown hK hW (hX.2.2.1 i hi).1 (hX.2.2.1 i hi).2.1 (by decide) rfl 0 (by decide) (hts (.fieldLink RX7 156 "TownClocks$Pipe" "number" "I") (by decide +kernel)) (fun _ h9 => h9) rfl dX7_state_81 ?_
      exact w_iret hx hb hr hlk hW hS (by first | rfl | (simp only [x_state, x_pl, Option.getD, if_pos hix, if_neg c_14_0, if_neg c_14_1, if_neg c_14_2, if_neg c_14_3, if_pos c_14_4, hix, c_14_0, c_14_1, c_14_2, c_14_3, c_14_4, hRi, ↓reduceIte]; done) | simp [bz, x_state, x_pl, Option.getD, if_pos hix, if_neg c_14_0, if_neg c_14_1, if_neg c_14_2, if_neg c_14_3, if_pos c_14_4, hix, c_14_0, c_14_1, c_14_2, c_14_3, c_14_4, hRi]) rfl rfl rfl dX7_state_84
    by_cases c_14_5 : v = 5
    · refine w_i c_14_5 ?_
      refine lv_tableIn (tgt := 85) hx hb dX7_state_14 (by decide) (by decide) (off := 71) (by decide) (by decide) ?_
      refine lv_aload_n hx hb dX7_state_85 rfl (lv_at hl 0 rfl) ?_
      refine w_get (ci := 1) (T := TX0) hx hb hts hin_TX0 hown hK hW (hX.2.2.2.1 x.toNatClampNeg (inx_c hix).1).1 (hX.2.2.2.1 x.toNatClampNeg (inx_c hix).1).2.1 (by decide) rfl 1 (by decide) (hts (.fieldLink RX7 159 "TownClocks$Dial" "need" "I") (by decide +kernel)) (fun _ h9 => h9) rfl dX7_state_86 ?_
      exact w_iret hx hb hr hlk hW hS (by first | rfl | (simp only [x_state, x_pl, Option.getD, if_pos hix, if_neg c_14_0, if_neg c_14_1, if_neg c_14_2, if_neg c_14_3, if_neg c_14_4, if_pos c_14_5, hix, c_14_0, c_14_1, c_14_2, c_14_3, c_14_4, c_14_5, ↓reduceIte]; done) | simp [bz, x_state, x_pl, Option.getD, if_pos hix, if_neg c_14_0, if_neg c_14_1, if_neg c_14_2, if_neg c_14_3, if_neg c_14_4, if_pos c_14_5, hix, c_14_0, c_14_1, c_14_2, c_14_3, c_14_4, c_14_5]) rfl rfl rfl dX7_state_89
    refine lv_tableOut (tgt := 90) hx hb dX7_state_14 (by have h0 := i32_neL c_14_0 (k := 0) (by decide); have h1 := i32_neL c_14_1 (k := 1) (by decide); have h2 := i32_neL c_14_2 (k := 2) (by decide); have h3 := i32_neL c_14_3 (k := 3) (by decide); have h4 := i32_neL c_14_4 (k := 4) (by decide); have h5 := i32_neL c_14_5 (k := 5) (by decide); omega) (by decide) ?_
    refine lv_ldc (v := -1000001) hx hb hown (hts (.constant RX7 57 (-1000001)) (by decide +kernel)) dX7_state_90 ?_
    exact w_iret hx hb hr hlk hW hS (by first | rfl | (simp only [x_state, x_pl, Option.getD, if_pos hix, if_neg c_14_0, if_neg c_14_1, if_neg c_14_2, if_neg c_14_3, if_neg c_14_4, if_neg c_14_5, hix, c_14_0, c_14_1, c_14_2, c_14_3, c_14_4, c_14_5, ↓reduceIte]; done) | simp [bz, x_state, x_pl, Option.getD, if_pos hix, if_neg c_14_0, if_neg c_14_1, if_neg c_14_2, if_neg c_14_3, if_neg c_14_4, if_neg c_14_5, hix, c_14_0, c_14_1, c_14_2, c_14_3, c_14_4, c_14_5]) rfl rfl rfl dX7_state_92
  · refine w_none (by rw [x_at, if_neg hix]) ?_
    refine lv_astore_nN (lv' := [(3, .null), (0, .ref (ad 0)), (1, .int x), (2, .int v)]) hx hb dX7_state_5 rfl hl (by decide) rfl (fun ls hl => ?_)
    refine lv_aload_nN hx hb dX7_state_6 rfl (lv_at hl 0 rfl) ?_
    refine lv_ifnonnullN hx hb dX7_state_7 ?_
    refine lv_ldc (v := -1000001) hx hb hown (hts (.constant RX7 57 (-1000001)) (by decide +kernel)) dX7_state_10 ?_
    exact w_iret hx hb hr hlk hW hS (by first | rfl | (simp only [x_state, x_pl, Option.getD, if_neg hix, hix, ↓reduceIte]; done) | simp [bz, x_state, x_pl, Option.getD, if_neg hix, hix]) rfl rfl rfl dX7_state_12
set_option maxHeartbeats 4000000 in
set_option maxRecDepth 100000 in
theorem c_X7_put {X : (Nat → Prop) → State → Prop} (hxo : xok X) (l : Launch) (D : va_G) (q : Cq) {dm : List Nat} {kd ln ad : Nat → Nat} (V : Mv) (J : Mj) (R : Mr) (nP nD : Nat) (x v : Int32) (hX : okX dm kd ln R nP nD) (hp : V 1 2 = nI nP) (hq : V 2 2 = nI nD)  : CtI X l yX7_put wsX7_put ({ frames := 4, cells := 0, slots := 0, locals := 85 }) D q dm kd ln ad V J R [.ref (ad 0), .int x, .int v] (x_put V nD x v) (x_putV V nD x v) (J) (R) := by
  refine CtI_of (cc := cX7_put) (maxL := 4) (ret := (some .int)) (by decide +kernel) rfl (Nat.le_of_ble_eq_true rfl) ?_
  intro p e s m below meth c A hx hb hr hml hts hown hlk hmn hK hW hA hXs ls hl
  have hS : va_S A s.heap s.heap [] := va_S.rf
  have hl : lv_has ls 4 [(0, .ref (ad 0)), (1, .int x), (2, .int v)] := hl
  have hin_TX0 : ∀ w ∈ u_ws RX0 TX0 12, w ∈ wsX7_put := by decide +kernel
  refine lv_aload_n hx hb dX7_put_0 rfl (lv_at hl 0 rfl) ?_
  refine lv_iload_n hx hb dX7_put_1 rfl (lv_at hl 1 rfl) ?_
  refine w_cq (w_runV ⟨hx, hb, hml, hown, hts⟩ (c_X7_dialAt hxo l D q V J R nP nD x hX hq) hxo (cwV 1 hts gX7_put_X7_dialAt rfl rfl rfl (by decide +kernel) ⟨Nat.le_of_ble_eq_true rfl, Nat.le_of_ble_eq_true rfl⟩) hK hW hS hA hXs (w_rcv hK hW (hX.1 0 (by decide)).1 (hX.1 0 (by decide)).2.1 (by decide) rfl) rfl hl.1 rfl (Nat.le_of_ble_eq_true rfl) dX7_put_2 ⟨Nat.zero_le _, Nat.zero_le _⟩) hW hS hA (fun H locs hW hS => ?_)
  by_cases hix : inx nD x
  · refine w_some (by rw [x_at, if_pos hix]) ?_
    refine lv_astore_n (lv' := [(3, .ref (ad (200 + x.toNatClampNeg))), (0, .ref (ad 0)), (1, .int x), (2, .int v)]) hx hb dX7_put_5 rfl hl (by decide) rfl (fun ls hl => ?_)
    refine lv_aload_n hx hb dX7_put_6 rfl (lv_at hl 0 rfl) ?_
    refine lv_ifnull hx hb dX7_put_7 ?_
    refine lv_iload_n hx hb dX7_put_10 rfl (lv_at hl 3 rfl) ?_
    refine lv_if_eq (tgt := 25) hx hb dX7_put_11 (by decide) (fun c_11 => ?_) (fun c_11 => ?_)
    · refine lv_ldc (v := -1000001) hx hb hown (hts (.constant RX7 57 (-1000001)) (by decide +kernel)) dX7_put_25 ?_
      exact w_iret hx hb hr hlk hW hS (by simp only [x_put, if_pos hix, if_pos c_11]) (by first | rfl | (simp only [x_put, x_putV, if_pos hix, if_pos c_11, hix, c_11, ↓reduceIte]; done) | simp [bz, x_put, x_putV, if_pos hix, if_pos c_11, hix, c_11]) rfl rfl dX7_put_27
    · refine lv_iload_n hx hb dX7_put_14 rfl (lv_at hl 3 rfl) ?_
      refine lv_bipush (v := (-60)) hx hb dX7_put_15 (by decide) ?_
      refine lv_bipush (v := 60) hx hb dX7_put_17 (by decide) ?_
      refine w_ci (w_runS ⟨hx, hb, hml, hown, hts⟩ (c_X7_within hxo l D q V J R v (-60) 60 ) hxo (va_cwS 3 hts gX7_put_X7_within rfl rfl rfl (by decide +kernel) ⟨Nat.le_of_ble_eq_true rfl, Nat.le_of_ble_eq_true rfl⟩) hK hW hS hA hXs rfl hl.1 rfl (Nat.le_of_ble_eq_true rfl) dX7_put_19 ⟨Nat.zero_le _, Nat.zero_le _⟩) hW hS hA (fun H locs hW hS => ?_)
      refine w_ifnz (tgt := 28) hx hb dX7_put_22 (by decide) (fun c_22 => ?_) (fun c_22 => ?_)
      · refine lv_aload_n hx hb dX7_put_28 rfl (lv_at hl 0 rfl) ?_
        refine lv_iload_n hx hb dX7_put_29 rfl (lv_at hl 3 rfl) ?_
        refine w_cv (w_runV ⟨hx, hb, hml, hown, hts⟩ (c_X0_putOn hxo l D q V J R (200 + x.toNatClampNeg) v (hX.2.2.2.1 x.toNatClampNeg (inx_c hix).1).1 (hX.2.2.2.1 x.toNatClampNeg (inx_c hix).1).2.1) hxo (cwV 1 hts gX7_put_X0_putOn rfl rfl rfl (by decide +kernel) ⟨Nat.le_of_ble_eq_true rfl, Nat.le_of_ble_eq_true rfl⟩) hK hW hS hA hXs (w_rcv hK hW (hX.2.2.2.1 x.toNatClampNeg (inx_c hix).1).1 (hX.2.2.2.1 x.toNatClampNeg (inx_c hix).1).2.1 (by decide) rfl) rfl hl.1 rfl (Nat.le_of_ble_eq_true rfl) dX7_put_30 ⟨Nat.zero_le _, Nat.zero_le _⟩) hW hS hA (fun H locs hW hS => ?_)
        refine lv_aload_n hx hb dX7_put_33 rfl (lv_at hl 0 rfl) ?_
        refine w_get (ci := 1) (T := TX0) hx hb hts hin_TX0 hown hK hW (hX.2.2.2.1 x.toNatClampNeg (inx_c hix).1).1 (hX.2.2.2.1 x.toNatClampNeg (inx_c hix).1).2.1 (by decide) rfl 3 (by decide) (hts (.fieldLink RX7 140 "TownClocks$Dial" "late" "I") (by decide +kernel)) (fun _ h9 => h9) rfl dX7_put_34 ?_
        exact w_iret hx hb hr hlk hW hS (by simp only [x_put, if_pos hix, if_neg c_11, if_pos c_22]; exact (show x_putOn V (200 + x.toNatClampNeg) v (200 + x.toNatClampNeg) 3 = V (200 + x.toNatClampNeg) 3 - v from by rw [x_putOn, u2_sn (by decide), u2_ss])) (by first | rfl | (simp only [x_put, x_putV, if_pos hix, if_neg c_11, if_pos c_22, hix, c_11, c_22, ↓reduceIte]; done) | simp [bz, x_put, x_putV, if_pos hix, if_neg c_11, if_pos c_22, hix, c_11, c_22]) rfl rfl dX7_put_37
      · refine lv_ldc (v := -1000001) hx hb hown (hts (.constant RX7 57 (-1000001)) (by decide +kernel)) dX7_put_25 ?_
        exact w_iret hx hb hr hlk hW hS (by simp only [x_put, if_pos hix, if_neg c_11, if_neg c_22]) (by first | rfl | (simp only [x_put, x_putV, if_pos hix, if_neg c_11, if_neg c_22, hix, c_11, c_22, ↓reduceIte]; done) | simp [bz, x_put, x_putV, if_pos hix, if_neg c_11, if_neg c_22, hix, c_11, c_22]) rfl rfl dX7_put_27
  · refine w_none (by rw [x_at, if_neg hix]) ?_
    refine lv_astore_nN (lv' := [(3, .null), (0, .ref (ad 0)), (1, .int x), (2, .int v)]) hx hb dX7_put_5 rfl hl (by decide) rfl (fun ls hl => ?_)
    refine lv_aload_nN hx hb dX7_put_6 rfl (lv_at hl 0 rfl) ?_
    refine lv_ifnullN (tgt := 25) hx hb dX7_put_7 (by decide) ?_
    refine lv_ldc (v := -1000001) hx hb hown (hts (.constant RX7 57 (-1000001)) (by decide +kernel)) dX7_put_25 ?_
    exact w_iret hx hb hr hlk hW hS (by simp only [x_put, if_neg hix]) (by first | rfl | (simp only [x_put, x_putV, if_neg hix, hix, ↓reduceIte]; done) | simp [bz, x_put, x_putV, if_neg hix, hix]) rfl rfl dX7_put_27
set_option maxHeartbeats 4000000 in
set_option maxRecDepth 100000 in
theorem c_X7_right {X : (Nat → Prop) → State → Prop} (hxo : xok X) (l : Launch) (D : va_G) (q : Cq) {dm : List Nat} {kd ln ad : Nat → Nat} (V : Mv) (J : Mj) (R : Mr) (nP nD : Nat) (x : Int32) (hX : okX dm kd ln R nP nD) (hp : V 1 2 = nI nP) (hq : V 2 2 = nI nD)  : CtI X l yX7_right wsX7_right ({ frames := 4, cells := 0, slots := 0, locals := 85 }) D q dm kd ln ad V J R [.ref (ad 0), .int x] (x_get V nD x 3) (x_rightV V nD x) (J) (R) := by
  refine CtI_of (cc := cX7_right) (maxL := 4) (ret := (some .int)) (by decide +kernel) rfl (Nat.le_of_ble_eq_true rfl) ?_
  intro p e s m below meth c A hx hb hr hml hts hown hlk hmn hK hW hA hXs ls hl
  have hS : va_S A s.heap s.heap [] := va_S.rf
  have hl : lv_has ls 4 [(0, .ref (ad 0)), (1, .int x)] := hl
  have hin_TX0 : ∀ w ∈ u_ws RX0 TX0 12, w ∈ wsX7_right := by decide +kernel
  refine lv_aload_n hx hb dX7_right_0 rfl (lv_at hl 0 rfl) ?_
  refine lv_iload_n hx hb dX7_right_1 rfl (lv_at hl 1 rfl) ?_
  refine w_cq (w_runV ⟨hx, hb, hml, hown, hts⟩ (c_X7_dialAt hxo l D q V J R nP nD x hX hq) hxo (cwV 1 hts gX7_right_X7_dialAt rfl rfl rfl (by decide +kernel) ⟨Nat.le_of_ble_eq_true rfl, Nat.le_of_ble_eq_true rfl⟩) hK hW hS hA hXs (w_rcv hK hW (hX.1 0 (by decide)).1 (hX.1 0 (by decide)).2.1 (by decide) rfl) rfl hl.1 rfl (Nat.le_of_ble_eq_true rfl) dX7_right_2 ⟨Nat.zero_le _, Nat.zero_le _⟩) hW hS hA (fun H locs hW hS => ?_)
  by_cases hix : inx nD x
  · refine w_some (by rw [x_at, if_pos hix]) ?_
    refine lv_astore_n (lv' := [(2, .ref (ad (200 + x.toNatClampNeg))), (0, .ref (ad 0)), (1, .int x)]) hx hb dX7_right_5 rfl hl (by decide) rfl (fun ls hl => ?_)
    refine lv_aload_n hx hb dX7_right_6 rfl (lv_at hl 0 rfl) ?_
    refine lv_ifnonnull (tgt := 13) hx hb dX7_right_7 (by decide) ?_
    refine lv_aload_n hx hb dX7_right_13 rfl (lv_at hl 0 rfl) ?_
    refine w_get (ci := 1) (T := TX0) hx hb hts hin_TX0 hown hK hW (hX.2.2.2.1 x.toNatClampNeg (inx_c hix).1).1 (hX.2.2.2.1 x.toNatClampNeg (inx_c hix).1).2.1 (by decide) rfl 3 (by decide) (hts (.fieldLink RX7 140 "TownClocks$Dial" "late" "I") (by decide +kernel)) (fun _ h9 => h9) rfl dX7_right_14 ?_
    refine lv_istore_n (lv' := [(3, .int (V (200 + x.toNatClampNeg) 3)), (2, .ref (ad (200 + x.toNatClampNeg))), (0, .ref (ad 0)), (1, .int x)]) hx hb dX7_right_17 rfl hl (by decide) rfl (fun ls hl => ?_)
    refine lv_aload_n hx hb dX7_right_18 rfl (lv_at hl 1 rfl) ?_
    refine w_cv (w_runV ⟨hx, hb, hml, hown, hts⟩ (c_X0_putRight hxo l D q V J R (200 + x.toNatClampNeg) (hX.2.2.2.1 x.toNatClampNeg (inx_c hix).1).1 (hX.2.2.2.1 x.toNatClampNeg (inx_c hix).1).2.1) hxo (cwV 0 hts gX7_right_X0_putRight rfl rfl rfl (by decide +kernel) ⟨Nat.le_of_ble_eq_true rfl, Nat.le_of_ble_eq_true rfl⟩) hK hW hS hA hXs (w_rcv hK hW (hX.2.2.2.1 x.toNatClampNeg (inx_c hix).1).1 (hX.2.2.2.1 x.toNatClampNeg (inx_c hix).1).2.1 (by decide) rfl) rfl hl.1 rfl (Nat.le_of_ble_eq_true rfl) dX7_right_19 ⟨Nat.zero_le _, Nat.zero_le _⟩) hW hS hA (fun H locs hW hS => ?_)
    refine lv_iload_n hx hb dX7_right_22 rfl (lv_at hl 0 rfl) ?_
    exact w_iret hx hb hr hlk hW hS (by first | rfl | (simp only [x_get, x_rightV, if_pos hix, hix, ↓reduceIte]; done) | simp [bz, x_get, x_rightV, if_pos hix, hix]) (by first | rfl | (simp only [x_get, x_rightV, if_pos hix, hix, ↓reduceIte]; done) | simp [bz, x_get, x_rightV, if_pos hix, hix]) rfl rfl dX7_right_23
  · refine w_none (by rw [x_at, if_neg hix]) ?_
    refine lv_astore_nN (lv' := [(2, .null), (0, .ref (ad 0)), (1, .int x)]) hx hb dX7_right_5 rfl hl (by decide) rfl (fun ls hl => ?_)
    refine lv_aload_nN hx hb dX7_right_6 rfl (lv_at hl 0 rfl) ?_
    refine lv_ifnonnullN hx hb dX7_right_7 ?_
    refine lv_ldc (v := -1000001) hx hb hown (hts (.constant RX7 57 (-1000001)) (by decide +kernel)) dX7_right_10 ?_
    exact w_iret hx hb hr hlk hW hS (by first | rfl | (simp only [x_get, x_rightV, if_neg hix, hix, ↓reduceIte]; done) | simp [bz, x_get, x_rightV, if_neg hix, hix]) (by first | rfl | (simp only [x_get, x_rightV, if_neg hix, hix, ↓reduceIte]; done) | simp [bz, x_get, x_rightV, if_neg hix, hix]) rfl rfl dX7_right_12
set_option maxHeartbeats 4000000 in
set_option maxRecDepth 100000 in
theorem c_X7_ahead {X : (Nat → Prop) → State → Prop} (hxo : xok X) (l : Launch) (D : va_G) (q : Cq) {dm : List Nat} {kd ln ad : Nat → Nat} (V : Mv) (J : Mj) (R : Mr) (nP nD : Nat) (x : Int32) (hX : okX dm kd ln R nP nD) (hp : V 1 2 = nI nP) (hq : V 2 2 = nI nD)  : CtI X l yX7_ahead wsX7_ahead ({ frames := 4, cells := 0, slots := 0, locals := 85 }) D q dm kd ln ad V J R [.ref (ad 0), .int x] (x_ahead V R nD x) (V) (J) (R) := by
  refine CtI_of (cc := cX7_ahead) (maxL := 4) (ret := (some .int)) (by decide +kernel) rfl (Nat.le_of_ble_eq_true rfl) ?_
  intro p e s m below meth c A hx hb hr hml hts hown hlk hmn hK hW hA hXs ls hl
  have hS : va_S A s.heap s.heap [] := va_S.rf
  have hl : lv_has ls 4 [(0, .ref (ad 0)), (1, .int x)] := hl
  have hin_TX0 : ∀ w ∈ u_ws RX0 TX0 12, w ∈ wsX7_ahead := by decide +kernel
  have hin_TX3 : ∀ w ∈ u_ws RX3 TX3 6, w ∈ wsX7_ahead := by decide +kernel
  refine lv_aload_n hx hb dX7_ahead_0 rfl (lv_at hl 0 rfl) ?_
  refine lv_iload_n hx hb dX7_ahead_1 rfl (lv_at hl 1 rfl) ?_
  refine w_cq (w_runV ⟨hx, hb, hml, hown, hts⟩ (c_X7_dialAt hxo l D q V J R nP nD x hX hq) hxo (cwV 1 hts gX7_ahead_X7_dialAt rfl rfl rfl (by decide +kernel) ⟨Nat.le_of_ble_eq_true rfl, Nat.le_of_ble_eq_true rfl⟩) hK hW hS hA hXs (w_rcv hK hW (hX.1 0 (by decide)).1 (hX.1 0 (by decide)).2.1 (by decide) rfl) rfl hl.1 rfl (Nat.le_of_ble_eq_true rfl) dX7_ahead_2 ⟨Nat.zero_le _, Nat.zero_le _⟩) hW hS hA (fun H locs hW hS => ?_)
  by_cases hix : inx nD x
  · refine w_some (by rw [x_at, if_pos hix]) ?_
    refine lv_astore_n (lv' := [(2, .ref (ad (200 + x.toNatClampNeg))), (0, .ref (ad 0)), (1, .int x)]) hx hb dX7_ahead_5 rfl hl (by decide) rfl (fun ls hl => ?_)
    refine lv_aload_n hx hb dX7_ahead_6 rfl (lv_at hl 0 rfl) ?_
    refine lv_ifnonnull (tgt := 13) hx hb dX7_ahead_7 (by decide) ?_
    refine lv_aload_n hx hb dX7_ahead_13 rfl (lv_at hl 0 rfl) ?_
    refine w_ci (w_runV ⟨hx, hb, hml, hown, hts⟩ (c_X0_toldKind hxo l D q V J R (200 + x.toNatClampNeg) (hX.2.2.2.1 x.toNatClampNeg (inx_c hix).1).1 (hX.2.2.2.1 x.toNatClampNeg (inx_c hix).1).2.1) hxo (cwV 0 hts gX7_ahead_X0_toldKind rfl rfl rfl (by decide +kernel) ⟨Nat.le_of_ble_eq_true rfl, Nat.le_of_ble_eq_true rfl⟩) hK hW hS hA hXs (w_rcv hK hW (hX.2.2.2.1 x.toNatClampNeg (inx_c hix).1).1 (hX.2.2.2.1 x.toNatClampNeg (inx_c hix).1).2.1 (by decide) rfl) rfl hl.1 rfl (Nat.le_of_ble_eq_true rfl) dX7_ahead_14 ⟨Nat.zero_le _, Nat.zero_le _⟩) hW hS hA (fun H locs hW hS => ?_)
    refine lv_iconst (v := 1) hx hb dX7_ahead_17 (by decide) ?_
    refine w_ci (w_runS ⟨hx, hb, hml, hown, hts⟩ (c_X7_isOfKind hxo l D q V J R (x_kind V (200 + x.toNatClampNeg)) 1 ) hxo (va_cwS 2 hts gX7_ahead_X7_isOfKind rfl rfl rfl (by decide +kernel) ⟨Nat.le_of_ble_eq_true rfl, Nat.le_of_ble_eq_true rfl⟩) hK hW hS hA hXs rfl hl.1 rfl (Nat.le_of_ble_eq_true rfl) dX7_ahead_18 ⟨Nat.zero_le _, Nat.zero_le _⟩) hW hS hA (fun H locs hW hS => ?_)
    refine w_ifnz (tgt := 27) hx hb dX7_ahead_21 (by decide) (fun c_21 => ?_) (fun c_21 => ?_)
    · refine lv_aload_n hx hb dX7_ahead_27 rfl (lv_at hl 0 rfl) ?_
      obtain ⟨i, hi, hRi⟩ := (hX.2.2.2.1 x.toNatClampNeg (inx_c hix).1).2.2.2
      refine w_getr (ci := 1) (T := TX0) hx hb hts hin_TX0 hown hK hW (hX.2.2.2.1 x.toNatClampNeg (inx_c hix).1).1 (hX.2.2.2.1 x.toNatClampNeg (inx_c hix).1).2.1 (by decide) rfl 0 (by decide) (hts (.fieldLink RX7 152 "TownClocks$Dial" "pipe" "LTownClocks$Pipe;") (by decide +kernel)) (fun _ h9 => h9) rfl hRi dX7_ahead_28 ?_
      refine w_get (ci := 4) (T := TX3) hx hb hts hin_TX3 hown hK hW (hX.2.2.1 i hi).1 (hX.2.2.1 i hi).2.1 (by decide) rfl 3 (by decide) (hts (.fieldLink RX7 83 "TownClocks$Pipe" "lagInAll" "I") (by decide +kernel)) (fun _ h9 => h9) rfl dX7_ahead_31 ?_
      refine lv_bipush (v := 10) hx hb dX7_ahead_34 (by decide) ?_
      refine lv_iadd hx hb dX7_ahead_36 ?_
      refine lv_iconst (v := 1) hx hb dX7_ahead_37 (by decide) ?_
      refine lv_isub hx hb dX7_ahead_38 ?_
      refine lv_bipush (v := 10) hx hb dX7_ahead_39 (by decide) ?_
      refine lv_idiv hx hb dX7_ahead_41 (by decide) ?_
      refine lv_istore_n (lv' := [(3, .int ((((V (100 + i) 3) + 10) - 1) / 10)), (2, .ref (ad (200 + x.toNatClampNeg))), (0, .ref (ad 0)), (1, .int x)]) hx hb dX7_ahead_42 rfl hl (by decide) rfl (fun ls hl => ?_)
      refine lv_iload_n hx hb dX7_ahead_43 rfl (lv_at hl 0 rfl) ?_
      refine lv_bipush (v := 10) hx hb dX7_ahead_44 (by decide) ?_
      refine lv_imul hx hb dX7_ahead_46 ?_
      exact w_iret hx hb hr hlk hW hS (by first | rfl | (simp only [x_ahead, x_pl, Option.getD, if_pos hix, if_pos c_21, hix, c_21, hRi, ↓reduceIte]; done) | simp [bz, x_ahead, x_pl, Option.getD, if_pos hix, if_pos c_21, hix, c_21, hRi]) rfl rfl rfl dX7_ahead_47
    · refine lv_ldc (v := -1000004) hx hb hown (hts (.constant RX7 180 (-1000004)) (by decide +kernel)) dX7_ahead_24 ?_
      exact w_iret hx hb hr hlk hW hS (by first | rfl | (simp only [x_ahead, x_pl, Option.getD, if_pos hix, if_neg c_21, hix, c_21, ↓reduceIte]; done) | simp [bz, x_ahead, x_pl, Option.getD, if_pos hix, if_neg c_21, hix, c_21]) rfl rfl rfl dX7_ahead_26
  · refine w_none (by rw [x_at, if_neg hix]) ?_
    refine lv_astore_nN (lv' := [(2, .null), (0, .ref (ad 0)), (1, .int x)]) hx hb dX7_ahead_5 rfl hl (by decide) rfl (fun ls hl => ?_)
    refine lv_aload_nN hx hb dX7_ahead_6 rfl (lv_at hl 0 rfl) ?_
    refine lv_ifnonnullN hx hb dX7_ahead_7 ?_
    refine lv_ldc (v := -1000001) hx hb hown (hts (.constant RX7 57 (-1000001)) (by decide +kernel)) dX7_ahead_10 ?_
    exact w_iret hx hb hr hlk hW hS (by first | rfl | (simp only [x_ahead, x_pl, Option.getD, if_neg hix, hix, ↓reduceIte]; done) | simp [bz, x_ahead, x_pl, Option.getD, if_neg hix, hix]) rfl rfl rfl dX7_ahead_12
set_option maxHeartbeats 4000000 in
set_option maxRecDepth 100000 in
theorem c_X7_fault {X : (Nat → Prop) → State → Prop} (hxo : xok X) (l : Launch) (D : va_G) (q : Cq) {dm : List Nat} {kd ln ad : Nat → Nat} (V : Mv) (J : Mj) (R : Mr) (nP nD : Nat)  (hX : okX dm kd ln R nP nD) (hp : V 1 2 = nI nP) (hq : V 2 2 = nI nD)  : CtI X l yX7_fault wsX7_fault ({ frames := 0, cells := 0, slots := 0, locals := 0 }) D q dm kd ln ad V J R [.ref (ad 0)] (V 10 5) (V) (J) (R) := by
  refine CtI_of (cc := cX7_fault) (maxL := 1) (ret := (some .int)) (by decide +kernel) rfl (Nat.le_of_ble_eq_true rfl) ?_
  intro p e s m below meth c A hx hb hr hml hts hown hlk hmn hK hW hA hXs ls hl
  have hS : va_S A s.heap s.heap [] := va_S.rf
  have hl : lv_has ls 1 [(0, .ref (ad 0))] := hl
  have hin_TX7 : ∀ w ∈ u_ws RX7 TX7 8, w ∈ wsX7_fault := by decide +kernel
  have hin_TX4 : ∀ w ∈ u_ws RX4 TX4 7, w ∈ wsX7_fault := by decide +kernel
  refine lv_aload_n hx hb dX7_fault_0 rfl (lv_at hl 0 rfl) ?_
  refine w_getr (ci := 8) (T := TX7) hx hb hts hin_TX7 hown hK hW (hX.1 0 (by decide)).1 (hX.1 0 (by decide)).2.1 (by decide) rfl 4 (by decide) (hts (.fieldLink RX7 36 "TownClocks" "reading" "LTownClocks$Reading;") (by decide +kernel)) (fun _ h9 => h9) rfl ((hX.1 0 (by decide)).2.2.2 4 10 rfl) dX7_fault_1 ?_
  refine w_get (ci := 5) (T := TX4) hx hb hts hin_TX4 hown hK hW (hX.1 10 (by decide)).1 (hX.1 10 (by decide)).2.1 (by decide) rfl 5 (by decide) (hts (.fieldLink RX7 226 "TownClocks$Reading" "latestFault" "I") (by decide +kernel)) (fun _ h9 => h9) rfl dX7_fault_4 ?_
  exact w_iret hx hb hr hlk hW hS rfl rfl rfl rfl dX7_fault_7
set_option maxHeartbeats 4000000 in
set_option maxRecDepth 100000 in
theorem c_X7_owes {X : (Nat → Prop) → State → Prop} (hxo : xok X) (l : Launch) (D : va_G) (q : Cq) {dm : List Nat} {kd ln ad : Nat → Nat} (V : Mv) (J : Mj) (R : Mr) (nP nD : Nat) (x : Int32) (hX : okX dm kd ln R nP nD) (hp : V 1 2 = nI nP) (hq : V 2 2 = nI nD)  : CtI X l yX7_owes wsX7_owes ({ frames := 4, cells := 0, slots := 0, locals := 85 }) D q dm kd ln ad V J R [.ref (ad 0), .int x] (x_get V nD x 11) (V) (J) (R) := by
  refine CtI_of (cc := cX7_owes) (maxL := 3) (ret := (some .int)) (by decide +kernel) rfl (Nat.le_of_ble_eq_true rfl) ?_
  intro p e s m below meth c A hx hb hr hml hts hown hlk hmn hK hW hA hXs ls hl
  have hS : va_S A s.heap s.heap [] := va_S.rf
  have hl : lv_has ls 3 [(0, .ref (ad 0)), (1, .int x)] := hl
  have hin_TX0 : ∀ w ∈ u_ws RX0 TX0 12, w ∈ wsX7_owes := by decide +kernel
  refine lv_aload_n hx hb dX7_owes_0 rfl (lv_at hl 0 rfl) ?_
  refine lv_iload_n hx hb dX7_owes_1 rfl (lv_at hl 1 rfl) ?_
  refine w_cq (w_runV ⟨hx, hb, hml, hown, hts⟩ (c_X7_dialAt hxo l D q V J R nP nD x hX hq) hxo (cwV 1 hts gX7_owes_X7_dialAt rfl rfl rfl (by decide +kernel) ⟨Nat.le_of_ble_eq_true rfl, Nat.le_of_ble_eq_true rfl⟩) hK hW hS hA hXs (w_rcv hK hW (hX.1 0 (by decide)).1 (hX.1 0 (by decide)).2.1 (by decide) rfl) rfl hl.1 rfl (Nat.le_of_ble_eq_true rfl) dX7_owes_2 ⟨Nat.zero_le _, Nat.zero_le _⟩) hW hS hA (fun H locs hW hS => ?_)
  by_cases hix : inx nD x
  · refine w_some (by rw [x_at, if_pos hix]) ?_
    refine lv_astore_n (lv' := [(2, .ref (ad (200 + x.toNatClampNeg))), (0, .ref (ad 0)), (1, .int x)]) hx hb dX7_owes_5 rfl hl (by decide) rfl (fun ls hl => ?_)
    refine lv_aload_n hx hb dX7_owes_6 rfl (lv_at hl 0 rfl) ?_
    refine lv_ifnonnull (tgt := 15) hx hb dX7_owes_7 (by decide) ?_
    refine lv_aload_n hx hb dX7_owes_15 rfl (lv_at hl 0 rfl) ?_
    refine w_get (ci := 1) (T := TX0) hx hb hts hin_TX0 hown hK hW (hX.2.2.2.1 x.toNatClampNeg (inx_c hix).1).1 (hX.2.2.2.1 x.toNatClampNeg (inx_c hix).1).2.1 (by decide) rfl 11 (by decide) (hts (.fieldLink RX7 229 "TownClocks$Dial" "owed" "I") (by decide +kernel)) (fun _ h9 => h9) rfl dX7_owes_16 ?_
    exact w_iret hx hb hr hlk hW hS (by first | rfl | (simp only [x_get, if_pos hix, hix, ↓reduceIte]; done) | simp [bz, x_get, if_pos hix, hix]) rfl rfl rfl dX7_owes_19
  · refine w_none (by rw [x_at, if_neg hix]) ?_
    refine lv_astore_nN (lv' := [(2, .null), (0, .ref (ad 0)), (1, .int x)]) hx hb dX7_owes_5 rfl hl (by decide) rfl (fun ls hl => ?_)
    refine lv_aload_nN hx hb dX7_owes_6 rfl (lv_at hl 0 rfl) ?_
    refine lv_ifnonnullN hx hb dX7_owes_7 ?_
    refine lv_ldc (v := -1000001) hx hb hown (hts (.constant RX7 57 (-1000001)) (by decide +kernel)) dX7_owes_10 ?_
    refine lv_goto (tgt := 19) hx hb dX7_owes_12 (by decide) ?_
    exact w_iret hx hb hr hlk hW hS (by first | rfl | (simp only [x_get, if_neg hix, hix, ↓reduceIte]; done) | simp [bz, x_get, if_neg hix, hix]) rfl rfl rfl dX7_owes_19
set_option maxHeartbeats 4000000 in
set_option maxRecDepth 100000 in
theorem c_X7_kind {X : (Nat → Prop) → State → Prop} (hxo : xok X) (l : Launch) (D : va_G) (q : Cq) {dm : List Nat} {kd ln ad : Nat → Nat} (V : Mv) (J : Mj) (R : Mr) (nP nD : Nat) (x : Int32) (hX : okX dm kd ln R nP nD) (hp : V 1 2 = nI nP) (hq : V 2 2 = nI nD)  : CtI X l yX7_kind wsX7_kind ({ frames := 4, cells := 0, slots := 0, locals := 85 }) D q dm kd ln ad V J R [.ref (ad 0), .int x] (x_kindOf V nD x) (V) (J) (R) := by
  refine CtI_of (cc := cX7_kind) (maxL := 3) (ret := (some .int)) (by decide +kernel) rfl (Nat.le_of_ble_eq_true rfl) ?_
  intro p e s m below meth c A hx hb hr hml hts hown hlk hmn hK hW hA hXs ls hl
  have hS : va_S A s.heap s.heap [] := va_S.rf
  have hl : lv_has ls 3 [(0, .ref (ad 0)), (1, .int x)] := hl
  refine lv_aload_n hx hb dX7_kind_0 rfl (lv_at hl 0 rfl) ?_
  refine lv_iload_n hx hb dX7_kind_1 rfl (lv_at hl 1 rfl) ?_
  refine w_cq (w_runV ⟨hx, hb, hml, hown, hts⟩ (c_X7_dialAt hxo l D q V J R nP nD x hX hq) hxo (cwV 1 hts gX7_kind_X7_dialAt rfl rfl rfl (by decide +kernel) ⟨Nat.le_of_ble_eq_true rfl, Nat.le_of_ble_eq_true rfl⟩) hK hW hS hA hXs (w_rcv hK hW (hX.1 0 (by decide)).1 (hX.1 0 (by decide)).2.1 (by decide) rfl) rfl hl.1 rfl (Nat.le_of_ble_eq_true rfl) dX7_kind_2 ⟨Nat.zero_le _, Nat.zero_le _⟩) hW hS hA (fun H locs hW hS => ?_)
  by_cases hix : inx nD x
  · refine w_some (by rw [x_at, if_pos hix]) ?_
    refine lv_astore_n (lv' := [(2, .ref (ad (200 + x.toNatClampNeg))), (0, .ref (ad 0)), (1, .int x)]) hx hb dX7_kind_5 rfl hl (by decide) rfl (fun ls hl => ?_)
    refine lv_aload_n hx hb dX7_kind_6 rfl (lv_at hl 0 rfl) ?_
    refine lv_ifnonnull (tgt := 15) hx hb dX7_kind_7 (by decide) ?_
    refine lv_aload_n hx hb dX7_kind_15 rfl (lv_at hl 0 rfl) ?_
    refine w_ci (w_runV ⟨hx, hb, hml, hown, hts⟩ (c_X0_toldKind hxo l D q V J R (200 + x.toNatClampNeg) (hX.2.2.2.1 x.toNatClampNeg (inx_c hix).1).1 (hX.2.2.2.1 x.toNatClampNeg (inx_c hix).1).2.1) hxo (cwV 0 hts gX7_kind_X0_toldKind rfl rfl rfl (by decide +kernel) ⟨Nat.le_of_ble_eq_true rfl, Nat.le_of_ble_eq_true rfl⟩) hK hW hS hA hXs (w_rcv hK hW (hX.2.2.2.1 x.toNatClampNeg (inx_c hix).1).1 (hX.2.2.2.1 x.toNatClampNeg (inx_c hix).1).2.1 (by decide) rfl) rfl hl.1 rfl (Nat.le_of_ble_eq_true rfl) dX7_kind_16 ⟨Nat.zero_le _, Nat.zero_le _⟩) hW hS hA (fun H locs hW hS => ?_)
    exact w_iret hx hb hr hlk hW hS (by first | rfl | (simp only [x_kindOf, if_pos hix, hix, ↓reduceIte]; done) | simp [bz, x_kindOf, if_pos hix, hix]) rfl rfl rfl dX7_kind_19
  · refine w_none (by rw [x_at, if_neg hix]) ?_
    refine lv_astore_nN (lv' := [(2, .null), (0, .ref (ad 0)), (1, .int x)]) hx hb dX7_kind_5 rfl hl (by decide) rfl (fun ls hl => ?_)
    refine lv_aload_nN hx hb dX7_kind_6 rfl (lv_at hl 0 rfl) ?_
    refine lv_ifnonnullN hx hb dX7_kind_7 ?_
    refine lv_ldc (v := -1000001) hx hb hown (hts (.constant RX7 57 (-1000001)) (by decide +kernel)) dX7_kind_10 ?_
    refine lv_goto (tgt := 19) hx hb dX7_kind_12 (by decide) ?_
    exact w_iret hx hb hr hlk hW hS (by first | rfl | (simp only [x_kindOf, if_neg hix, hix, ↓reduceIte]; done) | simp [bz, x_kindOf, if_neg hix, hix]) rfl rfl rfl dX7_kind_19
set_option maxHeartbeats 4000000 in
set_option maxRecDepth 100000 in
theorem c_X7_as {X : (Nat → Prop) → State → Prop} (hxo : xok X) (l : Launch) (D : va_G) (q : Cq) {dm : List Nat} {kd ln ad : Nat → Nat} (V : Mv) (J : Mj) (R : Mr) (nP nD : Nat) (x v : Int32) (hX : okX dm kd ln R nP nD) (hp : V 1 2 = nI nP) (hq : V 2 2 = nI nD)  : CtI X l yX7_as wsX7_as ({ frames := 4, cells := 0, slots := 0, locals := 85 }) D q dm kd ln ad V J R [.ref (ad 0), .int x, .int v] (x_as V nD x v) (V) (J) (R) := by
  refine CtI_of (cc := cX7_as) (maxL := 4) (ret := (some .int)) (by decide +kernel) rfl (Nat.le_of_ble_eq_true rfl) ?_
  intro p e s m below meth c A hx hb hr hml hts hown hlk hmn hK hW hA hXs ls hl
  have hS : va_S A s.heap s.heap [] := va_S.rf
  have hl : lv_has ls 4 [(0, .ref (ad 0)), (1, .int x), (2, .int v)] := hl
  have hin_TX0 : ∀ w ∈ u_ws RX0 TX0 12, w ∈ wsX7_as := by decide +kernel
  refine lv_aload_n hx hb dX7_as_0 rfl (lv_at hl 0 rfl) ?_
  refine lv_iload_n hx hb dX7_as_1 rfl (lv_at hl 1 rfl) ?_
  refine w_cq (w_runV ⟨hx, hb, hml, hown, hts⟩ (c_X7_dialAt hxo l D q V J R nP nD x hX hq) hxo (cwV 1 hts gX7_as_X7_dialAt rfl rfl rfl (by decide +kernel) ⟨Nat.le_of_ble_eq_true rfl, Nat.le_of_ble_eq_true rfl⟩) hK hW hS hA hXs (w_rcv hK hW (hX.1 0 (by decide)).1 (hX.1 0 (by decide)).2.1 (by decide) rfl) rfl hl.1 rfl (Nat.le_of_ble_eq_true rfl) dX7_as_2 ⟨Nat.zero_le _, Nat.zero_le _⟩) hW hS hA (fun H locs hW hS => ?_)
  by_cases hix : inx nD x
  · refine w_some (by rw [x_at, if_pos hix]) ?_
    refine lv_astore_n (lv' := [(3, .ref (ad (200 + x.toNatClampNeg))), (0, .ref (ad 0)), (1, .int x), (2, .int v)]) hx hb dX7_as_5 rfl hl (by decide) rfl (fun ls hl => ?_)
    refine lv_aload_n hx hb dX7_as_6 rfl (lv_at hl 0 rfl) ?_
    refine lv_ifnull hx hb dX7_as_7 ?_
    refine lv_iload_n hx hb dX7_as_10 rfl (lv_at hl 3 rfl) ?_
    refine lv_iconst (v := 0) hx hb dX7_as_11 (by decide) ?_
    refine lv_iconst (v := 3) hx hb dX7_as_12 (by decide) ?_
    refine w_ci (w_runS ⟨hx, hb, hml, hown, hts⟩ (c_X7_within hxo l D q V J R v 0 3 ) hxo (va_cwS 3 hts gX7_as_X7_within rfl rfl rfl (by decide +kernel) ⟨Nat.le_of_ble_eq_true rfl, Nat.le_of_ble_eq_true rfl⟩) hK hW hS hA hXs rfl hl.1 rfl (Nat.le_of_ble_eq_true rfl) dX7_as_13 ⟨Nat.zero_le _, Nat.zero_le _⟩) hW hS hA (fun H locs hW hS => ?_)
    refine w_ifnz (tgt := 22) hx hb dX7_as_16 (by decide) (fun c_16 => ?_) (fun c_16 => ?_)
    · refine lv_aload_n hx hb dX7_as_22 rfl (lv_at hl 0 rfl) ?_
      refine w_ci (w_runV ⟨hx, hb, hml, hown, hts⟩ (c_X0_toldKind hxo l D q V J R (200 + x.toNatClampNeg) (hX.2.2.2.1 x.toNatClampNeg (inx_c hix).1).1 (hX.2.2.2.1 x.toNatClampNeg (inx_c hix).1).2.1) hxo (cwV 0 hts gX7_as_X0_toldKind rfl rfl rfl (by decide +kernel) ⟨Nat.le_of_ble_eq_true rfl, Nat.le_of_ble_eq_true rfl⟩) hK hW hS hA hXs (w_rcv hK hW (hX.2.2.2.1 x.toNatClampNeg (inx_c hix).1).1 (hX.2.2.2.1 x.toNatClampNeg (inx_c hix).1).2.1 (by decide) rfl) rfl hl.1 rfl (Nat.le_of_ble_eq_true rfl) dX7_as_23 ⟨Nat.zero_le _, Nat.zero_le _⟩) hW hS hA (fun H locs hW hS => ?_)
      refine lv_iload_n hx hb dX7_as_26 rfl (lv_at hl 3 rfl) ?_
      refine w_ci (w_runS ⟨hx, hb, hml, hown, hts⟩ (c_X7_isOfKind hxo l D q V J R (x_kind V (200 + x.toNatClampNeg)) v ) hxo (va_cwS 2 hts gX7_as_X7_isOfKind rfl rfl rfl (by decide +kernel) ⟨Nat.le_of_ble_eq_true rfl, Nat.le_of_ble_eq_true rfl⟩) hK hW hS hA hXs rfl hl.1 rfl (Nat.le_of_ble_eq_true rfl) dX7_as_27 ⟨Nat.zero_le _, Nat.zero_le _⟩) hW hS hA (fun H locs hW hS => ?_)
      refine w_ifz (tgt := 40) hx hb dX7_as_30 (by decide) (fun c_30 => ?_) (fun c_30 => ?_)
      · refine lv_ldc (v := -1000004) hx hb hown (hts (.constant RX7 180 (-1000004)) (by decide +kernel)) dX7_as_40 ?_
        exact w_iret hx hb hr hlk hW hS (by first | rfl | (simp only [x_as, if_pos hix, if_pos c_16, if_neg c_30, hix, c_16, c_30, ↓reduceIte]; done) | simp [bz, x_as, if_pos hix, if_pos c_16, if_neg c_30, hix, c_16, c_30]) rfl rfl rfl dX7_as_42
      · refine lv_aload_n hx hb dX7_as_33 rfl (lv_at hl 0 rfl) ?_
        refine w_get (ci := 1) (T := TX0) hx hb hts hin_TX0 hown hK hW (hX.2.2.2.1 x.toNatClampNeg (inx_c hix).1).1 (hX.2.2.2.1 x.toNatClampNeg (inx_c hix).1).2.1 (by decide) rfl 3 (by decide) (hts (.fieldLink RX7 140 "TownClocks$Dial" "late" "I") (by decide +kernel)) (fun _ h9 => h9) rfl dX7_as_34 ?_
        refine lv_goto (tgt := 42) hx hb dX7_as_37 (by decide) ?_
        exact w_iret hx hb hr hlk hW hS (by first | rfl | (simp only [x_as, if_pos hix, if_pos c_16, if_pos c_30, hix, c_16, c_30, ↓reduceIte]; done) | simp [bz, x_as, if_pos hix, if_pos c_16, if_pos c_30, hix, c_16, c_30]) rfl rfl rfl dX7_as_42
    · refine lv_ldc (v := -1000001) hx hb hown (hts (.constant RX7 57 (-1000001)) (by decide +kernel)) dX7_as_19 ?_
      exact w_iret hx hb hr hlk hW hS (by first | rfl | (simp only [x_as, if_pos hix, if_neg c_16, hix, c_16, ↓reduceIte]; done) | simp [bz, x_as, if_pos hix, if_neg c_16, hix, c_16]) rfl rfl rfl dX7_as_21
  · refine w_none (by rw [x_at, if_neg hix]) ?_
    refine lv_astore_nN (lv' := [(3, .null), (0, .ref (ad 0)), (1, .int x), (2, .int v)]) hx hb dX7_as_5 rfl hl (by decide) rfl (fun ls hl => ?_)
    refine lv_aload_nN hx hb dX7_as_6 rfl (lv_at hl 0 rfl) ?_
    refine lv_ifnullN (tgt := 19) hx hb dX7_as_7 (by decide) ?_
    refine lv_ldc (v := -1000001) hx hb hown (hts (.constant RX7 57 (-1000001)) (by decide +kernel)) dX7_as_19 ?_
    exact w_iret hx hb hr hlk hW hS (by first | rfl | (simp only [x_as, if_neg hix, hix, ↓reduceIte]; done) | simp [bz, x_as, if_neg hix, hix]) rfl rfl rfl dX7_as_21
set_option maxHeartbeats 4000000 in
set_option maxRecDepth 100000 in
theorem c_X7_trace {X : (Nat → Prop) → State → Prop} (hxo : xok X) (l : Launch) (D : va_G) (q : Cq) {dm : List Nat} {kd ln ad : Nat → Nat} (V : Mv) (J : Mj) (R : Mr) (nP nD : Nat) (x : Int32) (nT : Nat) (hX : okX dm kd ln R nP nD) (hp : V 1 2 = nI nP) (hq : V 2 2 = nI nD) (ht : V 14 1 = nI nT) (hnT : nT ≤ 16) : CtI X l yX7_trace wsX7_trace ({ frames := 1, cells := 0, slots := 0, locals := 22 }) D q dm kd ln ad V J R [.ref (ad 0), .int x] (x_trace V nT x) (V) (J) (R) := by
  refine CtI_of (cc := cX7_trace) (maxL := 2) (ret := (some .int)) (by decide +kernel) rfl (Nat.le_of_ble_eq_true rfl) ?_
  intro p e s m below meth c A hx hb hr hml hts hown hlk hmn hK hW hA hXs ls hl
  have hS : va_S A s.heap s.heap [] := va_S.rf
  have hl : lv_has ls 2 [(0, .ref (ad 0)), (1, .int x)] := hl
  have hin_TX7 : ∀ w ∈ u_ws RX7 TX7 8, w ∈ wsX7_trace := by decide +kernel
  have hin_TX6 : ∀ w ∈ u_ws RX6 TX6 2, w ∈ wsX7_trace := by decide +kernel
  refine lv_iload_n hx hb dX7_trace_0 rfl (lv_at hl 1 rfl) ?_
  refine lv_iconst (v := 0) hx hb dX7_trace_1 (by decide) ?_
  refine lv_aload_n hx hb dX7_trace_2 rfl (lv_at hl 0 rfl) ?_
  refine w_getr (ci := 8) (T := TX7) hx hb hts hin_TX7 hown hK hW (hX.1 0 (by decide)).1 (hX.1 0 (by decide)).2.1 (by decide) rfl 6 (by decide) (hts (.fieldLink RX7 48 "TownClocks" "bodies" "LTownClocks$Trace;") (by decide +kernel)) (fun _ h9 => h9) rfl ((hX.1 0 (by decide)).2.2.2 6 14 rfl) dX7_trace_3 ?_
  refine w_get (ci := 7) (T := TX6) hx hb hts hin_TX6 hown hK hW (hX.1 14 (by decide)).1 (hX.1 14 (by decide)).2.1 (by decide) rfl 1 (by decide) (hts (.fieldLink RX7 232 "TownClocks$Trace" "length" "I") (by decide +kernel)) (fun _ h9 => h9) rfl dX7_trace_6 ?_
  refine lv_iconst (v := 1) hx hb dX7_trace_9 (by decide) ?_
  refine lv_isub hx hb dX7_trace_10 ?_
  refine w_ci (w_runS ⟨hx, hb, hml, hown, hts⟩ (c_X7_within hxo l D q V J R x 0 ((V 14 1) - 1) ) hxo (va_cwS 3 hts gX7_trace_X7_within rfl rfl rfl (by decide +kernel) ⟨Nat.le_of_ble_eq_true rfl, Nat.le_of_ble_eq_true rfl⟩) hK hW hS hA hXs rfl hl.1 rfl (Nat.le_of_ble_eq_true rfl) dX7_trace_11 ⟨Nat.zero_le _, Nat.zero_le _⟩) hW hS hA (fun H locs hW hS => ?_)
  refine w_ifz (tgt := 29) hx hb dX7_trace_14 (by decide) (fun c_14 => ?_) (fun c_14 => ?_)
  · have hix : ¬ inx nT x := fun h => c_14 ((by rw [ht]; exact inx_w (by omega) : (0 ≤ x ∧ x ≤ V 14 1 - 1) ↔ inx nT x).mpr h)
    refine lv_ldc (v := -1000000) hx hb hown (hts (.constant RX7 56 (-1000000)) (by decide +kernel)) dX7_trace_29 ?_
    exact w_iret hx hb hr hlk hW hS (by rw [x_trace, if_neg hix]) rfl rfl rfl dX7_trace_31
  · have hix : inx nT x := (by rw [ht]; exact inx_w (by omega) : (0 ≤ x ∧ x ≤ V 14 1 - 1) ↔ inx nT x).mp c_14
    refine lv_aload_n hx hb dX7_trace_17 rfl (lv_at hl 0 rfl) ?_
    refine w_getr (ci := 8) (T := TX7) hx hb hts hin_TX7 hown hK hW (hX.1 0 (by decide)).1 (hX.1 0 (by decide)).2.1 (by decide) rfl 6 (by decide) (hts (.fieldLink RX7 48 "TownClocks" "bodies" "LTownClocks$Trace;") (by decide +kernel)) (fun _ h9 => h9) rfl ((hX.1 0 (by decide)).2.2.2 6 14 rfl) dX7_trace_18 ?_
    refine w_getr (ci := 7) (T := TX6) hx hb hts hin_TX6 hown hK hW (hX.1 14 (by decide)).1 (hX.1 14 (by decide)).2.1 (by decide) rfl 0 (by decide) (hts (.fieldLink RX7 240 "TownClocks$Trace" "numbers" "[I") (by decide +kernel)) (fun _ h9 => h9) rfl ((hX.1 14 (by decide)).2.2.2 0 15 rfl) dX7_trace_21 ?_
    refine lv_iload_n hx hb dX7_trace_24 rfl (lv_at hl 1 rfl) ?_
    refine w_iald hx hb hK hW (hX.1 15 (by decide)).1 (hX.1 15 (by decide)).2.1 (by rw [(show ln 15 = 16 from (hX.1 15 (by decide)).2.2.1)]; exact inx_v.mpr ⟨hix.1, by have := hix.2; show _ < ((16 : Nat) : Int); omega⟩) dX7_trace_25 ?_
    refine lv_goto (tgt := 31) hx hb dX7_trace_26 (by decide) ?_
    exact w_iret hx hb hr hlk hW hS (by rw [x_trace, if_pos hix]) rfl rfl rfl dX7_trace_31
