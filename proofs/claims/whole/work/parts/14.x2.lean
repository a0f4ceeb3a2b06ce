def lpI (f : Nat → Int32 → Int32) : Nat → Nat → Int32 → Int32
  | 0, _, a => a
  | n + 1, i, a => lpI f n (i + 1) (f i a)
def x_abs (x : Int32) : Int32 := if 0 ≤ x then x else 0 - x
def x_beg (V : Mv) (a : Int32) : Mv := if 16 ≤ V 14 1 then V else u2 (u2 V 15 (V 14 1).toNatClampNeg a) 14 1 (V 14 1 + 1)
theorem x_beg_ne {V : Mv} {a : Int32} {k : Nat} (h : k ≠ 14) (h2 : k ≠ 15) : x_beg V a k = V k := by
  unfold x_beg
  split
  · rfl
  · rw [u2_ne h, u2_ne h2]
theorem i32_add1 {x : Int32} (h : 0 ≤ x.toInt) (h2 : x.toInt < 1000000) : (x + 1).toInt = x.toInt + 1 := by
  have e : x = nI x.toInt.toNat := by
    apply Int32.toInt_inj.mp
    rw [nI_toInt (by omega)]
    omega
  rw [e, nI_1, nI_toInt (by omega), nI_toInt (by omega)]
  omega
theorem x_beg_h0 {V : Mv} {a : Int32} (h : 0 ≤ (V 14 1).toInt) : 0 ≤ (x_beg V a 14 1).toInt := by
  unfold x_beg
  split
  · exact h
  · rename_i c
    rw [u2_ss, i32_add1 h (by have h2 := Int32.lt_iff_toInt_lt.mp (Int32.not_le.mp c); have h3 : (16 : Int32).toInt = 16 := by decide
                              omega)]
    omega
def x_w (V : Mv) (j : Nat) : Int32 := if x_kind V (200 + j) = 1 then V (200 + j) 3 + 10 else if x_kind V (200 + j) = 2 then 2 * (V (200 + j) 3 + 10) else if x_kind V (200 + j) = 3 then -V (200 + j) 3 else V (200 + j) 3
def x_wV (V : Mv) (j : Nat) : Mv := if x_kind V (200 + j) = 1 then x_beg (x_beg V 11) 10 else if x_kind V (200 + j) = 2 then x_beg (x_beg (x_beg V 12) 11) 10 else if x_kind V (200 + j) = 3 then x_beg (x_beg V 13) 10 else x_beg V 10
def x_m (V : Mv) (j : Nat) : Int32 := if x_kind V (200 + j) = 1 then V (200 + j) 1 + x_w (x_beg (x_beg V 21) 20) j else if x_kind V (200 + j) = 2 then V (200 + j) 1 + x_w (x_beg (x_beg V 21) 20) j else if x_kind V (200 + j) = 3 then V (200 + j) 1 + 1000 else V (200 + j) 1
def x_mV (V : Mv) (j : Nat) : Mv := if x_kind V (200 + j) = 1 then x_wV (x_beg (x_beg V 21) 20) j else if x_kind V (200 + j) = 2 then x_wV (x_beg (x_beg V 21) 20) j else if x_kind V (200 + j) = 3 then x_beg (x_beg V 22) 20 else x_beg V 20
def x_ask (V : Mv) (nD : Nat) (x v : Int32) : Int32 := if inx nD x then (if 0 ≤ v ∧ v ≤ 1 then (if v = 0 then x_w (u2 V 14 1 0) x.toNatClampNeg else x_m (u2 V 14 1 0) x.toNatClampNeg) else -1000001) else -1000001
def x_askV (V : Mv) (nD : Nat) (x v : Int32) : Mv := if inx nD x then (if 0 ≤ v ∧ v ≤ 1 then (if v = 0 then x_wV (u2 V 14 1 0) x.toNatClampNeg else x_mV (u2 V 14 1 0) x.toNatClampNeg) else V) else V
set_option maxHeartbeats 4000000 in
set_option maxRecDepth 100000 in
theorem c_X7_countOfKind {X : (Nat → Prop) → State → Prop} (hxo : xok X) (l : Launch) (D : va_G) (q : Cq) {dm : List Nat} {kd ln ad : Nat → Nat} (V : Mv) (J : Mj) (R : Mr) (nP nD : Nat) (kk : Int32) (hX : okX dm kd ln R nP nD) (hp : V 1 2 = nI nP) (hq : V 2 2 = nI nD)  : CtI X l yX7_countOfKind wsX7_countOfKind ({ frames := 3, cells := 0, slots := 0, locals := 64 }) D q dm kd ln ad V J R [.ref (ad 0), .int kk] (lpI (fun i a => if x_isk (x_kind V (200 + i)) kk then a + 1 else a) nD 0 0) (V) (J) (R) := by
  refine CtI_of (cc := cX7_countOfKind) (maxL := 4) (ret := (some .int)) (by decide +kernel) rfl (Nat.le_of_ble_eq_true rfl) ?_
  intro p e s m below meth c A hx hb hr hml hts hown hlk hmn hK hW hA hXs ls hl
  have hS : va_S A s.heap s.heap [] := va_S.rf
  have hl : lv_has ls 4 [(0, .ref (ad 0)), (1, .int kk)] := hl
  have hin_TX7 : ∀ w ∈ u_ws RX7 TX7 8, w ∈ wsX7_countOfKind := by decide +kernel
  obtain ⟨RV, hRV⟩ : ∃ r, r = lpI (fun i a => if x_isk (x_kind V (200 + i)) kk then a + 1 else a) nD 0 0 := ⟨_, rfl⟩
  have JL : ∀ n : Nat, ∀ (i : Nat) (a : Int32) (hn : i + n = nD) (hF : lpI (fun i a => if x_isk (x_kind V (200 + i)) kk then a + 1 else a) n i a = RV) (H : Heap) (locs : List Loc) (ls : Array Slot), wok A D q dm kd ln ad V J R H → va_S A s.heap H locs → lv_has ls 4 [(0, .ref (ad 0)), (1, .int kk), (2, .int a), (3, .int (nI i))] → W p l e ({ frames := 3, cells := 0, slots := 0, locals := 64 }) s m ([.ref (ad 0), .int kk] : List Value).toArray below meth c H locs 0 0 (MQ below (QI (lpI (fun i a => if x_isk (x_kind V (200 + i)) kk then a + 1 else a) nD 0 0) D q dm kd ln ad (V) (J) (R) A) ([.ref (ad 0), .int kk] : List Value).toArray s 0 0 A) (F0 m 4 ls []) := by
    intro n
    induction n with
    | zero =>
      intro i a hn hF H locs ls hW hS hl
      refine lv_iload_n hx hb dX7_countOfKind_4 rfl (lv_at hl 3 rfl) ?_
      refine lv_aload_n hx hb dX7_countOfKind_5 rfl (lv_at hl 0 rfl) ?_
      refine w_getr (ci := 8) (T := TX7) hx hb hts hin_TX7 hown hK hW (hX.1 0 (by decide)).1 (hX.1 0 (by decide)).2.1 (by decide) rfl 1 (by decide) (hts (.fieldLink RX7 16 "TownClocks" "dials" "Ljava/util/ArrayList;") (by decide +kernel)) (fun _ h9 => h9) rfl ((hX.1 0 (by decide)).2.2.2 1 2 rfl) dX7_countOfKind_6 ?_
      refine w_ci (w_runV ⟨hx, hb, hml, hown, hts⟩ (c_Jx4a65c_size_8abf5 hxo l D q V J R 2 (hX.1 2 (by decide)).1 (hX.1 2 (by decide)).2.1) hxo (cwV 0 hts gX7_countOfKind_Jx4a65c_size_8abf5 rfl rfl rfl (by decide +kernel) ⟨Nat.le_of_ble_eq_true rfl, Nat.le_of_ble_eq_true rfl⟩) hK hW hS hA hXs (w_rcv hK hW (hX.1 2 (by decide)).1 (hX.1 2 (by decide)).2.1 (by decide) rfl) rfl hl.1 rfl (Nat.le_of_ble_eq_true rfl) dX7_countOfKind_9 ⟨Nat.zero_le _, Nat.zero_le _⟩) hW hS hA (fun H locs hW hS => ?_)
      refine lv_icmp_ge (tgt := 45) hx hb dX7_countOfKind_12 (by decide) (fun c_12 => ?_) (fun c_12 => ?_)
      · refine lv_iload_n hx hb dX7_countOfKind_45 rfl (lv_at hl 2 rfl) ?_
        exact w_iret hx hb hr hlk hW hS (by rw [← hRV, ← hF]; rfl) rfl rfl rfl dX7_countOfKind_46
      · exact absurd (by rw [hq]; exact nI_le (by omega) (by have := hX.2.1; omega)) c_12
    | succ n ih =>
      intro i a hn hF H locs ls hW hS hl
      have hid : i < nD := by omega
      refine lv_iload_n hx hb dX7_countOfKind_4 rfl (lv_at hl 3 rfl) ?_
      refine lv_aload_n hx hb dX7_countOfKind_5 rfl (lv_at hl 0 rfl) ?_
      refine w_getr (ci := 8) (T := TX7) hx hb hts hin_TX7 hown hK hW (hX.1 0 (by decide)).1 (hX.1 0 (by decide)).2.1 (by decide) rfl 1 (by decide) (hts (.fieldLink RX7 16 "TownClocks" "dials" "Ljava/util/ArrayList;") (by decide +kernel)) (fun _ h9 => h9) rfl ((hX.1 0 (by decide)).2.2.2 1 2 rfl) dX7_countOfKind_6 ?_
      refine w_ci (w_runV ⟨hx, hb, hml, hown, hts⟩ (c_Jx4a65c_size_8abf5 hxo l D q V J R 2 (hX.1 2 (by decide)).1 (hX.1 2 (by decide)).2.1) hxo (cwV 0 hts gX7_countOfKind_Jx4a65c_size_8abf5 rfl rfl rfl (by decide +kernel) ⟨Nat.le_of_ble_eq_true rfl, Nat.le_of_ble_eq_true rfl⟩) hK hW hS hA hXs (w_rcv hK hW (hX.1 2 (by decide)).1 (hX.1 2 (by decide)).2.1 (by decide) rfl) rfl hl.1 rfl (Nat.le_of_ble_eq_true rfl) dX7_countOfKind_9 ⟨Nat.zero_le _, Nat.zero_le _⟩) hW hS hA (fun H locs hW hS => ?_)
      refine lv_icmp_ge (tgt := 45) hx hb dX7_countOfKind_12 (by decide) (fun c_12 => ?_) (fun c_12 => ?_)
      · exact absurd c_12 (by rw [hq]; exact nI_ge (by omega) (by have := hX.2.1; omega))
      · refine lv_aload_n hx hb dX7_countOfKind_15 rfl (lv_at hl 0 rfl) ?_
        refine w_getr (ci := 8) (T := TX7) hx hb hts hin_TX7 hown hK hW (hX.1 0 (by decide)).1 (hX.1 0 (by decide)).2.1 (by decide) rfl 1 (by decide) (hts (.fieldLink RX7 16 "TownClocks" "dials" "Ljava/util/ArrayList;") (by decide +kernel)) (fun _ h9 => h9) rfl ((hX.1 0 (by decide)).2.2.2 1 2 rfl) dX7_countOfKind_16 ?_
        refine lv_iload_n hx hb dX7_countOfKind_19 rfl (lv_at hl 3 rfl) ?_
        refine w_cq (w_runV ⟨hx, hb, hml, hown, hts⟩ (c_Jx4a65c_get_915e3 hxo l D q V J R 2 17 i nD (hX.1 2 (by decide)).1 (hX.1 2 (by decide)).2.1 (hX.2.2.2.2.2 (by omega)).2.2.2.2 (hX.2.2.2.2.2 (by omega)).1 (hX.2.2.2.2.2 (by omega)).2.1 ⟨Nat.lt_of_lt_of_le hid (hX.2.2.2.2.2 (by omega)).2.2.1, by have := hX.2.1; omega⟩ hq hid (by have := hX.2.1; omega)) hxo (cwV 1 hts gX7_countOfKind_Jx4a65c_get_915e3 rfl rfl rfl (by decide +kernel) ⟨Nat.le_of_ble_eq_true rfl, Nat.le_of_ble_eq_true rfl⟩) hK hW hS hA hXs (w_rcv hK hW (hX.1 2 (by decide)).1 (hX.1 2 (by decide)).2.1 (by decide) rfl) rfl hl.1 rfl (Nat.le_of_ble_eq_true rfl) dX7_countOfKind_20 ⟨Nat.zero_le _, Nat.zero_le _⟩) hW hS hA (fun H locs hW hS => ?_)
        refine w_some (hX.2.2.2.1 i hid).2.2.1 ?_
        refine w_cast hx hb hown (hts (.classLink RX7 86 "TownClocks$Dial") (by decide +kernel)) hK hW (hX.2.2.2.1 i hid).1 (hX.2.2.2.1 i hid).2.1 (by decide) rfl dX7_countOfKind_23 ?_
        refine w_ci (w_runV ⟨hx, hb, hml, hown, hts⟩ (c_X0_toldKind hxo l D q V J R (200 + i) (hX.2.2.2.1 i hid).1 (hX.2.2.2.1 i hid).2.1) hxo (cwV 0 hts gX7_countOfKind_X0_toldKind rfl rfl rfl (by decide +kernel) ⟨Nat.le_of_ble_eq_true rfl, Nat.le_of_ble_eq_true rfl⟩) hK hW hS hA hXs (w_rcv hK hW (hX.2.2.2.1 i hid).1 (hX.2.2.2.1 i hid).2.1 (by decide) rfl) rfl hl.1 rfl (Nat.le_of_ble_eq_true rfl) dX7_countOfKind_26 ⟨Nat.zero_le _, Nat.zero_le _⟩) hW hS hA (fun H locs hW hS => ?_)
        refine lv_iload_n hx hb dX7_countOfKind_29 rfl (lv_at hl 1 rfl) ?_
        refine w_ci (w_runS ⟨hx, hb, hml, hown, hts⟩ (c_X7_isOfKind hxo l D q V J R (x_kind V (200 + i)) kk ) hxo (va_cwS 2 hts gX7_countOfKind_X7_isOfKind rfl rfl rfl (by decide +kernel) ⟨Nat.le_of_ble_eq_true rfl, Nat.le_of_ble_eq_true rfl⟩) hK hW hS hA hXs rfl hl.1 rfl (Nat.le_of_ble_eq_true rfl) dX7_countOfKind_30 ⟨Nat.zero_le _, Nat.zero_le _⟩) hW hS hA (fun H locs hW hS => ?_)
        refine w_ifz (tgt := 39) hx hb dX7_countOfKind_33 (by decide) (fun c_33 => ?_) (fun c_33 => ?_)
        · refine lv_iinc (v := nI (i + 1)) (lv' := [(3, .int (nI (i + 1))), (0, .ref (ad 0)), (1, .int kk), (2, .int a)]) hx hb dX7_countOfKind_39 hl (k := 3) rfl (by rw [show Int32.ofInt 1 = 1 from by decide]; exact nI_1 _) (by decide) rfl (fun ls hl => ?_)
          refine lv_goto (tgt := 4) hx hb dX7_countOfKind_42 (by decide) ?_
          exact ih (i + 1) (a) (by omega) (by have h := hF; simp only [lpI, if_neg c_12, if_neg c_33] at h; exact h) _ _ _ hW hS (lv_sub hl [1, 2, 3, 0] rfl)
        · refine lv_iinc (v := a + 1) (lv' := [(2, .int (a + 1)), (0, .ref (ad 0)), (1, .int kk), (3, .int (nI i))]) hx hb dX7_countOfKind_36 hl (k := 2) rfl rfl (by decide) rfl (fun ls hl => ?_)
          refine lv_iinc (v := nI (i + 1)) (lv' := [(3, .int (nI (i + 1))), (2, .int (a + 1)), (0, .ref (ad 0)), (1, .int kk)]) hx hb dX7_countOfKind_39 hl (k := 3) rfl (by rw [show Int32.ofInt 1 = 1 from by decide]; exact nI_1 _) (by decide) rfl (fun ls hl => ?_)
          refine lv_goto (tgt := 4) hx hb dX7_countOfKind_42 (by decide) ?_
          exact ih (i + 1) (a + 1) (by omega) (by have h := hF; simp only [lpI, if_neg c_12, if_pos c_33] at h; exact h) _ _ _ hW hS (lv_sub hl [2, 3, 1, 0] rfl)
  refine lv_iconst (v := 0) hx hb dX7_countOfKind_0 (by decide) ?_
  refine lv_istore_n (lv' := [(2, .int 0), (0, .ref (ad 0)), (1, .int kk)]) hx hb dX7_countOfKind_1 rfl hl (by decide) rfl (fun ls hl => ?_)
  refine lv_iconst (v := 0) hx hb dX7_countOfKind_2 (by decide) ?_
  refine lv_istore_n (lv' := [(3, .int 0), (2, .int 0), (0, .ref (ad 0)), (1, .int kk)]) hx hb dX7_countOfKind_3 rfl hl (by decide) rfl (fun ls hl => ?_)
  exact JL nD 0 0 (by omega) hRV.symm _ _ _ hW hS (lv_sub hl [2, 3, 1, 0] rfl)
set_option maxHeartbeats 4000000 in
set_option maxRecDepth 100000 in
theorem c_X7_countContracts {X : (Nat → Prop) → State → Prop} (hxo : xok X) (l : Launch) (D : va_G) (q : Cq) {dm : List Nat} {kd ln ad : Nat → Nat} (V : Mv) (J : Mj) (R : Mr) (nP nD : Nat)  (hX : okX dm kd ln R nP nD) (hp : V 1 2 = nI nP) (hq : V 2 2 = nI nD)  : CtI X l yX7_countContracts wsX7_countContracts ({ frames := 3, cells := 0, slots := 0, locals := 64 }) D q dm kd ln ad V J R [.ref (ad 0)] (lpI (fun i a => if V (200 + i) 8 = 0 then a else a + 1) nD 0 0) (V) (J) (R) := by
  refine CtI_of (cc := cX7_countContracts) (maxL := 3) (ret := (some .int)) (by decide +kernel) rfl (Nat.le_of_ble_eq_true rfl) ?_
  intro p e s m below meth c A hx hb hr hml hts hown hlk hmn hK hW hA hXs ls hl
  have hS : va_S A s.heap s.heap [] := va_S.rf
  have hl : lv_has ls 3 [(0, .ref (ad 0))] := hl
  have hin_TX7 : ∀ w ∈ u_ws RX7 TX7 8, w ∈ wsX7_countContracts := by decide +kernel
  have hin_TX0 : ∀ w ∈ u_ws RX0 TX0 12, w ∈ wsX7_countContracts := by decide +kernel
  obtain ⟨RV, hRV⟩ : ∃ r, r = lpI (fun i a => if V (200 + i) 8 = 0 then a else a + 1) nD 0 0 := ⟨_, rfl⟩
  have JL : ∀ n : Nat, ∀ (i : Nat) (a : Int32) (hn : i + n = nD) (hF : lpI (fun i a => if V (200 + i) 8 = 0 then a else a + 1) n i a = RV) (H : Heap) (locs : List Loc) (ls : Array Slot), wok A D q dm kd ln ad V J R H → va_S A s.heap H locs → lv_has ls 3 [(0, .ref (ad 0)), (1, .int a), (2, .int (nI i))] → W p l e ({ frames := 3, cells := 0, slots := 0, locals := 64 }) s m ([.ref (ad 0)] : List Value).toArray below meth c H locs 0 0 (MQ below (QI (lpI (fun i a => if V (200 + i) 8 = 0 then a else a + 1) nD 0 0) D q dm kd ln ad (V) (J) (R) A) ([.ref (ad 0)] : List Value).toArray s 0 0 A) (F0 m 4 ls []) := by
    intro n
    induction n with
    | zero =>
      intro i a hn hF H locs ls hW hS hl
      refine lv_iload_n hx hb dX7_countContracts_4 rfl (lv_at hl 2 rfl) ?_
      refine lv_aload_n hx hb dX7_countContracts_5 rfl (lv_at hl 0 rfl) ?_
      refine w_getr (ci := 8) (T := TX7) hx hb hts hin_TX7 hown hK hW (hX.1 0 (by decide)).1 (hX.1 0 (by decide)).2.1 (by decide) rfl 1 (by decide) (hts (.fieldLink RX7 16 "TownClocks" "dials" "Ljava/util/ArrayList;") (by decide +kernel)) (fun _ h9 => h9) rfl ((hX.1 0 (by decide)).2.2.2 1 2 rfl) dX7_countContracts_6 ?_
      refine w_ci (w_runV ⟨hx, hb, hml, hown, hts⟩ (c_Jx4a65c_size_8abf5 hxo l D q V J R 2 (hX.1 2 (by decide)).1 (hX.1 2 (by decide)).2.1) hxo (cwV 0 hts gX7_countContracts_Jx4a65c_size_8abf5 rfl rfl rfl (by decide +kernel) ⟨Nat.le_of_ble_eq_true rfl, Nat.le_of_ble_eq_true rfl⟩) hK hW hS hA hXs (w_rcv hK hW (hX.1 2 (by decide)).1 (hX.1 2 (by decide)).2.1 (by decide) rfl) rfl hl.1 rfl (Nat.le_of_ble_eq_true rfl) dX7_countContracts_9 ⟨Nat.zero_le _, Nat.zero_le _⟩) hW hS hA (fun H locs hW hS => ?_)
      refine lv_icmp_ge (tgt := 41) hx hb dX7_countContracts_12 (by decide) (fun c_12 => ?_) (fun c_12 => ?_)
      · refine lv_iload_n hx hb dX7_countContracts_41 rfl (lv_at hl 1 rfl) ?_
        exact w_iret hx hb hr hlk hW hS (by rw [← hRV, ← hF]; rfl) rfl rfl rfl dX7_countContracts_42
      · exact absurd (by rw [hq]; exact nI_le (by omega) (by have := hX.2.1; omega)) c_12
    | succ n ih =>
      intro i a hn hF H locs ls hW hS hl
      have hid : i < nD := by omega
      refine lv_iload_n hx hb dX7_countContracts_4 rfl (lv_at hl 2 rfl) ?_
      refine lv_aload_n hx hb dX7_countContracts_5 rfl (lv_at hl 0 rfl) ?_
      refine w_getr (ci := 8) (T := TX7) hx hb hts hin_TX7 hown hK hW (hX.1 0 (by decide)).1 (hX.1 0 (by decide)).2.1 (by decide) rfl 1 (by decide) (hts (.fieldLink RX7 16 "TownClocks" "dials" "Ljava/util/ArrayList;") (by decide +kernel)) (fun _ h9 => h9) rfl ((hX.1 0 (by decide)).2.2.2 1 2 rfl) dX7_countContracts_6 ?_
      refine w_ci (w_runV ⟨hx, hb, hml, hown, hts⟩ (c_Jx4a65c_size_8abf5 hxo l D q V J R 2 (hX.1 2 (by decide)).1 (hX.1 2 (by decide)).2.1) hxo (cwV 0 hts gX7_countContracts_Jx4a65c_size_8abf5 rfl rfl rfl (by decide +kernel) ⟨Nat.le_of_ble_eq_true rfl, Nat.le_of_ble_eq_true rfl⟩) hK hW hS hA hXs (w_rcv hK hW (hX.1 2 (by decide)).1 (hX.1 2 (by decide)).2.1 (by decide) rfl) rfl hl.1 rfl (Nat.le_of_ble_eq_true rfl) dX7_countContracts_9 ⟨Nat.zero_le _, Nat.zero_le _⟩) hW hS hA (fun H locs hW hS => ?_)
      refine lv_icmp_ge (tgt := 41) hx hb dX7_countContracts_12 (by decide) (fun c_12 => ?_) (fun c_12 => ?_)
      · exact absurd c_12 (by rw [hq]; exact nI_ge (by omega) (by have := hX.2.1; omega))
      · refine lv_aload_n hx hb dX7_countContracts_15 rfl (lv_at hl 0 rfl) ?_
        refine w_getr (ci := 8) (T := TX7) hx hb hts hin_TX7 hown hK hW (hX.1 0 (by decide)).1 (hX.1 0 (by decide)).2.1 (by decide) rfl 1 (by decide) (hts (.fieldLink RX7 16 "TownClocks" "dials" "Ljava/util/ArrayList;") (by decide +kernel)) (fun _ h9 => h9) rfl ((hX.1 0 (by decide)).2.2.2 1 2 rfl) dX7_countContracts_16 ?_
        refine lv_iload_n hx hb dX7_countContracts_19 rfl (lv_at hl 2 rfl) ?_
        refine w_cq (w_runV ⟨hx, hb, hml, hown, hts⟩ (c_Jx4a65c_get_915e3 hxo l D q V J R 2 17 i nD (hX.1 2 (by decide)).1 (hX.1 2 (by decide)).2.1 (hX.2.2.2.2.2 (by omega)).2.2.2.2 (hX.2.2.2.2.2 (by omega)).1 (hX.2.2.2.2.2 (by omega)).2.1 ⟨Nat.lt_of_lt_of_le hid (hX.2.2.2.2.2 (by omega)).2.2.1, by have := hX.2.1; omega⟩ hq hid (by have := hX.2.1; omega)) hxo (cwV 1 hts gX7_countContracts_Jx4a65c_get_915e3 rfl rfl rfl (by decide +kernel) ⟨Nat.le_of_ble_eq_true rfl, Nat.le_of_ble_eq_true rfl⟩) hK hW hS hA hXs (w_rcv hK hW (hX.1 2 (by decide)).1 (hX.1 2 (by decide)).2.1 (by decide) rfl) rfl hl.1 rfl (Nat.le_of_ble_eq_true rfl) dX7_countContracts_20 ⟨Nat.zero_le _, Nat.zero_le _⟩) hW hS hA (fun H locs hW hS => ?_)
        refine w_some (hX.2.2.2.1 i hid).2.2.1 ?_
        refine w_cast hx hb hown (hts (.classLink RX7 86 "TownClocks$Dial") (by decide +kernel)) hK hW (hX.2.2.2.1 i hid).1 (hX.2.2.2.1 i hid).2.1 (by decide) rfl dX7_countContracts_23 ?_
        refine w_get (ci := 1) (T := TX0) hx hb hts hin_TX0 hown hK hW (hX.2.2.2.1 i hid).1 (hX.2.2.2.1 i hid).2.1 (by decide) rfl 8 (by decide) (hts (.fieldLink RX7 258 "TownClocks$Dial" "terms" "I") (by decide +kernel)) (fun _ h9 => h9) rfl dX7_countContracts_26 ?_
        refine lv_if_eq (tgt := 35) hx hb dX7_countContracts_29 (by decide) (fun c_29 => ?_) (fun c_29 => ?_)
        · refine lv_iinc (v := nI (i + 1)) (lv' := [(2, .int (nI (i + 1))), (0, .ref (ad 0)), (1, .int a)]) hx hb dX7_countContracts_35 hl (k := 2) rfl (by rw [show Int32.ofInt 1 = 1 from by decide]; exact nI_1 _) (by decide) rfl (fun ls hl => ?_)
          refine lv_goto (tgt := 4) hx hb dX7_countContracts_38 (by decide) ?_
          exact ih (i + 1) (a) (by omega) (by have h := hF; simp only [lpI, if_neg c_12, if_pos c_29] at h; exact h) _ _ _ hW hS (lv_sub hl [1, 2, 0] rfl)
        · refine lv_iinc (v := a + 1) (lv' := [(1, .int (a + 1)), (0, .ref (ad 0)), (2, .int (nI i))]) hx hb dX7_countContracts_32 hl (k := 1) rfl rfl (by decide) rfl (fun ls hl => ?_)
          refine lv_iinc (v := nI (i + 1)) (lv' := [(2, .int (nI (i + 1))), (1, .int (a + 1)), (0, .ref (ad 0))]) hx hb dX7_countContracts_35 hl (k := 2) rfl (by rw [show Int32.ofInt 1 = 1 from by decide]; exact nI_1 _) (by decide) rfl (fun ls hl => ?_)
          refine lv_goto (tgt := 4) hx hb dX7_countContracts_38 (by decide) ?_
          exact ih (i + 1) (a + 1) (by omega) (by have h := hF; simp only [lpI, if_neg c_12, if_neg c_29] at h; exact h) _ _ _ hW hS (lv_sub hl [2, 1, 0] rfl)
  refine lv_iconst (v := 0) hx hb dX7_countContracts_0 (by decide) ?_
  refine lv_istore_n (lv' := [(1, .int 0), (0, .ref (ad 0))]) hx hb dX7_countContracts_1 rfl hl (by decide) rfl (fun ls hl => ?_)
  refine lv_iconst (v := 0) hx hb dX7_countContracts_2 (by decide) ?_
  refine lv_istore_n (lv' := [(2, .int 0), (1, .int 0), (0, .ref (ad 0))]) hx hb dX7_countContracts_3 rfl hl (by decide) rfl (fun ls hl => ?_)
  exact JL nD 0 0 (by omega) hRV.symm _ _ _ hW hS (lv_sub hl [2, 1, 0] rfl)
set_option maxHeartbeats 4000000 in
set_option maxRecDepth 100000 in
theorem c_X7_allLates {X : (Nat → Prop) → State → Prop} (hxo : xok X) (l : Launch) (D : va_G) (q : Cq) {dm : List Nat} {kd ln ad : Nat → Nat} (V : Mv) (J : Mj) (R : Mr) (nP nD : Nat)  (hX : okX dm kd ln R nP nD) (hp : V 1 2 = nI nP) (hq : V 2 2 = nI nD)  : CtI X l yX7_allLates wsX7_allLates ({ frames := 3, cells := 0, slots := 0, locals := 64 }) D q dm kd ln ad V J R [.ref (ad 0)] (lpI (fun i a => a + x_abs (V (200 + i) 3)) nD 0 0) (V) (J) (R) := by
  refine CtI_of (cc := cX7_allLates) (maxL := 3) (ret := (some .int)) (by decide +kernel) rfl (Nat.le_of_ble_eq_true rfl) ?_
  intro p e s m below meth c A hx hb hr hml hts hown hlk hmn hK hW hA hXs ls hl
  have hS : va_S A s.heap s.heap [] := va_S.rf
  have hl : lv_has ls 3 [(0, .ref (ad 0))] := hl
  have hin_TX7 : ∀ w ∈ u_ws RX7 TX7 8, w ∈ wsX7_allLates := by decide +kernel
  have hin_TX0 : ∀ w ∈ u_ws RX0 TX0 12, w ∈ wsX7_allLates := by decide +kernel
  obtain ⟨RV, hRV⟩ : ∃ r, r = lpI (fun i a => a + x_abs (V (200 + i) 3)) nD 0 0 := ⟨_, rfl⟩
  have JL : ∀ n : Nat, ∀ (i : Nat) (a : Int32) (hn : i + n = nD) (hF : lpI (fun i a => a + x_abs (V (200 + i) 3)) n i a = RV) (H : Heap) (locs : List Loc) (ls : Array Slot), wok A D q dm kd ln ad V J R H → va_S A s.heap H locs → lv_has ls 3 [(0, .ref (ad 0)), (1, .int a), (2, .int (nI i))] → W p l e ({ frames := 3, cells := 0, slots := 0, locals := 64 }) s m ([.ref (ad 0)] : List Value).toArray below meth c H locs 0 0 (MQ below (QI (lpI (fun i a => a + x_abs (V (200 + i) 3)) nD 0 0) D q dm kd ln ad (V) (J) (R) A) ([.ref (ad 0)] : List Value).toArray s 0 0 A) (F0 m 4 ls []) := by
    intro n
    induction n with
    | zero =>
      intro i a hn hF H locs ls hW hS hl
      refine lv_iload_n hx hb dX7_allLates_4 rfl (lv_at hl 2 rfl) ?_
      refine lv_aload_n hx hb dX7_allLates_5 rfl (lv_at hl 0 rfl) ?_
      refine w_getr (ci := 8) (T := TX7) hx hb hts hin_TX7 hown hK hW (hX.1 0 (by decide)).1 (hX.1 0 (by decide)).2.1 (by decide) rfl 1 (by decide) (hts (.fieldLink RX7 16 "TownClocks" "dials" "Ljava/util/ArrayList;") (by decide +kernel)) (fun _ h9 => h9) rfl ((hX.1 0 (by decide)).2.2.2 1 2 rfl) dX7_allLates_6 ?_
      refine w_ci (w_runV ⟨hx, hb, hml, hown, hts⟩ (c_Jx4a65c_size_8abf5 hxo l D q V J R 2 (hX.1 2 (by decide)).1 (hX.1 2 (by decide)).2.1) hxo (cwV 0 hts gX7_allLates_Jx4a65c_size_8abf5 rfl rfl rfl (by decide +kernel) ⟨Nat.le_of_ble_eq_true rfl, Nat.le_of_ble_eq_true rfl⟩) hK hW hS hA hXs (w_rcv hK hW (hX.1 2 (by decide)).1 (hX.1 2 (by decide)).2.1 (by decide) rfl) rfl hl.1 rfl (Nat.le_of_ble_eq_true rfl) dX7_allLates_9 ⟨Nat.zero_le _, Nat.zero_le _⟩) hW hS hA (fun H locs hW hS => ?_)
      refine lv_icmp_ge (tgt := 41) hx hb dX7_allLates_12 (by decide) (fun c_12 => ?_) (fun c_12 => ?_)
      · refine lv_iload_n hx hb dX7_allLates_41 rfl (lv_at hl 1 rfl) ?_
        exact w_iret hx hb hr hlk hW hS (by rw [← hRV, ← hF]; rfl) rfl rfl rfl dX7_allLates_42
      · exact absurd (by rw [hq]; exact nI_le (by omega) (by have := hX.2.1; omega)) c_12
    | succ n ih =>
      intro i a hn hF H locs ls hW hS hl
      have hid : i < nD := by omega
      refine lv_iload_n hx hb dX7_allLates_4 rfl (lv_at hl 2 rfl) ?_
      refine lv_aload_n hx hb dX7_allLates_5 rfl (lv_at hl 0 rfl) ?_
      refine w_getr (ci := 8) (T := TX7) hx hb hts hin_TX7 hown hK hW (hX.1 0 (by decide)).1 (hX.1 0 (by decide)).2.1 (by decide) rfl 1 (by decide) (hts (.fieldLink RX7 16 "TownClocks" "dials" "Ljava/util/ArrayList;") (by decide +kernel)) (fun _ h9 => h9) rfl ((hX.1 0 (by decide)).2.2.2 1 2 rfl) dX7_allLates_6 ?_
      refine w_ci (w_runV ⟨hx, hb, hml, hown, hts⟩ (c_Jx4a65c_size_8abf5 hxo l D q V J R 2 (hX.1 2 (by decide)).1 (hX.1 2 (by decide)).2.1) hxo (cwV 0 hts gX7_allLates_Jx4a65c_size_8abf5 rfl rfl rfl (by decide +kernel) ⟨Nat.le_of_ble_eq_true rfl, Nat.le_of_ble_eq_true rfl⟩) hK hW hS hA hXs (w_rcv hK hW (hX.1 2 (by decide)).1 (hX.1 2 (by decide)).2.1 (by decide) rfl) rfl hl.1 rfl (Nat.le_of_ble_eq_true rfl) dX7_allLates_9 ⟨Nat.zero_le _, Nat.zero_le _⟩) hW hS hA (fun H locs hW hS => ?_)
      refine lv_icmp_ge (tgt := 41) hx hb dX7_allLates_12 (by decide) (fun c_12 => ?_) (fun c_12 => ?_)
      · exact absurd c_12 (by rw [hq]; exact nI_ge (by omega) (by have := hX.2.1; omega))
      · refine lv_iload_n hx hb dX7_allLates_15 rfl (lv_at hl 1 rfl) ?_
        refine lv_aload_n hx hb dX7_allLates_16 rfl (lv_at hl 0 rfl) ?_
        refine w_getr (ci := 8) (T := TX7) hx hb hts hin_TX7 hown hK hW (hX.1 0 (by decide)).1 (hX.1 0 (by decide)).2.1 (by decide) rfl 1 (by decide) (hts (.fieldLink RX7 16 "TownClocks" "dials" "Ljava/util/ArrayList;") (by decide +kernel)) (fun _ h9 => h9) rfl ((hX.1 0 (by decide)).2.2.2 1 2 rfl) dX7_allLates_17 ?_
        refine lv_iload_n hx hb dX7_allLates_20 rfl (lv_at hl 2 rfl) ?_
        refine w_cq (w_runV ⟨hx, hb, hml, hown, hts⟩ (c_Jx4a65c_get_915e3 hxo l D q V J R 2 17 i nD (hX.1 2 (by decide)).1 (hX.1 2 (by decide)).2.1 (hX.2.2.2.2.2 (by omega)).2.2.2.2 (hX.2.2.2.2.2 (by omega)).1 (hX.2.2.2.2.2 (by omega)).2.1 ⟨Nat.lt_of_lt_of_le hid (hX.2.2.2.2.2 (by omega)).2.2.1, by have := hX.2.1; omega⟩ hq hid (by have := hX.2.1; omega)) hxo (cwV 1 hts gX7_allLates_Jx4a65c_get_915e3 rfl rfl rfl (by decide +kernel) ⟨Nat.le_of_ble_eq_true rfl, Nat.le_of_ble_eq_true rfl⟩) hK hW hS hA hXs (w_rcv hK hW (hX.1 2 (by decide)).1 (hX.1 2 (by decide)).2.1 (by decide) rfl) rfl hl.1 rfl (Nat.le_of_ble_eq_true rfl) dX7_allLates_21 ⟨Nat.zero_le _, Nat.zero_le _⟩) hW hS hA (fun H locs hW hS => ?_)
        refine w_some (hX.2.2.2.1 i hid).2.2.1 ?_
        refine w_cast hx hb hown (hts (.classLink RX7 86 "TownClocks$Dial") (by decide +kernel)) hK hW (hX.2.2.2.1 i hid).1 (hX.2.2.2.1 i hid).2.1 (by decide) rfl dX7_allLates_24 ?_
        refine w_get (ci := 1) (T := TX0) hx hb hts hin_TX0 hown hK hW (hX.2.2.2.1 i hid).1 (hX.2.2.2.1 i hid).2.1 (by decide) rfl 3 (by decide) (hts (.fieldLink RX7 140 "TownClocks$Dial" "late" "I") (by decide +kernel)) (fun _ h9 => h9) rfl dX7_allLates_27 ?_
        refine va_mabs hx hb (by rw [hml]; exact hl.1.symm) hown (hts (.methodLink RX7 253 Lib.Math.abs.name) (by decide +kernel)) (hts (.static Lib.Math.abs.name) (by decide +kernel)) (hts (.initialized "java/lang/Math") (by decide +kernel)) (hts (.code Lib.Math.abs.name Lib.Math.abs.code 1 (some .int)) (by decide +kernel)) (Nat.le_of_ble_eq_true rfl) (Nat.le_of_ble_eq_true rfl) (Nat.zero_le _) (Nat.zero_le _) dX7_allLates_30 ?_
        refine w_i (show _ = x_abs _ from rfl) ?_
        refine lv_iadd hx hb dX7_allLates_33 ?_
        refine lv_istore_n (lv' := [(1, .int (a + (x_abs (V (200 + i) 3)))), (0, .ref (ad 0)), (2, .int (nI i))]) hx hb dX7_allLates_34 rfl hl (by decide) rfl (fun ls hl => ?_)
        refine lv_iinc (v := nI (i + 1)) (lv' := [(2, .int (nI (i + 1))), (1, .int (a + (x_abs (V (200 + i) 3)))), (0, .ref (ad 0))]) hx hb dX7_allLates_35 hl (k := 2) rfl (by rw [show Int32.ofInt 1 = 1 from by decide]; exact nI_1 _) (by decide) rfl (fun ls hl => ?_)
        refine lv_goto (tgt := 4) hx hb dX7_allLates_38 (by decide) ?_
        exact ih (i + 1) (a + (x_abs (V (200 + i) 3))) (by omega) (by have h := hF; simp only [lpI, if_neg c_12] at h; exact h) _ _ _ hW hS (lv_sub hl [2, 1, 0] rfl)
  refine lv_iconst (v := 0) hx hb dX7_allLates_0 (by decide) ?_
  refine lv_istore_n (lv' := [(1, .int 0), (0, .ref (ad 0))]) hx hb dX7_allLates_1 rfl hl (by decide) rfl (fun ls hl => ?_)
  refine lv_iconst (v := 0) hx hb dX7_allLates_2 (by decide) ?_
  refine lv_istore_n (lv' := [(2, .int 0), (1, .int 0), (0, .ref (ad 0))]) hx hb dX7_allLates_3 rfl hl (by decide) rfl (fun ls hl => ?_)
  exact JL nD 0 0 (by omega) hRV.symm _ _ _ hW hS (lv_sub hl [2, 1, 0] rfl)
set_option maxHeartbeats 4000000 in
set_option maxRecDepth 100000 in
theorem c_X6_begin {X : (Nat → Prop) → State → Prop} (hxo : xok X) (l : Launch) (D : va_G) (q : Cq) {dm : List Nat} {kd ln ad : Nat → Nat} (V : Mv) (J : Mj) (R : Mr) (nP nD : Nat) (a : Int32) (hX : okX dm kd ln R nP nD) (h0 : 0 ≤ (V 14 1).toInt) : CtV X l yX6_begin wsX6_begin ({ frames := 0, cells := 0, slots := 0, locals := 0 }) D q dm kd ln ad V J R [.ref (ad 14), .int a] (x_beg V a) (J) (R) := by
  refine CtV_of (cc := cX6_begin) (maxL := 2) (ret := none) (by decide +kernel) rfl (Nat.le_of_ble_eq_true rfl) ?_
  intro p e s m below meth c A hx hb hr hml hts hown hlk hmn hK hW hA hXs ls hl
  have hS : va_S A s.heap s.heap [] := va_S.rf
  have hl : lv_has ls 2 [(0, .ref (ad 14)), (1, .int a)] := hl
  have hin_TX6 : ∀ w ∈ u_ws RX6 TX6 2, w ∈ wsX6_begin := by decide +kernel
  refine lv_aload_n hx hb dX6_begin_0 rfl (lv_at hl 0 rfl) ?_
  refine w_get (ci := 7) (T := TX6) hx hb hts hin_TX6 hown hK hW (hX.1 14 (by decide)).1 (hX.1 14 (by decide)).2.1 (by decide) rfl 1 (by decide) (hts (.fieldLink RX6 13 "TownClocks$Trace" "length" "I") (by decide +kernel)) (fun _ h9 => h9) rfl dX6_begin_1 ?_
  refine lv_bipush (v := 16) hx hb dX6_begin_4 (by decide) ?_
  refine lv_icmp_ge (tgt := 29) hx hb dX6_begin_6 (by decide) (fun c_6 => ?_) (fun c_6 => ?_)
  · exact w_vret hx hb hr hlk hW hS (by first | rfl | (simp only [x_beg, if_pos c_6, c_6, ↓reduceIte]; done) | simp [bz, x_beg, if_pos c_6, c_6]) rfl rfl dX6_begin_29
  · refine lv_aload_n hx hb dX6_begin_9 rfl (lv_at hl 0 rfl) ?_
    refine w_getr (ci := 7) (T := TX6) hx hb hts hin_TX6 hown hK hW (hX.1 14 (by decide)).1 (hX.1 14 (by decide)).2.1 (by decide) rfl 0 (by decide) (hts (.fieldLink RX6 9 "TownClocks$Trace" "numbers" "[I") (by decide +kernel)) (fun _ h9 => h9) rfl ((hX.1 14 (by decide)).2.2.2 0 15 rfl) dX6_begin_10 ?_
    refine lv_aload_n hx hb dX6_begin_13 rfl (lv_at hl 0 rfl) ?_
    refine w_get (ci := 7) (T := TX6) hx hb hts hin_TX6 hown hK hW (hX.1 14 (by decide)).1 (hX.1 14 (by decide)).2.1 (by decide) rfl 1 (by decide) (hts (.fieldLink RX6 13 "TownClocks$Trace" "length" "I") (by decide +kernel)) (fun _ h9 => h9) rfl dX6_begin_14 ?_
    refine lv_iload_n hx hb dX6_begin_17 rfl (lv_at hl 1 rfl) ?_
    refine w_iast hx hb hK hW hS (hX.1 15 (by decide)).1 (hX.1 15 (by decide)).2.1 (by rw [(show ln 15 = 16 from (hX.1 15 (by decide)).2.2.1)]; exact inx_v.mpr ⟨h0, by have h := Int32.lt_iff_toInt_lt.mp (Int32.not_le.mp c_6); exact h⟩) dX6_begin_18 (fun H locs hW hS => ?_)
    refine lv_aload_n hx hb dX6_begin_19 rfl (lv_at hl 0 rfl) ?_
    refine lv_dup hx hb dX6_begin_20 rfl ?_
    refine w_get (ci := 7) (T := TX6) hx hb hts hin_TX6 hown hK hW (hX.1 14 (by decide)).1 (hX.1 14 (by decide)).2.1 (by decide) rfl 1 (by decide) (hts (.fieldLink RX6 13 "TownClocks$Trace" "length" "I") (by decide +kernel)) (fun _ h9 => h9) rfl dX6_begin_21 ?_
    refine w_i (by rw [u2_ne (by decide)]) ?_
    refine lv_iconst (v := 1) hx hb dX6_begin_24 (by decide) ?_
    refine lv_iadd hx hb dX6_begin_25 ?_
    refine w_puti (ci := 7) (T := TX6) (ty := .int) hx hb hts hin_TX6 tyX6 tyX6_ok nmX6 hown hK hW hS (hX.1 14 (by decide)).1 (hX.1 14 (by decide)).2.1 (by decide) rfl 1 (by decide) (hts (.fieldLink RX6 13 "TownClocks$Trace" "length" "I") (by decide +kernel)) (fun _ h9 => h9) rfl (tyX6_ok 1 (by decide)) rfl rfl (Nat.le_of_ble_eq_true rfl) rfl dX6_begin_26 (fun H locs hW hS => ?_)
    exact w_vret hx hb hr hlk hW hS (by first | rfl | (simp only [x_beg, if_neg c_6, c_6, ↓reduceIte]; done) | simp [bz, x_beg, if_neg c_6, c_6]) rfl rfl dX6_begin_29
set_option maxHeartbeats 4000000 in
set_option maxRecDepth 100000 in
theorem c_X7_body10 {X : (Nat → Prop) → State → Prop} (hxo : xok X) (l : Launch) (D : va_G) (q : Cq) {dm : List Nat} {kd ln ad : Nat → Nat} (V : Mv) (J : Mj) (R : Mr) (nP nD j : Nat) (hX : okX dm kd ln R nP nD) (hj : j < nD) (h0 : 0 ≤ (V 14 1).toInt) : CtI X l yX7_body10 wsX7_body10 ({ frames := 1, cells := 0, slots := 0, locals := 21 }) D q dm kd ln ad V J R [.ref (ad 0), .ref (ad (200 + j))] (V (200 + j) 3) (x_beg V 10) (J) (R) := by
  refine CtI_of (cc := cX7_body10) (maxL := 2) (ret := (some .int)) (by decide +kernel) rfl (Nat.le_of_ble_eq_true rfl) ?_
  intro p e s m below meth c A hx hb hr hml hts hown hlk hmn hK hW hA hXs ls hl
  have hS : va_S A s.heap s.heap [] := va_S.rf
  have hl : lv_has ls 2 [(0, .ref (ad 0)), (1, .ref (ad (200 + j)))] := hl
  have hin_TX7 : ∀ w ∈ u_ws RX7 TX7 8, w ∈ wsX7_body10 := by decide +kernel
  have hin_TX0 : ∀ w ∈ u_ws RX0 TX0 12, w ∈ wsX7_body10 := by decide +kernel
  refine lv_aload_n hx hb dX7_body10_0 rfl (lv_at hl 0 rfl) ?_
  refine w_getr (ci := 8) (T := TX7) hx hb hts hin_TX7 hown hK hW (hX.1 0 (by decide)).1 (hX.1 0 (by decide)).2.1 (by decide) rfl 6 (by decide) (hts (.fieldLink RX7 48 "TownClocks" "bodies" "LTownClocks$Trace;") (by decide +kernel)) (fun _ h9 => h9) rfl ((hX.1 0 (by decide)).2.2.2 6 14 rfl) dX7_body10_1 ?_
  refine lv_bipush (v := 10) hx hb dX7_body10_4 (by decide) ?_
  refine w_cv (w_runV ⟨hx, hb, hml, hown, hts⟩ (c_X6_begin hxo l D q V J R nP nD 10 hX (h0)) hxo (cwV 1 hts gX7_body10_X6_begin rfl rfl rfl (by decide +kernel) ⟨Nat.le_of_ble_eq_true rfl, Nat.le_of_ble_eq_true rfl⟩) hK hW hS hA hXs (w_rcv hK hW (hX.1 14 (by decide)).1 (hX.1 14 (by decide)).2.1 (by decide) rfl) rfl hl.1 rfl (Nat.le_of_ble_eq_true rfl) dX7_body10_6 ⟨Nat.zero_le _, Nat.zero_le _⟩) hW hS hA (fun H locs hW hS => ?_)
  refine lv_aload_n hx hb dX7_body10_9 rfl (lv_at hl 1 rfl) ?_
  refine w_get (ci := 1) (T := TX0) hx hb hts hin_TX0 hown hK hW (hX.2.2.2.1 j hj).1 (hX.2.2.2.1 j hj).2.1 (by decide) rfl 3 (by decide) (hts (.fieldLink RX7 140 "TownClocks$Dial" "late" "I") (by decide +kernel)) (fun _ h9 => h9) rfl dX7_body10_10 ?_
  exact w_iret hx hb hr hlk hW hS (by simp only [x_beg_ne (show 200 + j ≠ 14 by omega) (show 200 + j ≠ 15 by omega)]) rfl rfl rfl dX7_body10_13
set_option maxHeartbeats 4000000 in
set_option maxRecDepth 100000 in
theorem c_X7_body11 {X : (Nat → Prop) → State → Prop} (hxo : xok X) (l : Launch) (D : va_G) (q : Cq) {dm : List Nat} {kd ln ad : Nat → Nat} (V : Mv) (J : Mj) (R : Mr) (nP nD j : Nat) (hX : okX dm kd ln R nP nD) (hj : j < nD) (h0 : 0 ≤ (V 14 1).toInt) : CtI X l yX7_body11 wsX7_body11 ({ frames := 2, cells := 0, slots := 0, locals := 42 }) D q dm kd ln ad V J R [.ref (ad 0), .ref (ad (200 + j))] (V (200 + j) 3 + 10) (x_beg (x_beg V 11) 10) (J) (R) := by
  refine CtI_of (cc := cX7_body11) (maxL := 2) (ret := (some .int)) (by decide +kernel) rfl (Nat.le_of_ble_eq_true rfl) ?_
  intro p e s m below meth c A hx hb hr hml hts hown hlk hmn hK hW hA hXs ls hl
  have hS : va_S A s.heap s.heap [] := va_S.rf
  have hl : lv_has ls 2 [(0, .ref (ad 0)), (1, .ref (ad (200 + j)))] := hl
  have hin_TX7 : ∀ w ∈ u_ws RX7 TX7 8, w ∈ wsX7_body11 := by decide +kernel
  refine lv_aload_n hx hb dX7_body11_0 rfl (lv_at hl 0 rfl) ?_
  refine w_getr (ci := 8) (T := TX7) hx hb hts hin_TX7 hown hK hW (hX.1 0 (by decide)).1 (hX.1 0 (by decide)).2.1 (by decide) rfl 6 (by decide) (hts (.fieldLink RX7 48 "TownClocks" "bodies" "LTownClocks$Trace;") (by decide +kernel)) (fun _ h9 => h9) rfl ((hX.1 0 (by decide)).2.2.2 6 14 rfl) dX7_body11_1 ?_
  refine lv_bipush (v := 11) hx hb dX7_body11_4 (by decide) ?_
  refine w_cv (w_runV ⟨hx, hb, hml, hown, hts⟩ (c_X6_begin hxo l D q V J R nP nD 11 hX (h0)) hxo (cwV 1 hts gX7_body11_X6_begin rfl rfl rfl (by decide +kernel) ⟨Nat.le_of_ble_eq_true rfl, Nat.le_of_ble_eq_true rfl⟩) hK hW hS hA hXs (w_rcv hK hW (hX.1 14 (by decide)).1 (hX.1 14 (by decide)).2.1 (by decide) rfl) rfl hl.1 rfl (Nat.le_of_ble_eq_true rfl) dX7_body11_6 ⟨Nat.zero_le _, Nat.zero_le _⟩) hW hS hA (fun H locs hW hS => ?_)
  refine lv_aload_n hx hb dX7_body11_9 rfl (lv_at hl 0 rfl) ?_
  refine lv_aload_n hx hb dX7_body11_10 rfl (lv_at hl 1 rfl) ?_
  refine w_ci (w_runV ⟨hx, hb, hml, hown, hts⟩ (c_X7_body10 hxo l D q (x_beg V 11) J R nP nD j hX hj (x_beg_h0 (h0))) hxo (cwV 1 hts gX7_body11_X7_body10 rfl rfl rfl (by decide +kernel) ⟨Nat.le_of_ble_eq_true rfl, Nat.le_of_ble_eq_true rfl⟩) hK hW hS hA hXs (w_rcv hK hW (hX.1 0 (by decide)).1 (hX.1 0 (by decide)).2.1 (by decide) rfl) rfl hl.1 rfl (Nat.le_of_ble_eq_true rfl) dX7_body11_11 ⟨Nat.zero_le _, Nat.zero_le _⟩) hW hS hA (fun H locs hW hS => ?_)
  refine lv_bipush (v := 10) hx hb dX7_body11_14 (by decide) ?_
  refine lv_iadd hx hb dX7_body11_16 ?_
  exact w_iret hx hb hr hlk hW hS (by simp only [x_beg_ne (show 200 + j ≠ 14 by omega) (show 200 + j ≠ 15 by omega)]) rfl rfl rfl dX7_body11_17
set_option maxHeartbeats 4000000 in
set_option maxRecDepth 100000 in
theorem c_X7_body12 {X : (Nat → Prop) → State → Prop} (hxo : xok X) (l : Launch) (D : va_G) (q : Cq) {dm : List Nat} {kd ln ad : Nat → Nat} (V : Mv) (J : Mj) (R : Mr) (nP nD j : Nat) (hX : okX dm kd ln R nP nD) (hj : j < nD) (h0 : 0 ≤ (V 14 1).toInt) : CtI X l yX7_body12 wsX7_body12 ({ frames := 3, cells := 0, slots := 0, locals := 63 }) D q dm kd ln ad V J R [.ref (ad 0), .ref (ad (200 + j))] (2 * (V (200 + j) 3 + 10)) (x_beg (x_beg (x_beg V 12) 11) 10) (J) (R) := by
  refine CtI_of (cc := cX7_body12) (maxL := 2) (ret := (some .int)) (by decide +kernel) rfl (Nat.le_of_ble_eq_true rfl) ?_
  intro p e s m below meth c A hx hb hr hml hts hown hlk hmn hK hW hA hXs ls hl
  have hS : va_S A s.heap s.heap [] := va_S.rf
  have hl : lv_has ls 2 [(0, .ref (ad 0)), (1, .ref (ad (200 + j)))] := hl
  have hin_TX7 : ∀ w ∈ u_ws RX7 TX7 8, w ∈ wsX7_body12 := by decide +kernel
  refine lv_aload_n hx hb dX7_body12_0 rfl (lv_at hl 0 rfl) ?_
  refine w_getr (ci := 8) (T := TX7) hx hb hts hin_TX7 hown hK hW (hX.1 0 (by decide)).1 (hX.1 0 (by decide)).2.1 (by decide) rfl 6 (by decide) (hts (.fieldLink RX7 48 "TownClocks" "bodies" "LTownClocks$Trace;") (by decide +kernel)) (fun _ h9 => h9) rfl ((hX.1 0 (by decide)).2.2.2 6 14 rfl) dX7_body12_1 ?_
  refine lv_bipush (v := 12) hx hb dX7_body12_4 (by decide) ?_
  refine w_cv (w_runV ⟨hx, hb, hml, hown, hts⟩ (c_X6_begin hxo l D q V J R nP nD 12 hX (h0)) hxo (cwV 1 hts gX7_body12_X6_begin rfl rfl rfl (by decide +kernel) ⟨Nat.le_of_ble_eq_true rfl, Nat.le_of_ble_eq_true rfl⟩) hK hW hS hA hXs (w_rcv hK hW (hX.1 14 (by decide)).1 (hX.1 14 (by decide)).2.1 (by decide) rfl) rfl hl.1 rfl (Nat.le_of_ble_eq_true rfl) dX7_body12_6 ⟨Nat.zero_le _, Nat.zero_le _⟩) hW hS hA (fun H locs hW hS => ?_)
  refine lv_iconst (v := 2) hx hb dX7_body12_9 (by decide) ?_
  refine lv_aload_n hx hb dX7_body12_10 rfl (lv_at hl 0 rfl) ?_
  refine lv_aload_n hx hb dX7_body12_11 rfl (lv_at hl 1 rfl) ?_
  refine w_ci (w_runV ⟨hx, hb, hml, hown, hts⟩ (c_X7_body11 hxo l D q (x_beg V 12) J R nP nD j hX hj (x_beg_h0 (h0))) hxo (cwV 1 hts gX7_body12_X7_body11 rfl rfl rfl (by decide +kernel) ⟨Nat.le_of_ble_eq_true rfl, Nat.le_of_ble_eq_true rfl⟩) hK hW hS hA hXs (w_rcv hK hW (hX.1 0 (by decide)).1 (hX.1 0 (by decide)).2.1 (by decide) rfl) rfl hl.1 rfl (Nat.le_of_ble_eq_true rfl) dX7_body12_12 ⟨Nat.zero_le _, Nat.zero_le _⟩) hW hS hA (fun H locs hW hS => ?_)
  refine lv_imul hx hb dX7_body12_15 ?_
  exact w_iret hx hb hr hlk hW hS (by simp only [x_beg_ne (show 200 + j ≠ 14 by omega) (show 200 + j ≠ 15 by omega)]) rfl rfl rfl dX7_body12_16
set_option maxHeartbeats 4000000 in
set_option maxRecDepth 100000 in
theorem c_X7_body13 {X : (Nat → Prop) → State → Prop} (hxo : xok X) (l : Launch) (D : va_G) (q : Cq) {dm : List Nat} {kd ln ad : Nat → Nat} (V : Mv) (J : Mj) (R : Mr) (nP nD j : Nat) (hX : okX dm kd ln R nP nD) (hj : j < nD) (h0 : 0 ≤ (V 14 1).toInt) : CtI X l yX7_body13 wsX7_body13 ({ frames := 2, cells := 0, slots := 0, locals := 42 }) D q dm kd ln ad V J R [.ref (ad 0), .ref (ad (200 + j))] (-V (200 + j) 3) (x_beg (x_beg V 13) 10) (J) (R) := by
  refine CtI_of (cc := cX7_body13) (maxL := 2) (ret := (some .int)) (by decide +kernel) rfl (Nat.le_of_ble_eq_true rfl) ?_
  intro p e s m below meth c A hx hb hr hml hts hown hlk hmn hK hW hA hXs ls hl
  have hS : va_S A s.heap s.heap [] := va_S.rf
  have hl : lv_has ls 2 [(0, .ref (ad 0)), (1, .ref (ad (200 + j)))] := hl
  have hin_TX7 : ∀ w ∈ u_ws RX7 TX7 8, w ∈ wsX7_body13 := by decide +kernel
  refine lv_aload_n hx hb dX7_body13_0 rfl (lv_at hl 0 rfl) ?_
  refine w_getr (ci := 8) (T := TX7) hx hb hts hin_TX7 hown hK hW (hX.1 0 (by decide)).1 (hX.1 0 (by decide)).2.1 (by decide) rfl 6 (by decide) (hts (.fieldLink RX7 48 "TownClocks" "bodies" "LTownClocks$Trace;") (by decide +kernel)) (fun _ h9 => h9) rfl ((hX.1 0 (by decide)).2.2.2 6 14 rfl) dX7_body13_1 ?_
  refine lv_bipush (v := 13) hx hb dX7_body13_4 (by decide) ?_
  refine w_cv (w_runV ⟨hx, hb, hml, hown, hts⟩ (c_X6_begin hxo l D q V J R nP nD 13 hX (h0)) hxo (cwV 1 hts gX7_body13_X6_begin rfl rfl rfl (by decide +kernel) ⟨Nat.le_of_ble_eq_true rfl, Nat.le_of_ble_eq_true rfl⟩) hK hW hS hA hXs (w_rcv hK hW (hX.1 14 (by decide)).1 (hX.1 14 (by decide)).2.1 (by decide) rfl) rfl hl.1 rfl (Nat.le_of_ble_eq_true rfl) dX7_body13_6 ⟨Nat.zero_le _, Nat.zero_le _⟩) hW hS hA (fun H locs hW hS => ?_)
  refine lv_aload_n hx hb dX7_body13_9 rfl (lv_at hl 0 rfl) ?_
  refine lv_aload_n hx hb dX7_body13_10 rfl (lv_at hl 1 rfl) ?_
  refine w_ci (w_runV ⟨hx, hb, hml, hown, hts⟩ (c_X7_body10 hxo l D q (x_beg V 13) J R nP nD j hX hj (x_beg_h0 (h0))) hxo (cwV 1 hts gX7_body13_X7_body10 rfl rfl rfl (by decide +kernel) ⟨Nat.le_of_ble_eq_true rfl, Nat.le_of_ble_eq_true rfl⟩) hK hW hS hA hXs (w_rcv hK hW (hX.1 0 (by decide)).1 (hX.1 0 (by decide)).2.1 (by decide) rfl) rfl hl.1 rfl (Nat.le_of_ble_eq_true rfl) dX7_body13_11 ⟨Nat.zero_le _, Nat.zero_le _⟩) hW hS hA (fun H locs hW hS => ?_)
  refine lv_ineg hx hb dX7_body13_14 ?_
  exact w_iret hx hb hr hlk hW hS (by simp only [x_beg_ne (show 200 + j ≠ 14 by omega) (show 200 + j ≠ 15 by omega)]) rfl rfl rfl dX7_body13_15
set_option maxHeartbeats 4000000 in
set_option maxRecDepth 100000 in
theorem c_X7_weightOf {X : (Nat → Prop) → State → Prop} (hxo : xok X) (l : Launch) (D : va_G) (q : Cq) {dm : List Nat} {kd ln ad : Nat → Nat} (V : Mv) (J : Mj) (R : Mr) (nP nD j : Nat) (hX : okX dm kd ln R nP nD) (hj : j < nD) (h0 : 0 ≤ (V 14 1).toInt) : CtI X l yX7_weightOf wsX7_weightOf ({ frames := 4, cells := 0, slots := 0, locals := 84 }) D q dm kd ln ad V J R [.ref (ad 0), .ref (ad (200 + j))] (x_w V j) (x_wV V j) (J) (R) := by
  refine CtI_of (cc := cX7_weightOf) (maxL := 2) (ret := (some .int)) (by decide +kernel) rfl (Nat.le_of_ble_eq_true rfl) ?_
  intro p e s m below meth c A hx hb hr hml hts hown hlk hmn hK hW hA hXs ls hl
  have hS : va_S A s.heap s.heap [] := va_S.rf
  have hl : lv_has ls 2 [(0, .ref (ad 0)), (1, .ref (ad (200 + j)))] := hl
  refine lv_aload_n hx hb dX7_weightOf_0 rfl (lv_at hl 1 rfl) ?_
  refine w_ci (w_runV ⟨hx, hb, hml, hown, hts⟩ (c_X0_toldKind hxo l D q V J R (200 + j) (hX.2.2.2.1 j hj).1 (hX.2.2.2.1 j hj).2.1) hxo (cwV 0 hts gX7_weightOf_X0_toldKind rfl rfl rfl (by decide +kernel) ⟨Nat.le_of_ble_eq_true rfl, Nat.le_of_ble_eq_true rfl⟩) hK hW hS hA hXs (w_rcv hK hW (hX.2.2.2.1 j hj).1 (hX.2.2.2.1 j hj).2.1 (by decide) rfl) rfl hl.1 rfl (Nat.le_of_ble_eq_true rfl) dX7_weightOf_1 ⟨Nat.zero_le _, Nat.zero_le _⟩) hW hS hA (fun H locs hW hS => ?_)
  by_cases c_4_1 : x_kind V (200 + j) = 1
  · refine w_i c_4_1 ?_
    refine lv_tableIn (tgt := 32) hx hb dX7_weightOf_4 (by decide) (by decide) (off := 28) (by decide) (by decide) ?_
    refine lv_aload_n hx hb dX7_weightOf_32 rfl (lv_at hl 0 rfl) ?_
    refine lv_aload_n hx hb dX7_weightOf_33 rfl (lv_at hl 1 rfl) ?_
    refine w_ci (w_runV ⟨hx, hb, hml, hown, hts⟩ (c_X7_body11 hxo l D q V J R nP nD j hX hj h0) hxo (cwV 1 hts gX7_weightOf_X7_body11 rfl rfl rfl (by decide +kernel) ⟨Nat.le_of_ble_eq_true rfl, Nat.le_of_ble_eq_true rfl⟩) hK hW hS hA hXs (w_rcv hK hW (hX.1 0 (by decide)).1 (hX.1 0 (by decide)).2.1 (by decide) rfl) rfl hl.1 rfl (Nat.le_of_ble_eq_true rfl) dX7_weightOf_34 ⟨Nat.zero_le _, Nat.zero_le _⟩) hW hS hA (fun H locs hW hS => ?_)
    exact w_iret hx hb hr hlk hW hS (by first | rfl | (simp only [x_w, x_wV, if_pos c_4_1, c_4_1, ↓reduceIte]; done) | simp [bz, x_w, x_wV, if_pos c_4_1, c_4_1]) (by first | rfl | (simp only [x_w, x_wV, if_pos c_4_1, c_4_1, ↓reduceIte]; done) | simp [bz, x_w, x_wV, if_pos c_4_1, c_4_1]) rfl rfl dX7_weightOf_37
  by_cases c_4_2 : x_kind V (200 + j) = 2
  · refine w_i c_4_2 ?_
    refine lv_tableIn (tgt := 38) hx hb dX7_weightOf_4 (by decide) (by decide) (off := 34) (by decide) (by decide) ?_
    refine lv_aload_n hx hb dX7_weightOf_38 rfl (lv_at hl 0 rfl) ?_
    refine lv_aload_n hx hb dX7_weightOf_39 rfl (lv_at hl 1 rfl) ?_
    refine w_ci (w_runV ⟨hx, hb, hml, hown, hts⟩ (c_X7_body12 hxo l D q V J R nP nD j hX hj h0) hxo (cwV 1 hts gX7_weightOf_X7_body12 rfl rfl rfl (by decide +kernel) ⟨Nat.le_of_ble_eq_true rfl, Nat.le_of_ble_eq_true rfl⟩) hK hW hS hA hXs (w_rcv hK hW (hX.1 0 (by decide)).1 (hX.1 0 (by decide)).2.1 (by decide) rfl) rfl hl.1 rfl (Nat.le_of_ble_eq_true rfl) dX7_weightOf_40 ⟨Nat.zero_le _, Nat.zero_le _⟩) hW hS hA (fun H locs hW hS => ?_)
    exact w_iret hx hb hr hlk hW hS (by first | rfl | (simp only [x_w, x_wV, if_neg c_4_1, if_pos c_4_2, c_4_1, c_4_2, ↓reduceIte]; done) | simp [bz, x_w, x_wV, if_neg c_4_1, if_pos c_4_2, c_4_1, c_4_2]) (by first | rfl | (simp only [x_w, x_wV, if_neg c_4_1, if_pos c_4_2, c_4_1, c_4_2, ↓reduceIte]; done) | simp [bz, x_w, x_wV, if_neg c_4_1, if_pos c_4_2, c_4_1, c_4_2]) rfl rfl dX7_weightOf_43
  by_cases c_4_3 : x_kind V (200 + j) = 3
  · refine w_i c_4_3 ?_
    refine lv_tableIn (tgt := 44) hx hb dX7_weightOf_4 (by decide) (by decide) (off := 40) (by decide) (by decide) ?_
    refine lv_aload_n hx hb dX7_weightOf_44 rfl (lv_at hl 0 rfl) ?_
    refine lv_aload_n hx hb dX7_weightOf_45 rfl (lv_at hl 1 rfl) ?_
    refine w_ci (w_runV ⟨hx, hb, hml, hown, hts⟩ (c_X7_body13 hxo l D q V J R nP nD j hX hj h0) hxo (cwV 1 hts gX7_weightOf_X7_body13 rfl rfl rfl (by decide +kernel) ⟨Nat.le_of_ble_eq_true rfl, Nat.le_of_ble_eq_true rfl⟩) hK hW hS hA hXs (w_rcv hK hW (hX.1 0 (by decide)).1 (hX.1 0 (by decide)).2.1 (by decide) rfl) rfl hl.1 rfl (Nat.le_of_ble_eq_true rfl) dX7_weightOf_46 ⟨Nat.zero_le _, Nat.zero_le _⟩) hW hS hA (fun H locs hW hS => ?_)
    exact w_iret hx hb hr hlk hW hS (by first | rfl | (simp only [x_w, x_wV, if_neg c_4_1, if_neg c_4_2, if_pos c_4_3, c_4_1, c_4_2, c_4_3, ↓reduceIte]; done) | simp [bz, x_w, x_wV, if_neg c_4_1, if_neg c_4_2, if_pos c_4_3, c_4_1, c_4_2, c_4_3]) (by first | rfl | (simp only [x_w, x_wV, if_neg c_4_1, if_neg c_4_2, if_pos c_4_3, c_4_1, c_4_2, c_4_3, ↓reduceIte]; done) | simp [bz, x_w, x_wV, if_neg c_4_1, if_neg c_4_2, if_pos c_4_3, c_4_1, c_4_2, c_4_3]) rfl rfl dX7_weightOf_49
  refine lv_tableOut (tgt := 50) hx hb dX7_weightOf_4 (by have h0 := i32_neL c_4_1 (k := 1) (by decide); have h1 := i32_neL c_4_2 (k := 2) (by decide); have h2 := i32_neL c_4_3 (k := 3) (by decide); omega) (by decide) ?_
  refine lv_aload_n hx hb dX7_weightOf_50 rfl (lv_at hl 0 rfl) ?_
  refine lv_aload_n hx hb dX7_weightOf_51 rfl (lv_at hl 1 rfl) ?_
  refine w_ci (w_runV ⟨hx, hb, hml, hown, hts⟩ (c_X7_body10 hxo l D q V J R nP nD j hX hj h0) hxo (cwV 1 hts gX7_weightOf_X7_body10 rfl rfl rfl (by decide +kernel) ⟨Nat.le_of_ble_eq_true rfl, Nat.le_of_ble_eq_true rfl⟩) hK hW hS hA hXs (w_rcv hK hW (hX.1 0 (by decide)).1 (hX.1 0 (by decide)).2.1 (by decide) rfl) rfl hl.1 rfl (Nat.le_of_ble_eq_true rfl) dX7_weightOf_52 ⟨Nat.zero_le _, Nat.zero_le _⟩) hW hS hA (fun H locs hW hS => ?_)
  exact w_iret hx hb hr hlk hW hS (by first | rfl | (simp only [x_w, x_wV, if_neg c_4_1, if_neg c_4_2, if_neg c_4_3, c_4_1, c_4_2, c_4_3, ↓reduceIte]; done) | simp [bz, x_w, x_wV, if_neg c_4_1, if_neg c_4_2, if_neg c_4_3, c_4_1, c_4_2, c_4_3]) (by first | rfl | (simp only [x_w, x_wV, if_neg c_4_1, if_neg c_4_2, if_neg c_4_3, c_4_1, c_4_2, c_4_3, ↓reduceIte]; done) | simp [bz, x_w, x_wV, if_neg c_4_1, if_neg c_4_2, if_neg c_4_3, c_4_1, c_4_2, c_4_3]) rfl rfl dX7_weightOf_55
set_option maxHeartbeats 4000000 in
set_option maxRecDepth 100000 in
theorem c_X7_body20 {X : (Nat → Prop) → State → Prop} (hxo : xok X) (l : Launch) (D : va_G) (q : Cq) {dm : List Nat} {kd ln ad : Nat → Nat} (V : Mv) (J : Mj) (R : Mr) (nP nD j : Nat) (hX : okX dm kd ln R nP nD) (hj : j < nD) (h0 : 0 ≤ (V 14 1).toInt) : CtI X l yX7_body20 wsX7_body20 ({ frames := 1, cells := 0, slots := 0, locals := 21 }) D q dm kd ln ad V J R [.ref (ad 0), .ref (ad (200 + j))] (V (200 + j) 1) (x_beg V 20) (J) (R) := by
  refine CtI_of (cc := cX7_body20) (maxL := 2) (ret := (some .int)) (by decide +kernel) rfl (Nat.le_of_ble_eq_true rfl) ?_
  intro p e s m below meth c A hx hb hr hml hts hown hlk hmn hK hW hA hXs ls hl
  have hS : va_S A s.heap s.heap [] := va_S.rf
  have hl : lv_has ls 2 [(0, .ref (ad 0)), (1, .ref (ad (200 + j)))] := hl
  have hin_TX7 : ∀ w ∈ u_ws RX7 TX7 8, w ∈ wsX7_body20 := by decide +kernel
  have hin_TX0 : ∀ w ∈ u_ws RX0 TX0 12, w ∈ wsX7_body20 := by decide +kernel
  refine lv_aload_n hx hb dX7_body20_0 rfl (lv_at hl 0 rfl) ?_
  refine w_getr (ci := 8) (T := TX7) hx hb hts hin_TX7 hown hK hW (hX.1 0 (by decide)).1 (hX.1 0 (by decide)).2.1 (by decide) rfl 6 (by decide) (hts (.fieldLink RX7 48 "TownClocks" "bodies" "LTownClocks$Trace;") (by decide +kernel)) (fun _ h9 => h9) rfl ((hX.1 0 (by decide)).2.2.2 6 14 rfl) dX7_body20_1 ?_
  refine lv_bipush (v := 20) hx hb dX7_body20_4 (by decide) ?_
  refine w_cv (w_runV ⟨hx, hb, hml, hown, hts⟩ (c_X6_begin hxo l D q V J R nP nD 20 hX (h0)) hxo (cwV 1 hts gX7_body20_X6_begin rfl rfl rfl (by decide +kernel) ⟨Nat.le_of_ble_eq_true rfl, Nat.le_of_ble_eq_true rfl⟩) hK hW hS hA hXs (w_rcv hK hW (hX.1 14 (by decide)).1 (hX.1 14 (by decide)).2.1 (by decide) rfl) rfl hl.1 rfl (Nat.le_of_ble_eq_true rfl) dX7_body20_6 ⟨Nat.zero_le _, Nat.zero_le _⟩) hW hS hA (fun H locs hW hS => ?_)
  refine lv_aload_n hx hb dX7_body20_9 rfl (lv_at hl 1 rfl) ?_
  refine w_get (ci := 1) (T := TX0) hx hb hts hin_TX0 hown hK hW (hX.2.2.2.1 j hj).1 (hX.2.2.2.1 j hj).2.1 (by decide) rfl 1 (by decide) (hts (.fieldLink RX7 159 "TownClocks$Dial" "need" "I") (by decide +kernel)) (fun _ h9 => h9) rfl dX7_body20_10 ?_
  exact w_iret hx hb hr hlk hW hS (by simp only [x_beg_ne (show 200 + j ≠ 14 by omega) (show 200 + j ≠ 15 by omega)]) rfl rfl rfl dX7_body20_13
set_option maxHeartbeats 4000000 in
set_option maxRecDepth 100000 in
theorem c_X7_body21 {X : (Nat → Prop) → State → Prop} (hxo : xok X) (l : Launch) (D : va_G) (q : Cq) {dm : List Nat} {kd ln ad : Nat → Nat} (V : Mv) (J : Mj) (R : Mr) (nP nD j : Nat) (hX : okX dm kd ln R nP nD) (hj : j < nD) (h0 : 0 ≤ (V 14 1).toInt) : CtI X l yX7_body21 wsX7_body21 ({ frames := 5, cells := 0, slots := 0, locals := 105 }) D q dm kd ln ad V J R [.ref (ad 0), .ref (ad (200 + j))] (V (200 + j) 1 + x_w (x_beg (x_beg V 21) 20) j) (x_wV (x_beg (x_beg V 21) 20) j) (J) (R) := by
  refine CtI_of (cc := cX7_body21) (maxL := 2) (ret := (some .int)) (by decide +kernel) rfl (Nat.le_of_ble_eq_true rfl) ?_
  intro p e s m below meth c A hx hb hr hml hts hown hlk hmn hK hW hA hXs ls hl
  have hS : va_S A s.heap s.heap [] := va_S.rf
  have hl : lv_has ls 2 [(0, .ref (ad 0)), (1, .ref (ad (200 + j)))] := hl
  have hin_TX7 : ∀ w ∈ u_ws RX7 TX7 8, w ∈ wsX7_body21 := by decide +kernel
  refine lv_aload_n hx hb dX7_body21_0 rfl (lv_at hl 0 rfl) ?_
  refine w_getr (ci := 8) (T := TX7) hx hb hts hin_TX7 hown hK hW (hX.1 0 (by decide)).1 (hX.1 0 (by decide)).2.1 (by decide) rfl 6 (by decide) (hts (.fieldLink RX7 48 "TownClocks" "bodies" "LTownClocks$Trace;") (by decide +kernel)) (fun _ h9 => h9) rfl ((hX.1 0 (by decide)).2.2.2 6 14 rfl) dX7_body21_1 ?_
  refine lv_bipush (v := 21) hx hb dX7_body21_4 (by decide) ?_
  refine w_cv (w_runV ⟨hx, hb, hml, hown, hts⟩ (c_X6_begin hxo l D q V J R nP nD 21 hX (h0)) hxo (cwV 1 hts gX7_body21_X6_begin rfl rfl rfl (by decide +kernel) ⟨Nat.le_of_ble_eq_true rfl, Nat.le_of_ble_eq_true rfl⟩) hK hW hS hA hXs (w_rcv hK hW (hX.1 14 (by decide)).1 (hX.1 14 (by decide)).2.1 (by decide) rfl) rfl hl.1 rfl (Nat.le_of_ble_eq_true rfl) dX7_body21_6 ⟨Nat.zero_le _, Nat.zero_le _⟩) hW hS hA (fun H locs hW hS => ?_)
  refine lv_aload_n hx hb dX7_body21_9 rfl (lv_at hl 0 rfl) ?_
  refine lv_aload_n hx hb dX7_body21_10 rfl (lv_at hl 1 rfl) ?_
  refine w_ci (w_runV ⟨hx, hb, hml, hown, hts⟩ (c_X7_body20 hxo l D q (x_beg V 21) J R nP nD j hX hj (x_beg_h0 (h0))) hxo (cwV 1 hts gX7_body21_X7_body20 rfl rfl rfl (by decide +kernel) ⟨Nat.le_of_ble_eq_true rfl, Nat.le_of_ble_eq_true rfl⟩) hK hW hS hA hXs (w_rcv hK hW (hX.1 0 (by decide)).1 (hX.1 0 (by decide)).2.1 (by decide) rfl) rfl hl.1 rfl (Nat.le_of_ble_eq_true rfl) dX7_body21_11 ⟨Nat.zero_le _, Nat.zero_le _⟩) hW hS hA (fun H locs hW hS => ?_)
  refine lv_aload_n hx hb dX7_body21_14 rfl (lv_at hl 0 rfl) ?_
  refine lv_aload_n hx hb dX7_body21_15 rfl (lv_at hl 1 rfl) ?_
  refine w_ci (w_runV ⟨hx, hb, hml, hown, hts⟩ (c_X7_weightOf hxo l D q (x_beg (x_beg V 21) 20) J R nP nD j hX hj (x_beg_h0 (x_beg_h0 (h0)))) hxo (cwV 1 hts gX7_body21_X7_weightOf rfl rfl rfl (by decide +kernel) ⟨Nat.le_of_ble_eq_true rfl, Nat.le_of_ble_eq_true rfl⟩) hK hW hS hA hXs (w_rcv hK hW (hX.1 0 (by decide)).1 (hX.1 0 (by decide)).2.1 (by decide) rfl) rfl hl.1 rfl (Nat.le_of_ble_eq_true rfl) dX7_body21_16 ⟨Nat.zero_le _, Nat.zero_le _⟩) hW hS hA (fun H locs hW hS => ?_)
  refine lv_iadd hx hb dX7_body21_19 ?_
  exact w_iret hx hb hr hlk hW hS (by simp only [x_beg_ne (show 200 + j ≠ 14 by omega) (show 200 + j ≠ 15 by omega)]) rfl rfl rfl dX7_body21_20
set_option maxHeartbeats 4000000 in
set_option maxRecDepth 100000 in
theorem c_X7_body22 {X : (Nat → Prop) → State → Prop} (hxo : xok X) (l : Launch) (D : va_G) (q : Cq) {dm : List Nat} {kd ln ad : Nat → Nat} (V : Mv) (J : Mj) (R : Mr) (nP nD j : Nat) (hX : okX dm kd ln R nP nD) (hj : j < nD) (h0 : 0 ≤ (V 14 1).toInt) : CtI X l yX7_body22 wsX7_body22 ({ frames := 2, cells := 0, slots := 0, locals := 42 }) D q dm kd ln ad V J R [.ref (ad 0), .ref (ad (200 + j))] (V (200 + j) 1 + 1000) (x_beg (x_beg V 22) 20) (J) (R) := by
  refine CtI_of (cc := cX7_body22) (maxL := 2) (ret := (some .int)) (by decide +kernel) rfl (Nat.le_of_ble_eq_true rfl) ?_
  intro p e s m below meth c A hx hb hr hml hts hown hlk hmn hK hW hA hXs ls hl
  have hS : va_S A s.heap s.heap [] := va_S.rf
  have hl : lv_has ls 2 [(0, .ref (ad 0)), (1, .ref (ad (200 + j)))] := hl
  have hin_TX7 : ∀ w ∈ u_ws RX7 TX7 8, w ∈ wsX7_body22 := by decide +kernel
  refine lv_aload_n hx hb dX7_body22_0 rfl (lv_at hl 0 rfl) ?_
  refine w_getr (ci := 8) (T := TX7) hx hb hts hin_TX7 hown hK hW (hX.1 0 (by decide)).1 (hX.1 0 (by decide)).2.1 (by decide) rfl 6 (by decide) (hts (.fieldLink RX7 48 "TownClocks" "bodies" "LTownClocks$Trace;") (by decide +kernel)) (fun _ h9 => h9) rfl ((hX.1 0 (by decide)).2.2.2 6 14 rfl) dX7_body22_1 ?_
  refine lv_bipush (v := 22) hx hb dX7_body22_4 (by decide) ?_
  refine w_cv (w_runV ⟨hx, hb, hml, hown, hts⟩ (c_X6_begin hxo l D q V J R nP nD 22 hX (h0)) hxo (cwV 1 hts gX7_body22_X6_begin rfl rfl rfl (by decide +kernel) ⟨Nat.le_of_ble_eq_true rfl, Nat.le_of_ble_eq_true rfl⟩) hK hW hS hA hXs (w_rcv hK hW (hX.1 14 (by decide)).1 (hX.1 14 (by decide)).2.1 (by decide) rfl) rfl hl.1 rfl (Nat.le_of_ble_eq_true rfl) dX7_body22_6 ⟨Nat.zero_le _, Nat.zero_le _⟩) hW hS hA (fun H locs hW hS => ?_)
  refine lv_aload_n hx hb dX7_body22_9 rfl (lv_at hl 0 rfl) ?_
  refine lv_aload_n hx hb dX7_body22_10 rfl (lv_at hl 1 rfl) ?_
  refine w_ci (w_runV ⟨hx, hb, hml, hown, hts⟩ (c_X7_body20 hxo l D q (x_beg V 22) J R nP nD j hX hj (x_beg_h0 (h0))) hxo (cwV 1 hts gX7_body22_X7_body20 rfl rfl rfl (by decide +kernel) ⟨Nat.le_of_ble_eq_true rfl, Nat.le_of_ble_eq_true rfl⟩) hK hW hS hA hXs (w_rcv hK hW (hX.1 0 (by decide)).1 (hX.1 0 (by decide)).2.1 (by decide) rfl) rfl hl.1 rfl (Nat.le_of_ble_eq_true rfl) dX7_body22_11 ⟨Nat.zero_le _, Nat.zero_le _⟩) hW hS hA (fun H locs hW hS => ?_)
  refine lv_sipush (v := 1000) hx hb dX7_body22_14 (by decide) ?_
  refine lv_iadd hx hb dX7_body22_17 ?_
  exact w_iret hx hb hr hlk hW hS (by simp only [x_beg_ne (show 200 + j ≠ 14 by omega) (show 200 + j ≠ 15 by omega)]) rfl rfl rfl dX7_body22_18
set_option maxHeartbeats 4000000 in
set_option maxRecDepth 100000 in
theorem c_X7_markOf {X : (Nat → Prop) → State → Prop} (hxo : xok X) (l : Launch) (D : va_G) (q : Cq) {dm : List Nat} {kd ln ad : Nat → Nat} (V : Mv) (J : Mj) (R : Mr) (nP nD j : Nat) (hX : okX dm kd ln R nP nD) (hj : j < nD) (h0 : 0 ≤ (V 14 1).toInt) : CtI X l yX7_markOf wsX7_markOf ({ frames := 6, cells := 0, slots := 0, locals := 126 }) D q dm kd ln ad V J R [.ref (ad 0), .ref (ad (200 + j))] (x_m V j) (x_mV V j) (J) (R) := by
  refine CtI_of (cc := cX7_markOf) (maxL := 2) (ret := (some .int)) (by decide +kernel) rfl (Nat.le_of_ble_eq_true rfl) ?_
  intro p e s m below meth c A hx hb hr hml hts hown hlk hmn hK hW hA hXs ls hl
  have hS : va_S A s.heap s.heap [] := va_S.rf
  have hl : lv_has ls 2 [(0, .ref (ad 0)), (1, .ref (ad (200 + j)))] := hl
  refine lv_aload_n hx hb dX7_markOf_0 rfl (lv_at hl 1 rfl) ?_
  refine w_ci (w_runV ⟨hx, hb, hml, hown, hts⟩ (c_X0_toldKind hxo l D q V J R (200 + j) (hX.2.2.2.1 j hj).1 (hX.2.2.2.1 j hj).2.1) hxo (cwV 0 hts gX7_markOf_X0_toldKind rfl rfl rfl (by decide +kernel) ⟨Nat.le_of_ble_eq_true rfl, Nat.le_of_ble_eq_true rfl⟩) hK hW hS hA hXs (w_rcv hK hW (hX.2.2.2.1 j hj).1 (hX.2.2.2.1 j hj).2.1 (by decide) rfl) rfl hl.1 rfl (Nat.le_of_ble_eq_true rfl) dX7_markOf_1 ⟨Nat.zero_le _, Nat.zero_le _⟩) hW hS hA (fun H locs hW hS => ?_)
  by_cases c_4_1 : x_kind V (200 + j) = 1
  · refine w_i c_4_1 ?_
    refine lv_tableIn (tgt := 32) hx hb dX7_markOf_4 (by decide) (by decide) (off := 28) (by decide) (by decide) ?_
    refine lv_aload_n hx hb dX7_markOf_32 rfl (lv_at hl 0 rfl) ?_
    refine lv_aload_n hx hb dX7_markOf_33 rfl (lv_at hl 1 rfl) ?_
    refine w_ci (w_runV ⟨hx, hb, hml, hown, hts⟩ (c_X7_body21 hxo l D q V J R nP nD j hX hj h0) hxo (cwV 1 hts gX7_markOf_X7_body21 rfl rfl rfl (by decide +kernel) ⟨Nat.le_of_ble_eq_true rfl, Nat.le_of_ble_eq_true rfl⟩) hK hW hS hA hXs (w_rcv hK hW (hX.1 0 (by decide)).1 (hX.1 0 (by decide)).2.1 (by decide) rfl) rfl hl.1 rfl (Nat.le_of_ble_eq_true rfl) dX7_markOf_34 ⟨Nat.zero_le _, Nat.zero_le _⟩) hW hS hA (fun H locs hW hS => ?_)
    exact w_iret hx hb hr hlk hW hS (by first | rfl | (simp only [x_m, x_mV, if_pos c_4_1, c_4_1, ↓reduceIte]; done) | simp [bz, x_m, x_mV, if_pos c_4_1, c_4_1]) (by first | rfl | (simp only [x_m, x_mV, if_pos c_4_1, c_4_1, ↓reduceIte]; done) | simp [bz, x_m, x_mV, if_pos c_4_1, c_4_1]) rfl rfl dX7_markOf_37
  by_cases c_4_2 : x_kind V (200 + j) = 2
  · refine w_i c_4_2 ?_
    refine lv_tableIn (tgt := 32) hx hb dX7_markOf_4 (by decide) (by decide) (off := 28) (by decide) (by decide) ?_
    refine lv_aload_n hx hb dX7_markOf_32 rfl (lv_at hl 0 rfl) ?_
    refine lv_aload_n hx hb dX7_markOf_33 rfl (lv_at hl 1 rfl) ?_
    refine w_ci (w_runV ⟨hx, hb, hml, hown, hts⟩ (c_X7_body21 hxo l D q V J R nP nD j hX hj h0) hxo (cwV 1 hts gX7_markOf_X7_body21 rfl rfl rfl (by decide +kernel) ⟨Nat.le_of_ble_eq_true rfl, Nat.le_of_ble_eq_true rfl⟩) hK hW hS hA hXs (w_rcv hK hW (hX.1 0 (by decide)).1 (hX.1 0 (by decide)).2.1 (by decide) rfl) rfl hl.1 rfl (Nat.le_of_ble_eq_true rfl) dX7_markOf_34 ⟨Nat.zero_le _, Nat.zero_le _⟩) hW hS hA (fun H locs hW hS => ?_)
    exact w_iret hx hb hr hlk hW hS (by first | rfl | (simp only [x_m, x_mV, if_neg c_4_1, if_pos c_4_2, c_4_1, c_4_2, ↓reduceIte]; done) | simp [bz, x_m, x_mV, if_neg c_4_1, if_pos c_4_2, c_4_1, c_4_2]) (by first | rfl | (simp only [x_m, x_mV, if_neg c_4_1, if_pos c_4_2, c_4_1, c_4_2, ↓reduceIte]; done) | simp [bz, x_m, x_mV, if_neg c_4_1, if_pos c_4_2, c_4_1, c_4_2]) rfl rfl dX7_markOf_37
  by_cases c_4_3 : x_kind V (200 + j) = 3
  · refine w_i c_4_3 ?_
    refine lv_tableIn (tgt := 38) hx hb dX7_markOf_4 (by decide) (by decide) (off := 34) (by decide) (by decide) ?_
    refine lv_aload_n hx hb dX7_markOf_38 rfl (lv_at hl 0 rfl) ?_
    refine lv_aload_n hx hb dX7_markOf_39 rfl (lv_at hl 1 rfl) ?_
    refine w_ci (w_runV ⟨hx, hb, hml, hown, hts⟩ (c_X7_body22 hxo l D q V J R nP nD j hX hj h0) hxo (cwV 1 hts gX7_markOf_X7_body22 rfl rfl rfl (by decide +kernel) ⟨Nat.le_of_ble_eq_true rfl, Nat.le_of_ble_eq_true rfl⟩) hK hW hS hA hXs (w_rcv hK hW (hX.1 0 (by decide)).1 (hX.1 0 (by decide)).2.1 (by decide) rfl) rfl hl.1 rfl (Nat.le_of_ble_eq_true rfl) dX7_markOf_40 ⟨Nat.zero_le _, Nat.zero_le _⟩) hW hS hA (fun H locs hW hS => ?_)
    exact w_iret hx hb hr hlk hW hS (by first | rfl | (simp only [x_m, x_mV, if_neg c_4_1, if_neg c_4_2, if_pos c_4_3, c_4_1, c_4_2, c_4_3, ↓reduceIte]; done) | simp [bz, x_m, x_mV, if_neg c_4_1, if_neg c_4_2, if_pos c_4_3, c_4_1, c_4_2, c_4_3]) (by first | rfl | (simp only [x_m, x_mV, if_neg c_4_1, if_neg c_4_2, if_pos c_4_3, c_4_1, c_4_2, c_4_3, ↓reduceIte]; done) | simp [bz, x_m, x_mV, if_neg c_4_1, if_neg c_4_2, if_pos c_4_3, c_4_1, c_4_2, c_4_3]) rfl rfl dX7_markOf_43
  refine lv_tableOut (tgt := 44) hx hb dX7_markOf_4 (by have h0 := i32_neL c_4_1 (k := 1) (by decide); have h1 := i32_neL c_4_2 (k := 2) (by decide); have h2 := i32_neL c_4_3 (k := 3) (by decide); omega) (by decide) ?_
  refine lv_aload_n hx hb dX7_markOf_44 rfl (lv_at hl 0 rfl) ?_
  refine lv_aload_n hx hb dX7_markOf_45 rfl (lv_at hl 1 rfl) ?_
  refine w_ci (w_runV ⟨hx, hb, hml, hown, hts⟩ (c_X7_body20 hxo l D q V J R nP nD j hX hj h0) hxo (cwV 1 hts gX7_markOf_X7_body20 rfl rfl rfl (by decide +kernel) ⟨Nat.le_of_ble_eq_true rfl, Nat.le_of_ble_eq_true rfl⟩) hK hW hS hA hXs (w_rcv hK hW (hX.1 0 (by decide)).1 (hX.1 0 (by decide)).2.1 (by decide) rfl) rfl hl.1 rfl (Nat.le_of_ble_eq_true rfl) dX7_markOf_46 ⟨Nat.zero_le _, Nat.zero_le _⟩) hW hS hA (fun H locs hW hS => ?_)
  exact w_iret hx hb hr hlk hW hS (by first | rfl | (simp only [x_m, x_mV, if_neg c_4_1, if_neg c_4_2, if_neg c_4_3, c_4_1, c_4_2, c_4_3, ↓reduceIte]; done) | simp [bz, x_m, x_mV, if_neg c_4_1, if_neg c_4_2, if_neg c_4_3, c_4_1, c_4_2, c_4_3]) (by first | rfl | (simp only [x_m, x_mV, if_neg c_4_1, if_neg c_4_2, if_neg c_4_3, c_4_1, c_4_2, c_4_3, ↓reduceIte]; done) | simp [bz, x_m, x_mV, if_neg c_4_1, if_neg c_4_2, if_neg c_4_3, c_4_1, c_4_2, c_4_3]) rfl rfl dX7_markOf_49
set_option maxHeartbeats 4000000 in
set_option maxRecDepth 100000 in
theorem c_X7_ask {X : (Nat → Prop) → State → Prop} (hxo : xok X) (l : Launch) (D : va_G) (q : Cq) {dm : List Nat} {kd ln ad : Nat → Nat} (V : Mv) (J : Mj) (R : Mr) (nP nD : Nat) (x v : Int32) (hX : okX dm kd ln R nP nD) (hp : V 1 2 = nI nP) (hq : V 2 2 = nI nD)  : CtI X l yX7_ask wsX7_ask ({ frames := 7, cells := 0, slots := 0, locals := 147 }) D q dm kd ln ad V J R [.ref (ad 0), .int x, .int v] (x_ask V nD x v) (x_askV V nD x v) (J) (R) := by
  refine CtI_of (cc := cX7_ask) (maxL := 4) (ret := (some .int)) (by decide +kernel) rfl (Nat.le_of_ble_eq_true rfl) ?_
  intro p e s m below meth c A hx hb hr hml hts hown hlk hmn hK hW hA hXs ls hl
  have hS : va_S A s.heap s.heap [] := va_S.rf
  have hl : lv_has ls 4 [(0, .ref (ad 0)), (1, .int x), (2, .int v)] := hl
  have hin_TX7 : ∀ w ∈ u_ws RX7 TX7 8, w ∈ wsX7_ask := by decide +kernel
  have hin_TX6 : ∀ w ∈ u_ws RX6 TX6 2, w ∈ wsX7_ask := by decide +kernel
  refine lv_aload_n hx hb dX7_ask_0 rfl (lv_at hl 0 rfl) ?_
  refine lv_iload_n hx hb dX7_ask_1 rfl (lv_at hl 1 rfl) ?_
  refine w_cq (w_runV ⟨hx, hb, hml, hown, hts⟩ (c_X7_dialAt hxo l D q V J R nP nD x hX hq) hxo (cwV 1 hts gX7_ask_X7_dialAt rfl rfl rfl (by decide +kernel) ⟨Nat.le_of_ble_eq_true rfl, Nat.le_of_ble_eq_true rfl⟩) hK hW hS hA hXs (w_rcv hK hW (hX.1 0 (by decide)).1 (hX.1 0 (by decide)).2.1 (by decide) rfl) rfl hl.1 rfl (Nat.le_of_ble_eq_true rfl) dX7_ask_2 ⟨Nat.zero_le _, Nat.zero_le _⟩) hW hS hA (fun H locs hW hS => ?_)
  by_cases hix : inx nD x
  · refine w_some (by rw [x_at, if_pos hix]) ?_
    refine lv_astore_n (lv' := [(3, .ref (ad (200 + x.toNatClampNeg))), (0, .ref (ad 0)), (1, .int x), (2, .int v)]) hx hb dX7_ask_5 rfl hl (by decide) rfl (fun ls hl => ?_)
    refine lv_aload_n hx hb dX7_ask_6 rfl (lv_at hl 0 rfl) ?_
    refine lv_ifnull hx hb dX7_ask_7 ?_
    refine lv_iload_n hx hb dX7_ask_10 rfl (lv_at hl 3 rfl) ?_
    refine lv_iconst (v := 0) hx hb dX7_ask_11 (by decide) ?_
    refine lv_iconst (v := 1) hx hb dX7_ask_12 (by decide) ?_
    refine w_ci (w_runS ⟨hx, hb, hml, hown, hts⟩ (c_X7_within hxo l D q V J R v 0 1 ) hxo (va_cwS 3 hts gX7_ask_X7_within rfl rfl rfl (by decide +kernel) ⟨Nat.le_of_ble_eq_true rfl, Nat.le_of_ble_eq_true rfl⟩) hK hW hS hA hXs rfl hl.1 rfl (Nat.le_of_ble_eq_true rfl) dX7_ask_13 ⟨Nat.zero_le _, Nat.zero_le _⟩) hW hS hA (fun H locs hW hS => ?_)
    refine w_ifnz (tgt := 22) hx hb dX7_ask_16 (by decide) (fun c_16 => ?_) (fun c_16 => ?_)
    · refine lv_aload_n hx hb dX7_ask_22 rfl (lv_at hl 1 rfl) ?_
      refine w_getr (ci := 8) (T := TX7) hx hb hts hin_TX7 hown hK hW (hX.1 0 (by decide)).1 (hX.1 0 (by decide)).2.1 (by decide) rfl 6 (by decide) (hts (.fieldLink RX7 48 "TownClocks" "bodies" "LTownClocks$Trace;") (by decide +kernel)) (fun _ h9 => h9) rfl ((hX.1 0 (by decide)).2.2.2 6 14 rfl) dX7_ask_23 ?_
      refine lv_iconst (v := 0) hx hb dX7_ask_26 (by decide) ?_
      refine w_puti (ci := 7) (T := TX6) (ty := .int) hx hb hts hin_TX6 tyX6 tyX6_ok nmX6 hown hK hW hS (hX.1 14 (by decide)).1 (hX.1 14 (by decide)).2.1 (by decide) rfl 1 (by decide) (hts (.fieldLink RX7 232 "TownClocks$Trace" "length" "I") (by decide +kernel)) (fun _ h9 => h9) rfl (tyX6_ok 1 (by decide)) rfl rfl (Nat.le_of_ble_eq_true rfl) rfl dX7_ask_27 (fun H locs hW hS => ?_)
      refine lv_iload_n hx hb dX7_ask_30 rfl (lv_at hl 3 rfl) ?_
      refine lv_if_ne (tgt := 42) hx hb dX7_ask_31 (by decide) (fun c_31 => ?_) (fun c_31 => ?_)
      · refine lv_aload_n hx hb dX7_ask_42 rfl (lv_at hl 1 rfl) ?_
        refine lv_aload_n hx hb dX7_ask_43 rfl (lv_at hl 0 rfl) ?_
        refine w_ci (w_runV ⟨hx, hb, hml, hown, hts⟩ (c_X7_markOf hxo l D q (u2 V 14 1 0) J R nP nD x.toNatClampNeg hX (inx_c hix).1 (by rw [u2_ss]; decide)) hxo (cwV 1 hts gX7_ask_X7_markOf rfl rfl rfl (by decide +kernel) ⟨Nat.le_of_ble_eq_true rfl, Nat.le_of_ble_eq_true rfl⟩) hK hW hS hA hXs (w_rcv hK hW (hX.1 0 (by decide)).1 (hX.1 0 (by decide)).2.1 (by decide) rfl) rfl hl.1 rfl (Nat.le_of_ble_eq_true rfl) dX7_ask_44 ⟨Nat.zero_le _, Nat.zero_le _⟩) hW hS hA (fun H locs hW hS => ?_)
        exact w_iret hx hb hr hlk hW hS (by first | rfl | (simp only [x_ask, x_askV, if_pos hix, if_pos c_16, if_neg c_31, hix, c_16, c_31, ↓reduceIte]; done) | simp [bz, x_ask, x_askV, if_pos hix, if_pos c_16, if_neg c_31, hix, c_16, c_31]) (by first | rfl | (simp only [x_ask, x_askV, if_pos hix, if_pos c_16, if_neg c_31, hix, c_16, c_31, ↓reduceIte]; done) | simp [bz, x_ask, x_askV, if_pos hix, if_pos c_16, if_neg c_31, hix, c_16, c_31]) rfl rfl dX7_ask_47
      · refine lv_aload_n hx hb dX7_ask_34 rfl (lv_at hl 1 rfl) ?_
        refine lv_aload_n hx hb dX7_ask_35 rfl (lv_at hl 0 rfl) ?_
        refine w_ci (w_runV ⟨hx, hb, hml, hown, hts⟩ (c_X7_weightOf hxo l D q (u2 V 14 1 0) J R nP nD x.toNatClampNeg hX (inx_c hix).1 (by rw [u2_ss]; decide)) hxo (cwV 1 hts gX7_ask_X7_weightOf rfl rfl rfl (by decide +kernel) ⟨Nat.le_of_ble_eq_true rfl, Nat.le_of_ble_eq_true rfl⟩) hK hW hS hA hXs (w_rcv hK hW (hX.1 0 (by decide)).1 (hX.1 0 (by decide)).2.1 (by decide) rfl) rfl hl.1 rfl (Nat.le_of_ble_eq_true rfl) dX7_ask_36 ⟨Nat.zero_le _, Nat.zero_le _⟩) hW hS hA (fun H locs hW hS => ?_)
        refine lv_goto (tgt := 47) hx hb dX7_ask_39 (by decide) ?_
        exact w_iret hx hb hr hlk hW hS (by first | rfl | (simp only [x_ask, x_askV, if_pos hix, if_pos c_16, if_pos c_31, hix, c_16, c_31, ↓reduceIte]; done) | simp [bz, x_ask, x_askV, if_pos hix, if_pos c_16, if_pos c_31, hix, c_16, c_31]) (by first | rfl | (simp only [x_ask, x_askV, if_pos hix, if_pos c_16, if_pos c_31, hix, c_16, c_31, ↓reduceIte]; done) | simp [bz, x_ask, x_askV, if_pos hix, if_pos c_16, if_pos c_31, hix, c_16, c_31]) rfl rfl dX7_ask_47
    · refine lv_ldc (v := -1000001) hx hb hown (hts (.constant RX7 57 (-1000001)) (by decide +kernel)) dX7_ask_19 ?_
      exact w_iret hx hb hr hlk hW hS (by first | rfl | (simp only [x_ask, x_askV, if_pos hix, if_neg c_16, hix, c_16, ↓reduceIte]; done) | simp [bz, x_ask, x_askV, if_pos hix, if_neg c_16, hix, c_16]) (by first | rfl | (simp only [x_ask, x_askV, if_pos hix, if_neg c_16, hix, c_16, ↓reduceIte]; done) | simp [bz, x_ask, x_askV, if_pos hix, if_neg c_16, hix, c_16]) rfl rfl dX7_ask_21
  · refine w_none (by rw [x_at, if_neg hix]) ?_
    refine lv_astore_nN (lv' := [(3, .null), (0, .ref (ad 0)), (1, .int x), (2, .int v)]) hx hb dX7_ask_5 rfl hl (by decide) rfl (fun ls hl => ?_)
    refine lv_aload_nN hx hb dX7_ask_6 rfl (lv_at hl 0 rfl) ?_
    refine lv_ifnullN (tgt := 19) hx hb dX7_ask_7 (by decide) ?_
    refine lv_ldc (v := -1000001) hx hb hown (hts (.constant RX7 57 (-1000001)) (by decide +kernel)) dX7_ask_19 ?_
    exact w_iret hx hb hr hlk hW hS (by first | rfl | (simp only [x_ask, x_askV, if_neg hix, hix, ↓reduceIte]; done) | simp [bz, x_ask, x_askV, if_neg hix, hix]) (by first | rfl | (simp only [x_ask, x_askV, if_neg hix, hix, ↓reduceIte]; done) | simp [bz, x_ask, x_askV, if_neg hix, hix]) rfl rfl dX7_ask_21
