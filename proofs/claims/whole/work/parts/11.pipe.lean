def x_air0 (V : Mv) (k : Nat) (a : Int32) : Int32 := if 0 < 100 - V k 2 - a then 100 - V k 2 - a else 0
abbrev x_fed (V : Mv) (k : Nat) (a : Int32) : Prop := ¬ V k 4 &&& ((1 : Int32) <<< (a &&& 31)) = 0
def x_lk (V : Mv) (R : Mr) : Nat → Nat → Int32 → Int32
  | 0, _, a => a
  | n + 1, k, a => match R k 1 with
    | none => a + V k 5
    | some j => x_lk V R n j (a + V k 5)
def x_puff1 (V : Mv) (k : Nat) : Mv := u2 (u2 V k 5 (V k 5 + 1)) k 6 0
def x_puff0 (V : Mv) (k : Nat) : Mv := u2 (u2 (u2 V k 5 (V k 5 + 1)) k 3 (V k 3 + 1)) k 6 (V k 6 + 1)
def x_puff2 (V W : Mv) (k : Nat) : Mv := u2 W k 11 (V k 11 + V k 10)
def x_air (V : Mv) (R : Mr) (i : Nat) : Int32 := x_air0 V (100 + i) (x_lk V R (i + 1) (100 + i) 0)
def x_puff (V : Mv) (R : Mr) (j i : Nat) : Mv := if x_air V R i < V (200 + j) 1 then (if x_paid (x_puff0 V (200 + j)) (200 + j) 0 = 0 then x_puff0 V (200 + j) else x_puff2 V (x_puff0 V (200 + j)) (200 + j)) else (if x_paid (x_puff1 V (200 + j)) (200 + j) 1 = 0 then x_puff1 V (200 + j) else x_puff2 V (x_puff1 V (200 + j)) (200 + j))
set_option maxHeartbeats 4000000 in
set_option maxRecDepth 100000 in
theorem c_X3_airBehindLeaks {X : (Nat → Prop) → State → Prop} (hxo : xok X) (l : Launch) (D : va_G) (q : Cq) {dm : List Nat} {kd ln ad : Nat → Nat} (V : Mv) (J : Mj) (R : Mr) (k : Nat) (a : Int32) (hk : k ∈ dm) (hd : kd k = 4) : CtI X l yX3_airBehindLeaks wsX3_airBehindLeaks ({ frames := 1, cells := 0, slots := 0, locals := 23 }) D q dm kd ln ad V J R [.ref (ad k), .int a] (x_air0 V k a) (V) (J) (R) := by
  refine CtI_of (cc := cX3_airBehindLeaks) (maxL := 2) (ret := (some .int)) (by decide +kernel) rfl (Nat.le_of_ble_eq_true rfl) ?_
  intro p e s m below meth c A hx hb hr hml hts hown hlk hmn hK hW hA hXs ls hl
  have hS : va_S A s.heap s.heap [] := va_S.rf
  have hl : lv_has ls 2 [(0, .ref (ad k)), (1, .int a)] := hl
  have hin_TX3 : ∀ w ∈ u_ws RX3 TX3 6, w ∈ wsX3_airBehindLeaks := by decide +kernel
  refine lv_iconst (v := 0) hx hb dX3_airBehindLeaks_0 (by decide) ?_
  refine lv_bipush (v := 100) hx hb dX3_airBehindLeaks_1 (by decide) ?_
  refine lv_aload_n hx hb dX3_airBehindLeaks_3 rfl (lv_at hl 0 rfl) ?_
  refine w_get (ci := 4) (T := TX3) hx hb hts hin_TX3 hown hK hW hk hd (by decide) rfl 2 (by decide) (hts (.fieldLink RX3 19 "TownClocks$Pipe" "lossInAll" "I") (by decide +kernel)) (fun _ h9 => h9) rfl dX3_airBehindLeaks_4 ?_
  refine lv_isub hx hb dX3_airBehindLeaks_7 ?_
  refine lv_iload_n hx hb dX3_airBehindLeaks_8 rfl (lv_at hl 1 rfl) ?_
  refine lv_isub hx hb dX3_airBehindLeaks_9 ?_
  refine va_mmax hx hb (by rw [hml]; exact hl.1.symm) hown (hts (.methodLink RX3 35 Lib.Math.max.name) (by decide +kernel)) (hts (.static Lib.Math.max.name) (by decide +kernel)) (hts (.initialized "java/lang/Math") (by decide +kernel)) (hts (.code Lib.Math.max.name Lib.Math.max.code 2 (some .int)) (by decide +kernel)) (Nat.le_of_ble_eq_true rfl) (Nat.le_of_ble_eq_true rfl) (Nat.zero_le _) (Nat.zero_le _) dX3_airBehindLeaks_10 ?_
  exact w_iret hx hb hr hlk hW hS rfl rfl rfl rfl dX3_airBehindLeaks_13
set_option maxHeartbeats 4000000 in
set_option maxRecDepth 100000 in
theorem c_X3_isFedThrough {X : (Nat → Prop) → State → Prop} (hxo : xok X) (l : Launch) (D : va_G) (q : Cq) {dm : List Nat} {kd ln ad : Nat → Nat} (V : Mv) (J : Mj) (R : Mr) (k : Nat) (a : Int32) (hk : k ∈ dm) (hd : kd k = 4) : CtI X l yX3_isFedThrough wsX3_isFedThrough ({ frames := 0, cells := 0, slots := 0, locals := 0 }) D q dm kd ln ad V J R [.ref (ad k), .int a] (bz (x_fed V k a)) (V) (J) (R) := by
  refine CtI_of (cc := cX3_isFedThrough) (maxL := 2) (ret := (some .boolean)) (by decide +kernel) rfl (Nat.le_of_ble_eq_true rfl) ?_
  intro p e s m below meth c A hx hb hr hml hts hown hlk hmn hK hW hA hXs ls hl
  have hS : va_S A s.heap s.heap [] := va_S.rf
  have hl : lv_has ls 2 [(0, .ref (ad k)), (1, .int a)] := hl
  have hin_TX3 : ∀ w ∈ u_ws RX3 TX3 6, w ∈ wsX3_isFedThrough := by decide +kernel
  refine lv_aload_n hx hb dX3_isFedThrough_0 rfl (lv_at hl 0 rfl) ?_
  refine w_get (ci := 4) (T := TX3) hx hb hts hin_TX3 hown hK hW hk hd (by decide) rfl 4 (by decide) (hts (.fieldLink RX3 25 "TownClocks$Pipe" "wayBits" "I") (by decide +kernel)) (fun _ h9 => h9) rfl dX3_isFedThrough_1 ?_
  refine lv_iconst (v := 1) hx hb dX3_isFedThrough_4 (by decide) ?_
  refine lv_iload_n hx hb dX3_isFedThrough_5 rfl (lv_at hl 1 rfl) ?_
  refine lv_ishl hx hb dX3_isFedThrough_6 ?_
  refine lv_iand hx hb dX3_isFedThrough_7 ?_
  refine lv_if_eq (tgt := 15) hx hb dX3_isFedThrough_8 (by decide) (fun c_8 => ?_) (fun c_8 => ?_)
  · refine lv_iconst (v := 0) hx hb dX3_isFedThrough_15 (by decide) ?_
    exact w_zret hx hb hr hlk hW hS (Or.inl rfl) (Eq.symm (bz_f (fun h => h c_8))) rfl rfl rfl dX3_isFedThrough_16
  · refine lv_iconst (v := 1) hx hb dX3_isFedThrough_11 (by decide) ?_
    refine lv_goto (tgt := 16) hx hb dX3_isFedThrough_12 (by decide) ?_
    exact w_zret hx hb hr hlk hW hS (Or.inr rfl) (Eq.symm (bz_t c_8)) rfl rfl rfl dX3_isFedThrough_16
set_option maxHeartbeats 4000000 in
set_option maxRecDepth 100000 in
theorem c_X3_air {X : (Nat → Prop) → State → Prop} (hxo : xok X) (l : Launch) (D : va_G) (q : Cq) {dm : List Nat} {kd ln ad : Nat → Nat} (V : Mv) (J : Mj) (R : Mr) (nP nD i : Nat) (hX : okX dm kd ln R nP nD) (hi : i < nP) : CtI X l yX3_air wsX3_air ({ frames := 2, cells := 0, slots := 0, locals := 44 }) D q dm kd ln ad V J R [.ref (ad (100 + i))] (x_air V R i) (V) (J) (R) := by
  refine CtI_of (cc := cX3_air) (maxL := 3) (ret := (some .int)) (by decide +kernel) rfl (Nat.le_of_ble_eq_true rfl) ?_
  intro p e s m below meth c A hx hb hr hml hts hown hlk hmn hK hW hA hXs ls hl
  have hS : va_S A s.heap s.heap [] := va_S.rf
  have hl : lv_has ls 3 [(0, .ref (ad (100 + i)))] := hl
  have hin_TX3 : ∀ w ∈ u_ws RX3 TX3 6, w ∈ wsX3_air := by decide +kernel
  obtain ⟨L, hLe⟩ : ∃ L, L = x_lk V R (i + 1) (100 + i) 0 := ⟨_, rfl⟩
  have J4 : ∀ f : Nat, ∀ (i2 : Nat) (a : Int32) (hi2 : i2 < f) (hn2 : i2 < nP) (hL : x_lk V R f (100 + i2) a = L) (H : Heap) (locs : List Loc) (ls : Array Slot), wok A D q dm kd ln ad V J R H → va_S A s.heap H locs → lv_has ls 3 [(0, .ref (ad (100 + i))), (1, .int a), (2, .ref (ad (100 + i2)))] → W p l e ({ frames := 2, cells := 0, slots := 0, locals := 44 }) s m ([.ref (ad (100 + i))] : List Value).toArray below meth c H locs 0 0 (MQ below (QI (x_air V R i) D q dm kd ln ad (V) (J) (R) A) ([.ref (ad (100 + i))] : List Value).toArray s 0 0 A) (F0 m 4 ls []) := by
    intro f
    induction f with
    | zero =>
      intro i2 a hi2 hn2 hL H locs ls hW hS hl
      exact absurd hi2 (by omega)
    | succ f ih =>
      intro i2 a hi2 hn2 hL H locs ls hW hS hl
      refine lv_aload_n hx hb dX3_air_4 rfl (lv_at hl 2 rfl) ?_
      refine lv_ifnull hx hb dX3_air_5 ?_
      refine lv_iload_n hx hb dX3_air_8 rfl (lv_at hl 1 rfl) ?_
      refine lv_aload_n hx hb dX3_air_9 rfl (lv_at hl 2 rfl) ?_
      refine w_get (ci := 4) (T := TX3) hx hb hts hin_TX3 hown hK hW (hX.2.2.1 i2 hn2).1 (hX.2.2.1 i2 hn2).2.1 (by decide) rfl 5 (by decide) (hts (.fieldLink RX3 28 "TownClocks$Pipe" "leak" "I") (by decide +kernel)) (fun _ h9 => h9) rfl dX3_air_10 ?_
      refine lv_iadd hx hb dX3_air_13 ?_
      refine lv_istore_n (lv' := [(1, .int (a + (V (100 + i2) 5))), (0, .ref (ad (100 + i))), (2, .ref (ad (100 + i2)))]) hx hb dX3_air_14 rfl hl (by decide) rfl (fun ls hl => ?_)
      refine lv_aload_n hx hb dX3_air_15 rfl (lv_at hl 2 rfl) ?_
      refine w_get (ci := 4) (T := TX3) hx hb hts hin_TX3 hown hK hW (hX.2.2.1 i2 hn2).1 (hX.2.2.1 i2 hn2).2.1 (by decide) rfl 1 (by decide) (hts (.fieldLink RX3 15 "TownClocks$Pipe" "ahead" "LTownClocks$Pipe;") (by decide +kernel)) (fun _ h9 => h9) rfl dX3_air_16 ?_
      rcases (hX.2.2.1 i2 hn2).2.2.2 with hnn | ⟨j, hj, hjj⟩
      · refine w_none hnn ?_
        have hL2 : a + V (100 + i2) 5 = L := by rw [x_lk, hnn] at hL; exact hL
        refine lv_astore_nN (lv' := [(2, .null), (1, .int (a + (V (100 + i2) 5))), (0, .ref (ad (100 + i)))]) hx hb dX3_air_19 rfl hl (by decide) rfl (fun ls hl => ?_)
        refine lv_goto (tgt := 4) hx hb dX3_air_20 (by decide) ?_
        refine lv_aload_nN hx hb dX3_air_4 rfl (lv_at hl 0 rfl) ?_
        refine lv_ifnullN (tgt := 23) hx hb dX3_air_5 (by decide) ?_
        refine lv_aload_n hx hb dX3_air_23 rfl (lv_at hl 2 rfl) ?_
        refine lv_iload_n hx hb dX3_air_24 rfl (lv_at hl 1 rfl) ?_
        refine w_ci (w_runV ⟨hx, hb, hml, hown, hts⟩ (c_X3_airBehindLeaks hxo l D q V J R (100 + i) (a + (V (100 + i2) 5)) (hX.2.2.1 i hi).1 (hX.2.2.1 i hi).2.1) hxo (cwV 1 hts gX3_air_X3_airBehindLeaks rfl rfl rfl (by decide +kernel) ⟨Nat.le_of_ble_eq_true rfl, Nat.le_of_ble_eq_true rfl⟩) hK hW hS hA hXs (w_rcv hK hW (hX.2.2.1 i hi).1 (hX.2.2.1 i hi).2.1 (by decide) rfl) rfl hl.1 rfl (Nat.le_of_ble_eq_true rfl) dX3_air_25 ⟨Nat.zero_le _, Nat.zero_le _⟩) hW hS hA (fun H locs hW hS => ?_)
        exact w_iret hx hb hr hlk hW hS (by rw [x_air, hL2, hLe]) rfl rfl rfl dX3_air_28
      · refine w_some hjj ?_
        have hL2 : x_lk V R f (100 + j) (a + V (100 + i2) 5) = L := by rw [x_lk, hjj] at hL; exact hL
        refine lv_astore_n (lv' := [(2, .ref (ad (100 + j))), (1, .int (a + (V (100 + i2) 5))), (0, .ref (ad (100 + i)))]) hx hb dX3_air_19 rfl hl (by decide) rfl (fun ls hl => ?_)
        refine lv_goto (tgt := 4) hx hb dX3_air_20 (by decide) ?_
        exact ih j (a + V (100 + i2) 5) (by omega) (by omega) hL2 _ _ _ hW hS (lv_sub hl [2, 1, 0] rfl)
  refine lv_iconst (v := 0) hx hb dX3_air_0 (by decide) ?_
  refine lv_istore_n (lv' := [(1, .int 0), (0, .ref (ad (100 + i)))]) hx hb dX3_air_1 rfl hl (by decide) rfl (fun ls hl => ?_)
  refine lv_aload_n hx hb dX3_air_2 rfl (lv_at hl 1 rfl) ?_
  refine lv_astore_n (lv' := [(2, .ref (ad (100 + i))), (1, .int 0), (0, .ref (ad (100 + i)))]) hx hb dX3_air_3 rfl hl (by decide) rfl (fun ls hl => ?_)
  exact J4 (i + 1) i 0 (by omega) hi hLe.symm _ _ _ hW hS (lv_sub hl [2, 1, 0] rfl)
set_option maxHeartbeats 4000000 in
set_option maxRecDepth 100000 in
theorem c_X0_takePuff {X : (Nat → Prop) → State → Prop} (hxo : xok X) (l : Launch) (D : va_G) (q : Cq) {dm : List Nat} {kd ln ad : Nat → Nat} (V : Mv) (J : Mj) (R : Mr) (nP nD j i : Nat) (hX : okX dm kd ln R nP nD) (hj : j < nD) (hi : i < nP) (hR : R (200 + j) 0 = some (100 + i)) : CtI X l yX0_takePuff wsX0_takePuff ({ frames := 3, cells := 0, slots := 0, locals := 66 }) D q dm kd ln ad V J R [.ref (ad (200 + j))] (bz (¬ x_air V R i < V (200 + j) 1)) (x_puff V R j i) (J) (R) := by
  refine CtI_of (cc := cX0_takePuff) (maxL := 2) (ret := (some .boolean)) (by decide +kernel) rfl (Nat.le_of_ble_eq_true rfl) ?_
  intro p e s m below meth c A hx hb hr hml hts hown hlk hmn hK hW hA hXs ls hl
  have hS : va_S A s.heap s.heap [] := va_S.rf
  have hl : lv_has ls 2 [(0, .ref (ad (200 + j)))] := hl
  have hin_TX0 : ∀ w ∈ u_ws RX0 TX0 12, w ∈ wsX0_takePuff := by decide +kernel
  refine lv_aload_n hx hb dX0_takePuff_0 rfl (lv_at hl 0 rfl) ?_
  refine w_getr (ci := 1) (T := TX0) hx hb hts hin_TX0 hown hK hW (hX.2.2.2.1 j hj).1 (hX.2.2.2.1 j hj).2.1 (by decide) rfl 0 (by decide) (hts (.fieldLink RX0 9 "TownClocks$Dial" "pipe" "LTownClocks$Pipe;") (by decide +kernel)) (fun _ h9 => h9) rfl hR dX0_takePuff_1 ?_
  refine w_ci (w_runV ⟨hx, hb, hml, hown, hts⟩ (c_X3_air hxo l D q V J R nP nD i hX hi) hxo (cwV 0 hts gX0_takePuff_X3_air rfl rfl rfl (by decide +kernel) ⟨Nat.le_of_ble_eq_true rfl, Nat.le_of_ble_eq_true rfl⟩) hK hW hS hA hXs (w_rcv hK hW (hX.2.2.1 i hi).1 (hX.2.2.1 i hi).2.1 (by decide) rfl) rfl hl.1 rfl (Nat.le_of_ble_eq_true rfl) dX0_takePuff_4 ⟨Nat.zero_le _, Nat.zero_le _⟩) hW hS hA (fun H locs hW hS => ?_)
  refine lv_aload_n hx hb dX0_takePuff_7 rfl (lv_at hl 0 rfl) ?_
  refine w_get (ci := 1) (T := TX0) hx hb hts hin_TX0 hown hK hW (hX.2.2.2.1 j hj).1 (hX.2.2.2.1 j hj).2.1 (by decide) rfl 1 (by decide) (hts (.fieldLink RX0 15 "TownClocks$Dial" "need" "I") (by decide +kernel)) (fun _ h9 => h9) rfl dX0_takePuff_8 ?_
  refine lv_icmp_lt (tgt := 18) hx hb dX0_takePuff_11 (by decide) (fun c_11 => ?_) (fun c_11 => ?_)
  · refine lv_iconst (v := 0) hx hb dX0_takePuff_18 (by decide) ?_
    refine lv_istore_n (lv' := [(1, .int 0), (0, .ref (ad (200 + j)))]) hx hb dX0_takePuff_19 rfl hl (by decide) rfl (fun ls hl => ?_)
    refine lv_aload_n hx hb dX0_takePuff_20 rfl (lv_at hl 1 rfl) ?_
    refine lv_dup hx hb dX0_takePuff_21 rfl ?_
    refine w_get (ci := 1) (T := TX0) hx hb hts hin_TX0 hown hK hW (hX.2.2.2.1 j hj).1 (hX.2.2.2.1 j hj).2.1 (by decide) rfl 5 (by decide) (hts (.fieldLink RX0 28 "TownClocks$Dial" "puffsSinceKnown" "I") (by decide +kernel)) (fun _ h9 => h9) rfl dX0_takePuff_22 ?_
    refine lv_iconst (v := 1) hx hb dX0_takePuff_25 (by decide) ?_
    refine lv_iadd hx hb dX0_takePuff_26 ?_
    refine w_puti (ci := 1) (T := TX0) (ty := .int) hx hb hts hin_TX0 tyX0 tyX0_ok nmX0 hown hK hW hS (hX.2.2.2.1 j hj).1 (hX.2.2.2.1 j hj).2.1 (by decide) rfl 5 (by decide) (hts (.fieldLink RX0 28 "TownClocks$Dial" "puffsSinceKnown" "I") (by decide +kernel)) (fun _ h9 => h9) rfl (tyX0_ok 5 (by decide)) rfl rfl (Nat.le_of_ble_eq_true rfl) rfl dX0_takePuff_27 (fun H locs hW hS => ?_)
    refine lv_iload_n hx hb dX0_takePuff_30 rfl (lv_at hl 0 rfl) ?_
    refine lv_if_eq (tgt := 42) hx hb dX0_takePuff_31 (by decide) (fun _ => ?_) (fun z9 => absurd z9 (by decide))
    refine lv_aload_n hx hb dX0_takePuff_42 rfl (lv_at hl 1 rfl) ?_
    refine lv_dup hx hb dX0_takePuff_43 rfl ?_
    refine w_get (ci := 1) (T := TX0) hx hb hts hin_TX0 hown hK hW (hX.2.2.2.1 j hj).1 (hX.2.2.2.1 j hj).2.1 (by decide) rfl 3 (by decide) (hts (.fieldLink RX0 34 "TownClocks$Dial" "late" "I") (by decide +kernel)) (fun _ h9 => h9) rfl dX0_takePuff_44 ?_
    refine w_i (by rw [u2_sn (by decide)]) ?_
    refine lv_iconst (v := 1) hx hb dX0_takePuff_47 (by decide) ?_
    refine lv_iadd hx hb dX0_takePuff_48 ?_
    refine w_puti (ci := 1) (T := TX0) (ty := .int) hx hb hts hin_TX0 tyX0 tyX0_ok nmX0 hown hK hW hS (hX.2.2.2.1 j hj).1 (hX.2.2.2.1 j hj).2.1 (by decide) rfl 3 (by decide) (hts (.fieldLink RX0 34 "TownClocks$Dial" "late" "I") (by decide +kernel)) (fun _ h9 => h9) rfl (tyX0_ok 3 (by decide)) rfl rfl (Nat.le_of_ble_eq_true rfl) rfl dX0_takePuff_49 (fun H locs hW hS => ?_)
    refine lv_aload_n hx hb dX0_takePuff_52 rfl (lv_at hl 1 rfl) ?_
    refine lv_dup hx hb dX0_takePuff_53 rfl ?_
    refine w_get (ci := 1) (T := TX0) hx hb hts hin_TX0 hown hK hW (hX.2.2.2.1 j hj).1 (hX.2.2.2.1 j hj).2.1 (by decide) rfl 6 (by decide) (hts (.fieldLink RX0 31 "TownClocks$Dial" "missedRunning" "I") (by decide +kernel)) (fun _ h9 => h9) rfl dX0_takePuff_54 ?_
    refine w_i (by rw [u2_sn (by decide), u2_sn (by decide)]) ?_
    refine lv_iconst (v := 1) hx hb dX0_takePuff_57 (by decide) ?_
    refine lv_iadd hx hb dX0_takePuff_58 ?_
    refine w_puti (ci := 1) (T := TX0) (ty := .int) hx hb hts hin_TX0 tyX0 tyX0_ok nmX0 hown hK hW hS (hX.2.2.2.1 j hj).1 (hX.2.2.2.1 j hj).2.1 (by decide) rfl 6 (by decide) (hts (.fieldLink RX0 31 "TownClocks$Dial" "missedRunning" "I") (by decide +kernel)) (fun _ h9 => h9) rfl (tyX0_ok 6 (by decide)) rfl rfl (Nat.le_of_ble_eq_true rfl) rfl dX0_takePuff_59 (fun H locs hW hS => ?_)
    refine lv_aload_n hx hb dX0_takePuff_62 rfl (lv_at hl 1 rfl) ?_
    refine lv_iload_n hx hb dX0_takePuff_63 rfl (lv_at hl 0 rfl) ?_
    refine w_ci (w_runV ⟨hx, hb, hml, hown, hts⟩ (c_X0_isPaidFor hxo l D q (u2 (u2 (u2 V (200 + j) 5 ((V (200 + j) 5) + 1)) (200 + j) 3 ((V (200 + j) 3) + 1)) (200 + j) 6 ((V (200 + j) 6) + 1)) J R (200 + j) 0 (hX.2.2.2.1 j hj).1 (hX.2.2.2.1 j hj).2.1 (Or.inl rfl)) hxo (cwV 1 hts gX0_takePuff_X0_isPaidFor rfl rfl rfl (by decide +kernel) ⟨Nat.le_of_ble_eq_true rfl, Nat.le_of_ble_eq_true rfl⟩) hK hW hS hA hXs (w_rcv hK hW (hX.2.2.2.1 j hj).1 (hX.2.2.2.1 j hj).2.1 (by decide) rfl) rfl hl.1 rfl (Nat.le_of_ble_eq_true rfl) dX0_takePuff_64 ⟨Nat.zero_le _, Nat.zero_le _⟩) hW hS hA (fun H locs hW hS => ?_)
    refine lv_if_eq (tgt := 83) hx hb dX0_takePuff_67 (by decide) (fun c_67 => ?_) (fun c_67 => ?_)
    · refine lv_iload_n hx hb dX0_takePuff_83 rfl (lv_at hl 0 rfl) ?_
      exact w_zret hx hb hr hlk hW hS (Or.inl rfl) (Eq.symm (bz_f (fun h => h c_11))) (by first | rfl | (simp only [x_puff, x_puff0, x_puff1, x_puff2, c_11, c_67, ↓reduceIte]; done) | simp [bz, x_puff, x_puff0, x_puff1, x_puff2, c_11, c_67]) rfl rfl dX0_takePuff_84
    · refine lv_aload_n hx hb dX0_takePuff_70 rfl (lv_at hl 1 rfl) ?_
      refine lv_dup hx hb dX0_takePuff_71 rfl ?_
      refine w_get (ci := 1) (T := TX0) hx hb hts hin_TX0 hown hK hW (hX.2.2.2.1 j hj).1 (hX.2.2.2.1 j hj).2.1 (by decide) rfl 11 (by decide) (hts (.fieldLink RX0 41 "TownClocks$Dial" "owed" "I") (by decide +kernel)) (fun _ h9 => h9) rfl dX0_takePuff_72 ?_
      refine w_i (by rw [u2_sn (by decide), u2_sn (by decide), u2_sn (by decide)]) ?_
      refine lv_aload_n hx hb dX0_takePuff_75 rfl (lv_at hl 1 rfl) ?_
      refine w_get (ci := 1) (T := TX0) hx hb hts hin_TX0 hown hK hW (hX.2.2.2.1 j hj).1 (hX.2.2.2.1 j hj).2.1 (by decide) rfl 10 (by decide) (hts (.fieldLink RX0 44 "TownClocks$Dial" "pays" "I") (by decide +kernel)) (fun _ h9 => h9) rfl dX0_takePuff_76 ?_
      refine w_i (by rw [u2_sn (by decide), u2_sn (by decide), u2_sn (by decide)]) ?_
      refine lv_iadd hx hb dX0_takePuff_79 ?_
      refine w_puti (ci := 1) (T := TX0) (ty := .int) hx hb hts hin_TX0 tyX0 tyX0_ok nmX0 hown hK hW hS (hX.2.2.2.1 j hj).1 (hX.2.2.2.1 j hj).2.1 (by decide) rfl 11 (by decide) (hts (.fieldLink RX0 41 "TownClocks$Dial" "owed" "I") (by decide +kernel)) (fun _ h9 => h9) rfl (tyX0_ok 11 (by decide)) rfl rfl (Nat.le_of_ble_eq_true rfl) rfl dX0_takePuff_80 (fun H locs hW hS => ?_)
      refine lv_iload_n hx hb dX0_takePuff_83 rfl (lv_at hl 0 rfl) ?_
      exact w_zret hx hb hr hlk hW hS (Or.inl rfl) (Eq.symm (bz_f (fun h => h c_11))) (by first | rfl | (simp only [x_puff, x_puff0, x_puff1, x_puff2, c_11, c_67, ↓reduceIte]; done) | simp [bz, x_puff, x_puff0, x_puff1, x_puff2, c_11, c_67]) rfl rfl dX0_takePuff_84
  · refine lv_iconst (v := 1) hx hb dX0_takePuff_14 (by decide) ?_
    refine lv_goto (tgt := 19) hx hb dX0_takePuff_15 (by decide) ?_
    refine lv_istore_n (lv' := [(1, .int 1), (0, .ref (ad (200 + j)))]) hx hb dX0_takePuff_19 rfl hl (by decide) rfl (fun ls hl => ?_)
    refine lv_aload_n hx hb dX0_takePuff_20 rfl (lv_at hl 1 rfl) ?_
    refine lv_dup hx hb dX0_takePuff_21 rfl ?_
    refine w_get (ci := 1) (T := TX0) hx hb hts hin_TX0 hown hK hW (hX.2.2.2.1 j hj).1 (hX.2.2.2.1 j hj).2.1 (by decide) rfl 5 (by decide) (hts (.fieldLink RX0 28 "TownClocks$Dial" "puffsSinceKnown" "I") (by decide +kernel)) (fun _ h9 => h9) rfl dX0_takePuff_22 ?_
    refine lv_iconst (v := 1) hx hb dX0_takePuff_25 (by decide) ?_
    refine lv_iadd hx hb dX0_takePuff_26 ?_
    refine w_puti (ci := 1) (T := TX0) (ty := .int) hx hb hts hin_TX0 tyX0 tyX0_ok nmX0 hown hK hW hS (hX.2.2.2.1 j hj).1 (hX.2.2.2.1 j hj).2.1 (by decide) rfl 5 (by decide) (hts (.fieldLink RX0 28 "TownClocks$Dial" "puffsSinceKnown" "I") (by decide +kernel)) (fun _ h9 => h9) rfl (tyX0_ok 5 (by decide)) rfl rfl (Nat.le_of_ble_eq_true rfl) rfl dX0_takePuff_27 (fun H locs hW hS => ?_)
    refine lv_iload_n hx hb dX0_takePuff_30 rfl (lv_at hl 0 rfl) ?_
    refine lv_if_eq (tgt := 42) hx hb dX0_takePuff_31 (by decide) (fun z9 => absurd z9 (by decide)) (fun _ => ?_)
    refine lv_aload_n hx hb dX0_takePuff_34 rfl (lv_at hl 1 rfl) ?_
    refine lv_iconst (v := 0) hx hb dX0_takePuff_35 (by decide) ?_
    refine w_puti (ci := 1) (T := TX0) (ty := .int) hx hb hts hin_TX0 tyX0 tyX0_ok nmX0 hown hK hW hS (hX.2.2.2.1 j hj).1 (hX.2.2.2.1 j hj).2.1 (by decide) rfl 6 (by decide) (hts (.fieldLink RX0 31 "TownClocks$Dial" "missedRunning" "I") (by decide +kernel)) (fun _ h9 => h9) rfl (tyX0_ok 6 (by decide)) rfl rfl (Nat.le_of_ble_eq_true rfl) rfl dX0_takePuff_36 (fun H locs hW hS => ?_)
    refine lv_goto (tgt := 62) hx hb dX0_takePuff_39 (by decide) ?_
    refine lv_aload_n hx hb dX0_takePuff_62 rfl (lv_at hl 1 rfl) ?_
    refine lv_iload_n hx hb dX0_takePuff_63 rfl (lv_at hl 0 rfl) ?_
    refine w_ci (w_runV ⟨hx, hb, hml, hown, hts⟩ (c_X0_isPaidFor hxo l D q (u2 (u2 V (200 + j) 5 ((V (200 + j) 5) + 1)) (200 + j) 6 0) J R (200 + j) 1 (hX.2.2.2.1 j hj).1 (hX.2.2.2.1 j hj).2.1 (Or.inr rfl)) hxo (cwV 1 hts gX0_takePuff_X0_isPaidFor rfl rfl rfl (by decide +kernel) ⟨Nat.le_of_ble_eq_true rfl, Nat.le_of_ble_eq_true rfl⟩) hK hW hS hA hXs (w_rcv hK hW (hX.2.2.2.1 j hj).1 (hX.2.2.2.1 j hj).2.1 (by decide) rfl) rfl hl.1 rfl (Nat.le_of_ble_eq_true rfl) dX0_takePuff_64 ⟨Nat.zero_le _, Nat.zero_le _⟩) hW hS hA (fun H locs hW hS => ?_)
    refine lv_if_eq (tgt := 83) hx hb dX0_takePuff_67 (by decide) (fun c_67 => ?_) (fun c_67 => ?_)
    · refine lv_iload_n hx hb dX0_takePuff_83 rfl (lv_at hl 0 rfl) ?_
      exact w_zret hx hb hr hlk hW hS (Or.inr rfl) (Eq.symm (bz_t c_11)) (by first | rfl | (simp only [x_puff, x_puff0, x_puff1, x_puff2, c_11, c_67, ↓reduceIte]; done) | simp [bz, x_puff, x_puff0, x_puff1, x_puff2, c_11, c_67]) rfl rfl dX0_takePuff_84
    · refine lv_aload_n hx hb dX0_takePuff_70 rfl (lv_at hl 1 rfl) ?_
      refine lv_dup hx hb dX0_takePuff_71 rfl ?_
      refine w_get (ci := 1) (T := TX0) hx hb hts hin_TX0 hown hK hW (hX.2.2.2.1 j hj).1 (hX.2.2.2.1 j hj).2.1 (by decide) rfl 11 (by decide) (hts (.fieldLink RX0 41 "TownClocks$Dial" "owed" "I") (by decide +kernel)) (fun _ h9 => h9) rfl dX0_takePuff_72 ?_
      refine w_i (by rw [u2_sn (by decide), u2_sn (by decide)]) ?_
      refine lv_aload_n hx hb dX0_takePuff_75 rfl (lv_at hl 1 rfl) ?_
      refine w_get (ci := 1) (T := TX0) hx hb hts hin_TX0 hown hK hW (hX.2.2.2.1 j hj).1 (hX.2.2.2.1 j hj).2.1 (by decide) rfl 10 (by decide) (hts (.fieldLink RX0 44 "TownClocks$Dial" "pays" "I") (by decide +kernel)) (fun _ h9 => h9) rfl dX0_takePuff_76 ?_
      refine w_i (by rw [u2_sn (by decide), u2_sn (by decide)]) ?_
      refine lv_iadd hx hb dX0_takePuff_79 ?_
      refine w_puti (ci := 1) (T := TX0) (ty := .int) hx hb hts hin_TX0 tyX0 tyX0_ok nmX0 hown hK hW hS (hX.2.2.2.1 j hj).1 (hX.2.2.2.1 j hj).2.1 (by decide) rfl 11 (by decide) (hts (.fieldLink RX0 41 "TownClocks$Dial" "owed" "I") (by decide +kernel)) (fun _ h9 => h9) rfl (tyX0_ok 11 (by decide)) rfl rfl (Nat.le_of_ble_eq_true rfl) rfl dX0_takePuff_80 (fun H locs hW hS => ?_)
      refine lv_iload_n hx hb dX0_takePuff_83 rfl (lv_at hl 0 rfl) ?_
      exact w_zret hx hb hr hlk hW hS (Or.inr rfl) (Eq.symm (bz_t c_11)) (by first | rfl | (simp only [x_puff, x_puff0, x_puff1, x_puff2, c_11, c_67, ↓reduceIte]; done) | simp [bz, x_puff, x_puff0, x_puff1, x_puff2, c_11, c_67]) rfl rfl dX0_takePuff_84
