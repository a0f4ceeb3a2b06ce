set_option maxHeartbeats 4000000 in
set_option maxRecDepth 100000 in
theorem c_X2_init {X : (Nat → Prop) → State → Prop} (hxo : xok X) (l : Launch) (D : va_G) (q : Cq) {dm : List Nat} {kd ln ad : Nat → Nat} (V : Mv) (J : Mj) (R : Mr) (k : Nat) (hk : k ∈ dm) (hd : kd k = 3) : CtV X l yX2_init wsX2_init ({ frames := 1, cells := 0, slots := 0, locals := 12 }) D q dm kd ln ad V J R [.ref (ad k)] (V) (J) (R) := by
  refine CtV_of (cc := cX2_init) (maxL := 1) (ret := none) (by decide +kernel) rfl (Nat.le_of_ble_eq_true rfl) ?_
  intro p e s m below meth c A hx hb hr hml hts hown hlk hmn hK hW hA hXs ls hl
  have hS : va_S A s.heap s.heap [] := va_S.rf
  have hl : lv_has ls 1 [(0, .ref (ad k))] := hl
  refine lv_aload_n hx hb dX2_init_0 rfl (lv_at hl 0 rfl) ?_
  refine w_obj hx hb hown (hts (.methodLink RX2 1 objectInit) (by decide +kernel)) (hts (.instanceMethod objectInit) (by decide +kernel)) (hts (.code objectInit ⟨#[0xb1]⟩ 1 none) (by decide +kernel)) (by rw [hml]; exact hl.1) dX2_init_1 (Nat.le_of_ble_eq_true rfl) (Nat.le_of_ble_eq_true rfl) ?_
  exact w_vret hx hb hr hlk hW hS rfl rfl rfl dX2_init_4
set_option maxHeartbeats 4000000 in
set_option maxRecDepth 100000 in
theorem c_Jxa1e45_init_da8c8 {X : (Nat → Prop) → State → Prop} (hxo : xok X) (l : Launch) (D : va_G) (q : Cq) {dm : List Nat} {kd ln ad : Nat → Nat} (V : Mv) (J : Mj) (R : Mr) (k : Nat) (hk : k ∈ dm) (hd : kd k = 0) : CtV X l yJxa1e45_init_da8c8 wsJxa1e45_init_da8c8 ({ frames := 1, cells := 0, slots := 0, locals := 12 }) D q dm kd ln ad V J R [.ref (ad k)] (V) (J) (R) := by
  refine CtV_of (cc := cJxa1e45_init_da8c8) (maxL := 1) (ret := none) (by decide +kernel) rfl (Nat.le_of_ble_eq_true rfl) ?_
  intro p e s m below meth c A hx hb hr hml hts hown hlk hmn hK hW hA hXs ls hl
  have hS : va_S A s.heap s.heap [] := va_S.rf
  have hl : lv_has ls 1 [(0, .ref (ad k))] := hl
  refine lv_aload_n hx hb dJxa1e45_init_da8c8_0 rfl (lv_at hl 0 rfl) ?_
  refine w_obj hx hb hown (hts (.methodLink RJxa1e45 1 objectInit) (by decide +kernel)) (hts (.instanceMethod objectInit) (by decide +kernel)) (hts (.code objectInit ⟨#[0xb1]⟩ 1 none) (by decide +kernel)) (by rw [hml]; exact hl.1) dJxa1e45_init_da8c8_1 (Nat.le_of_ble_eq_true rfl) (Nat.le_of_ble_eq_true rfl) ?_
  exact w_vret hx hb hr hlk hW hS rfl rfl rfl dJxa1e45_init_da8c8_4
set_option maxHeartbeats 4000000 in
set_option maxRecDepth 100000 in
theorem c_Jxc12de_init_da8c8 {X : (Nat → Prop) → State → Prop} (hxo : xok X) (l : Launch) (D : va_G) (q : Cq) {dm : List Nat} {kd ln ad : Nat → Nat} (V : Mv) (J : Mj) (R : Mr) (k : Nat) (hk : k ∈ dm) (hd : kd k = 0) (hz0 : V k 0 = 0) : CtV X l yJxc12de_init_da8c8 wsJxc12de_init_da8c8 ({ frames := 2, cells := 0, slots := 0, locals := 32 }) D q dm kd ln ad V J R [.ref (ad k)] (V) (J) (R) := by
  refine CtV_of (cc := cJxc12de_init_da8c8) (maxL := 1) (ret := none) (by decide +kernel) rfl (Nat.le_of_ble_eq_true rfl) ?_
  intro p e s m below meth c A hx hb hr hml hts hown hlk hmn hK hW hA hXs ls hl
  have hS : va_S A s.heap s.heap [] := va_S.rf
  have hl : lv_has ls 1 [(0, .ref (ad k))] := hl
  have hin_TJx4a65c : ∀ w ∈ u_ws RJx4a65c TJx4a65c 3, w ∈ wsJxc12de_init_da8c8 := by decide +kernel
  refine lv_aload_n hx hb dJxc12de_init_da8c8_0 rfl (lv_at hl 0 rfl) ?_
  refine w_cv (w_runI ⟨hx, hb, hml, hown, hts⟩ (c_Jxa1e45_init_da8c8 hxo l D q V J R k hk hd) hxo (cwI 0 hts gJxc12de_init_da8c8_Jxa1e45_init_da8c8 rfl rfl rfl (hts (.initialized RJxa1e45) (by decide +kernel)) (hts (.methodLink RJxc12de 1 yJxa1e45_init_da8c8) (by decide +kernel)) (hts (.instanceMethod yJxa1e45_init_da8c8) (by decide +kernel)) rfl (by decide +kernel) ⟨Nat.le_of_ble_eq_true rfl, Nat.le_of_ble_eq_true rfl⟩) hK hW hS hA hXs rfl hl.1 rfl (Nat.le_of_ble_eq_true rfl) dJxc12de_init_da8c8_1 ⟨Nat.zero_le _, Nat.zero_le _⟩) hW hS hA (fun H locs hW hS => ?_)
  refine lv_aload_n hx hb dJxc12de_init_da8c8_4 rfl (lv_at hl 0 rfl) ?_
  refine lv_iconst (v := 0) hx hb dJxc12de_init_da8c8_5 (by decide) ?_
  refine w_puti (ci := 0) (T := TJx4a65c) (ty := .int) hx hb hts hin_TJx4a65c tyJx4a65c tyJx4a65c_ok nmJx4a65c hown hK hW hS hk hd (by decide) rfl 0 (by decide) (hts (.fieldLink RJxc12de 7 "java/util/AbstractList" "modCount" "I") (by decide +kernel)) (fun _ h9 => h9) rfl (tyJx4a65c_ok 0 (by decide)) rfl rfl (Nat.le_of_ble_eq_true rfl) rfl dJxc12de_init_da8c8_6 (fun H locs hW hS => ?_)
  exact w_vret hx hb hr hlk hW hS (u2_id hz0) rfl rfl dJxc12de_init_da8c8_9
set_option maxHeartbeats 4000000 in
set_option maxRecDepth 100000 in
theorem c_Jx4a65c_init_da8c8 {X : (Nat → Prop) → State → Prop} (hxo : xok X) (l : Launch) (D : va_G) (q : Cq) {dm : List Nat} {kd ln ad : Nat → Nat} (V : Mv) (J : Mj) (R : Mr) (k : Nat) (hk : k ∈ dm) (hd : kd k = 0) (hz0 : V k 0 = 0) (hst : ∀ (A : Nat → Prop) (U : State), X A U → strX ad A U) : CtV X l yJx4a65c_init_da8c8 wsJx4a65c_init_da8c8 ({ frames := 3, cells := 0, slots := 0, locals := 52 }) D q dm kd ln ad V J R [.ref (ad k)] (V) (J) (u2 R k 1 (some 18)) := by
  refine CtV_of (cc := cJx4a65c_init_da8c8) (maxL := 1) (ret := none) (by decide +kernel) rfl (Nat.le_of_ble_eq_true rfl) ?_
  intro p e s m below meth c A hx hb hr hml hts hown hlk hmn hK hW hA hXs ls hl
  have hS : va_S A s.heap s.heap [] := va_S.rf
  have hl : lv_has ls 1 [(0, .ref (ad k))] := hl
  have hin_TJx4a65c : ∀ w ∈ u_ws RJx4a65c TJx4a65c 3, w ∈ wsJx4a65c_init_da8c8 := by decide +kernel
  have hSt := hst A s hXs
  refine lv_aload_n hx hb dJx4a65c_init_da8c8_0 rfl (lv_at hl 0 rfl) ?_
  refine w_cv (w_runI ⟨hx, hb, hml, hown, hts⟩ (c_Jxc12de_init_da8c8 hxo l D q V J R k hk hd hz0) hxo (cwI 0 hts gJx4a65c_init_da8c8_Jxc12de_init_da8c8 rfl rfl rfl (hts (.initialized RJxc12de) (by decide +kernel)) (hts (.methodLink RJx4a65c 1 yJxc12de_init_da8c8) (by decide +kernel)) (hts (.instanceMethod yJxc12de_init_da8c8) (by decide +kernel)) rfl (by decide +kernel) ⟨Nat.le_of_ble_eq_true rfl, Nat.le_of_ble_eq_true rfl⟩) hK hW hS hA hXs rfl hl.1 rfl (Nat.le_of_ble_eq_true rfl) dJx4a65c_init_da8c8_1 ⟨Nat.zero_le _, Nat.zero_le _⟩) hW hS hA (fun H locs hW hS => ?_)
  refine lv_aload_n hx hb dJx4a65c_init_da8c8_4 rfl (lv_at hl 0 rfl) ?_
  refine va_gets hx hb hSt.2.2.2.1 hS hown (hts (.fieldLink RJx4a65c 39 "java/util/ArrayList" "DEFAULTCAPACITY_EMPTY_ELEMENTDATA" "[Ljava/lang/Object;") (by decide +kernel)) (fun _ h9 => h9) dJx4a65c_init_da8c8_5 ?_
  refine w_puto (ci := 0) (T := TJx4a65c) (ty := tyJx4a65c 1) hx hb hts hin_TJx4a65c tyJx4a65c tyJx4a65c_ok nmJx4a65c hown hK hW hS hk hd (by decide) rfl 1 (by decide) (hts (.fieldLink RJx4a65c 9 "java/util/ArrayList" "elementData" "[Ljava/lang/Object;") (by decide +kernel)) (fun _ h9 => h9) rfl (some 18) (tyJx4a65c_ok 1 (by decide)) rfl rfl (Nat.le_of_ble_eq_true rfl) rfl dJx4a65c_init_da8c8_8 (fun H locs hW hS => ?_)
  exact w_vret hx hb hr hlk hW hS rfl rfl rfl dJx4a65c_init_da8c8_11
set_option maxHeartbeats 4000000 in
set_option maxRecDepth 100000 in
theorem c_X0_init {X : (Nat → Prop) → State → Prop} (hxo : xok X) (l : Launch) (D : va_G) (q : Cq) {dm : List Nat} {kd ln ad : Nat → Nat} (V : Mv) (J : Mj) (R : Mr) (k i : Nat) (nn ss : Int32) (hk : k ∈ dm) (hd : kd k = 1) : CtV X l yX0_init wsX0_init ({ frames := 1, cells := 0, slots := 0, locals := 12 }) D q dm kd ln ad V J R [.ref (ad k), .ref (ad (100 + i)), .int nn, .int ss] (u2 (u2 V k 1 nn) k 2 ss) (J) (u2 R k 0 (some (100 + i))) := by
  refine CtV_of (cc := cX0_init) (maxL := 4) (ret := none) (by decide +kernel) rfl (Nat.le_of_ble_eq_true rfl) ?_
  intro p e s m below meth c A hx hb hr hml hts hown hlk hmn hK hW hA hXs ls hl
  have hS : va_S A s.heap s.heap [] := va_S.rf
  have hl : lv_has ls 4 [(0, .ref (ad k)), (1, .ref (ad (100 + i))), (2, .int nn), (3, .int ss)] := hl
  have hin_TX0 : ∀ w ∈ u_ws RX0 TX0 12, w ∈ wsX0_init := by decide +kernel
  refine lv_aload_n hx hb dX0_init_0 rfl (lv_at hl 0 rfl) ?_
  refine w_obj hx hb hown (hts (.methodLink RX0 3 objectInit) (by decide +kernel)) (hts (.instanceMethod objectInit) (by decide +kernel)) (hts (.code objectInit ⟨#[0xb1]⟩ 1 none) (by decide +kernel)) (by rw [hml]; exact hl.1) dX0_init_1 (Nat.le_of_ble_eq_true rfl) (Nat.le_of_ble_eq_true rfl) ?_
  refine lv_aload_n hx hb dX0_init_4 rfl (lv_at hl 0 rfl) ?_
  refine lv_aload_n hx hb dX0_init_5 rfl (lv_at hl 1 rfl) ?_
  refine w_putoF (ci := 1) (T := TX0) (ty := tyX0 0) hx hb hts hin_TX0 tyX0 tyX0_ok nmX0 hown hK hW hS hk hd (by decide) rfl 0 (by decide) (hts (.fieldLink RX0 9 "TownClocks$Dial" "pipe" "LTownClocks$Pipe;") (by decide +kernel)) (fun _ h9 => h9) rfl hmn rfl (some (100 + i)) (tyX0_ok 0 (by decide)) rfl rfl (Nat.le_of_ble_eq_true rfl) rfl dX0_init_6 (fun H locs hW hS => ?_)
  refine lv_aload_n hx hb dX0_init_9 rfl (lv_at hl 0 rfl) ?_
  refine lv_iload_n hx hb dX0_init_10 rfl (lv_at hl 2 rfl) ?_
  refine w_putiF (ci := 1) (T := TX0) (ty := .int) hx hb hts hin_TX0 tyX0 tyX0_ok nmX0 hown hK hW hS hk hd (by decide) rfl 1 (by decide) (hts (.fieldLink RX0 15 "TownClocks$Dial" "need" "I") (by decide +kernel)) (fun _ h9 => h9) rfl hmn rfl (tyX0_ok 1 (by decide)) rfl rfl (Nat.le_of_ble_eq_true rfl) rfl dX0_init_11 (fun H locs hW hS => ?_)
  refine lv_aload_n hx hb dX0_init_14 rfl (lv_at hl 0 rfl) ?_
  refine lv_iload_n hx hb dX0_init_15 rfl (lv_at hl 3 rfl) ?_
  refine w_putiF (ci := 1) (T := TX0) (ty := .int) hx hb hts hin_TX0 tyX0 tyX0_ok nmX0 hown hK hW hS hk hd (by decide) rfl 2 (by decide) (hts (.fieldLink RX0 19 "TownClocks$Dial" "sort" "I") (by decide +kernel)) (fun _ h9 => h9) rfl hmn rfl (tyX0_ok 2 (by decide)) rfl rfl (Nat.le_of_ble_eq_true rfl) rfl dX0_init_16 (fun H locs hW hS => ?_)
  exact w_vret hx hb hr hlk hW hS rfl rfl rfl dX0_init_19
set_option maxHeartbeats 4000000 in
set_option maxRecDepth 100000 in
theorem c_X3_initN {X : (Nat → Prop) → State → Prop} (hxo : xok X) (l : Launch) (D : va_G) (q : Cq) {dm : List Nat} {kd ln ad : Nat → Nat} (V : Mv) (J : Mj) (R : Mr) (k : Nat) (nn lo la : Int32) (hk : k ∈ dm) (hd : kd k = 4) : CtV X l yX3_init wsX3_init ({ frames := 1, cells := 0, slots := 0, locals := 12 }) D q dm kd ln ad V J R [.ref (ad k), .int nn, .null, .int lo, .int la] (u2 (u2 (u2 (u2 V k 0 nn) k 2 (lo + 0)) k 3 (la + 0)) k 4 (((1 : Int32) <<< (nn &&& 31)) ||| 0)) (J) (u2 R k 1 none) := by
  refine CtV_of (cc := cX3_init) (maxL := 5) (ret := none) (by decide +kernel) rfl (Nat.le_of_ble_eq_true rfl) ?_
  intro p e s m below meth c A hx hb hr hml hts hown hlk hmn hK hW hA hXs ls hl
  have hS : va_S A s.heap s.heap [] := va_S.rf
  have hl : lv_has ls 5 [(0, .ref (ad k)), (1, .int nn), (2, .null), (3, .int lo), (4, .int la)] := hl
  have hin_TX3 : ∀ w ∈ u_ws RX3 TX3 6, w ∈ wsX3_init := by decide +kernel
  refine lv_aload_n hx hb dX3_init_0 rfl (lv_at hl 0 rfl) ?_
  refine w_obj hx hb hown (hts (.methodLink RX3 3 objectInit) (by decide +kernel)) (hts (.instanceMethod objectInit) (by decide +kernel)) (hts (.code objectInit ⟨#[0xb1]⟩ 1 none) (by decide +kernel)) (by rw [hml]; exact hl.1) dX3_init_1 (Nat.le_of_ble_eq_true rfl) (Nat.le_of_ble_eq_true rfl) ?_
  refine lv_aload_n hx hb dX3_init_4 rfl (lv_at hl 0 rfl) ?_
  refine lv_iload_n hx hb dX3_init_5 rfl (lv_at hl 1 rfl) ?_
  refine w_putiF (ci := 4) (T := TX3) (ty := .int) hx hb hts hin_TX3 tyX3 tyX3_ok nmX3 hown hK hW hS hk hd (by decide) rfl 0 (by decide) (hts (.fieldLink RX3 9 "TownClocks$Pipe" "number" "I") (by decide +kernel)) (fun _ h9 => h9) rfl hmn rfl (tyX3_ok 0 (by decide)) rfl rfl (Nat.le_of_ble_eq_true rfl) rfl dX3_init_6 (fun H locs hW hS => ?_)
  refine lv_aload_n hx hb dX3_init_9 rfl (lv_at hl 0 rfl) ?_
  refine lv_aload_nN hx hb dX3_init_10 rfl (lv_at hl 2 rfl) ?_
  refine w_putoF (ci := 4) (T := TX3) (ty := tyX3 1) hx hb hts hin_TX3 tyX3 tyX3_ok nmX3 hown hK hW hS hk hd (by decide) rfl 1 (by decide) (hts (.fieldLink RX3 15 "TownClocks$Pipe" "ahead" "LTownClocks$Pipe;") (by decide +kernel)) (fun _ h9 => h9) rfl hmn rfl (none) (tyX3_ok 1 (by decide)) rfl rfl (Nat.le_of_ble_eq_true rfl) rfl dX3_init_11 (fun H locs hW hS => ?_)
  refine lv_aload_n hx hb dX3_init_14 rfl (lv_at hl 0 rfl) ?_
  refine lv_iload_n hx hb dX3_init_15 rfl (lv_at hl 3 rfl) ?_
  refine lv_aload_nN hx hb dX3_init_16 rfl (lv_at hl 2 rfl) ?_
  refine lv_ifnonnullN hx hb dX3_init_17 ?_
  refine lv_iconst (v := 0) hx hb dX3_init_20 (by decide) ?_
  refine lv_goto (tgt := 28) hx hb dX3_init_21 (by decide) ?_
  refine lv_iadd hx hb dX3_init_28 ?_
  refine w_putiF (ci := 4) (T := TX3) (ty := .int) hx hb hts hin_TX3 tyX3 tyX3_ok nmX3 hown hK hW hS hk hd (by decide) rfl 2 (by decide) (hts (.fieldLink RX3 19 "TownClocks$Pipe" "lossInAll" "I") (by decide +kernel)) (fun _ h9 => h9) rfl hmn rfl (tyX3_ok 2 (by decide)) rfl rfl (Nat.le_of_ble_eq_true rfl) rfl dX3_init_29 (fun H locs hW hS => ?_)
  refine lv_aload_n hx hb dX3_init_32 rfl (lv_at hl 0 rfl) ?_
  refine lv_iload hx hb dX3_init_33 (lv_at hl 4 rfl) ?_
  refine lv_aload_nN hx hb dX3_init_35 rfl (lv_at hl 2 rfl) ?_
  refine lv_ifnonnullN hx hb dX3_init_36 ?_
  refine lv_iconst (v := 0) hx hb dX3_init_39 (by decide) ?_
  refine lv_goto (tgt := 47) hx hb dX3_init_40 (by decide) ?_
  refine lv_iadd hx hb dX3_init_47 ?_
  refine w_putiF (ci := 4) (T := TX3) (ty := .int) hx hb hts hin_TX3 tyX3 tyX3_ok nmX3 hown hK hW hS hk hd (by decide) rfl 3 (by decide) (hts (.fieldLink RX3 22 "TownClocks$Pipe" "lagInAll" "I") (by decide +kernel)) (fun _ h9 => h9) rfl hmn rfl (tyX3_ok 3 (by decide)) rfl rfl (Nat.le_of_ble_eq_true rfl) rfl dX3_init_48 (fun H locs hW hS => ?_)
  refine lv_aload_n hx hb dX3_init_51 rfl (lv_at hl 0 rfl) ?_
  refine lv_iconst (v := 1) hx hb dX3_init_52 (by decide) ?_
  refine lv_iload_n hx hb dX3_init_53 rfl (lv_at hl 1 rfl) ?_
  refine lv_ishl hx hb dX3_init_54 ?_
  refine lv_aload_nN hx hb dX3_init_55 rfl (lv_at hl 2 rfl) ?_
  refine lv_ifnonnullN hx hb dX3_init_56 ?_
  refine lv_iconst (v := 0) hx hb dX3_init_59 (by decide) ?_
  refine lv_goto (tgt := 67) hx hb dX3_init_60 (by decide) ?_
  refine lv_ior hx hb dX3_init_67 ?_
  refine w_putiF (ci := 4) (T := TX3) (ty := .int) hx hb hts hin_TX3 tyX3 tyX3_ok nmX3 hown hK hW hS hk hd (by decide) rfl 4 (by decide) (hts (.fieldLink RX3 25 "TownClocks$Pipe" "wayBits" "I") (by decide +kernel)) (fun _ h9 => h9) rfl hmn rfl (tyX3_ok 4 (by decide)) rfl rfl (Nat.le_of_ble_eq_true rfl) rfl dX3_init_68 (fun H locs hW hS => ?_)
  exact w_vret hx hb hr hlk hW hS rfl rfl rfl dX3_init_71
set_option maxHeartbeats 4000000 in
set_option maxRecDepth 100000 in
theorem c_X3_init {X : (Nat → Prop) → State → Prop} (hxo : xok X) (l : Launch) (D : va_G) (q : Cq) {dm : List Nat} {kd ln ad : Nat → Nat} (V : Mv) (J : Mj) (R : Mr) (k a : Nat) (nn lo la : Int32) (hk : k ∈ dm) (hd : kd k = 4) (hka : a ∈ dm) (hda : kd a = 4) (hak : a ≠ k) : CtV X l yX3_init wsX3_init ({ frames := 1, cells := 0, slots := 0, locals := 12 }) D q dm kd ln ad V J R [.ref (ad k), .int nn, .ref (ad a), .int lo, .int la] (u2 (u2 (u2 (u2 V k 0 nn) k 2 (lo + V a 2)) k 3 (la + V a 3)) k 4 (((1 : Int32) <<< (nn &&& 31)) ||| V a 4)) (J) (u2 R k 1 (some a)) := by
  refine CtV_of (cc := cX3_init) (maxL := 5) (ret := none) (by decide +kernel) rfl (Nat.le_of_ble_eq_true rfl) ?_
  intro p e s m below meth c A hx hb hr hml hts hown hlk hmn hK hW hA hXs ls hl
  have hS : va_S A s.heap s.heap [] := va_S.rf
  have hl : lv_has ls 5 [(0, .ref (ad k)), (1, .int nn), (2, .ref (ad a)), (3, .int lo), (4, .int la)] := hl
  have hin_TX3 : ∀ w ∈ u_ws RX3 TX3 6, w ∈ wsX3_init := by decide +kernel
  refine lv_aload_n hx hb dX3_init_0 rfl (lv_at hl 0 rfl) ?_
  refine w_obj hx hb hown (hts (.methodLink RX3 3 objectInit) (by decide +kernel)) (hts (.instanceMethod objectInit) (by decide +kernel)) (hts (.code objectInit ⟨#[0xb1]⟩ 1 none) (by decide +kernel)) (by rw [hml]; exact hl.1) dX3_init_1 (Nat.le_of_ble_eq_true rfl) (Nat.le_of_ble_eq_true rfl) ?_
  refine lv_aload_n hx hb dX3_init_4 rfl (lv_at hl 0 rfl) ?_
  refine lv_iload_n hx hb dX3_init_5 rfl (lv_at hl 1 rfl) ?_
  refine w_putiF (ci := 4) (T := TX3) (ty := .int) hx hb hts hin_TX3 tyX3 tyX3_ok nmX3 hown hK hW hS hk hd (by decide) rfl 0 (by decide) (hts (.fieldLink RX3 9 "TownClocks$Pipe" "number" "I") (by decide +kernel)) (fun _ h9 => h9) rfl hmn rfl (tyX3_ok 0 (by decide)) rfl rfl (Nat.le_of_ble_eq_true rfl) rfl dX3_init_6 (fun H locs hW hS => ?_)
  refine lv_aload_n hx hb dX3_init_9 rfl (lv_at hl 0 rfl) ?_
  refine lv_aload_n hx hb dX3_init_10 rfl (lv_at hl 2 rfl) ?_
  refine w_putoF (ci := 4) (T := TX3) (ty := tyX3 1) hx hb hts hin_TX3 tyX3 tyX3_ok nmX3 hown hK hW hS hk hd (by decide) rfl 1 (by decide) (hts (.fieldLink RX3 15 "TownClocks$Pipe" "ahead" "LTownClocks$Pipe;") (by decide +kernel)) (fun _ h9 => h9) rfl hmn rfl (some a) (tyX3_ok 1 (by decide)) rfl rfl (Nat.le_of_ble_eq_true rfl) rfl dX3_init_11 (fun H locs hW hS => ?_)
  refine lv_aload_n hx hb dX3_init_14 rfl (lv_at hl 0 rfl) ?_
  refine lv_iload_n hx hb dX3_init_15 rfl (lv_at hl 3 rfl) ?_
  refine lv_aload_n hx hb dX3_init_16 rfl (lv_at hl 2 rfl) ?_
  refine lv_ifnonnull (tgt := 24) hx hb dX3_init_17 (by decide) ?_
  refine lv_aload_n hx hb dX3_init_24 rfl (lv_at hl 2 rfl) ?_
  refine w_get (ci := 4) (T := TX3) hx hb hts hin_TX3 hown hK hW hka hda (by decide) rfl 2 (by decide) (hts (.fieldLink RX3 19 "TownClocks$Pipe" "lossInAll" "I") (by decide +kernel)) (fun _ h9 => h9) rfl dX3_init_25 ?_
  refine w_i (by rw [u2_ne hak]) ?_
  refine lv_iadd hx hb dX3_init_28 ?_
  refine w_putiF (ci := 4) (T := TX3) (ty := .int) hx hb hts hin_TX3 tyX3 tyX3_ok nmX3 hown hK hW hS hk hd (by decide) rfl 2 (by decide) (hts (.fieldLink RX3 19 "TownClocks$Pipe" "lossInAll" "I") (by decide +kernel)) (fun _ h9 => h9) rfl hmn rfl (tyX3_ok 2 (by decide)) rfl rfl (Nat.le_of_ble_eq_true rfl) rfl dX3_init_29 (fun H locs hW hS => ?_)
  refine lv_aload_n hx hb dX3_init_32 rfl (lv_at hl 0 rfl) ?_
  refine lv_iload hx hb dX3_init_33 (lv_at hl 4 rfl) ?_
  refine lv_aload_n hx hb dX3_init_35 rfl (lv_at hl 2 rfl) ?_
  refine lv_ifnonnull (tgt := 43) hx hb dX3_init_36 (by decide) ?_
  refine lv_aload_n hx hb dX3_init_43 rfl (lv_at hl 2 rfl) ?_
  refine w_get (ci := 4) (T := TX3) hx hb hts hin_TX3 hown hK hW hka hda (by decide) rfl 3 (by decide) (hts (.fieldLink RX3 22 "TownClocks$Pipe" "lagInAll" "I") (by decide +kernel)) (fun _ h9 => h9) rfl dX3_init_44 ?_
  refine w_i (by rw [u2_ne hak, u2_ne hak]) ?_
  refine lv_iadd hx hb dX3_init_47 ?_
  refine w_putiF (ci := 4) (T := TX3) (ty := .int) hx hb hts hin_TX3 tyX3 tyX3_ok nmX3 hown hK hW hS hk hd (by decide) rfl 3 (by decide) (hts (.fieldLink RX3 22 "TownClocks$Pipe" "lagInAll" "I") (by decide +kernel)) (fun _ h9 => h9) rfl hmn rfl (tyX3_ok 3 (by decide)) rfl rfl (Nat.le_of_ble_eq_true rfl) rfl dX3_init_48 (fun H locs hW hS => ?_)
  refine lv_aload_n hx hb dX3_init_51 rfl (lv_at hl 0 rfl) ?_
  refine lv_iconst (v := 1) hx hb dX3_init_52 (by decide) ?_
  refine lv_iload_n hx hb dX3_init_53 rfl (lv_at hl 1 rfl) ?_
  refine lv_ishl hx hb dX3_init_54 ?_
  refine lv_aload_n hx hb dX3_init_55 rfl (lv_at hl 2 rfl) ?_
  refine lv_ifnonnull (tgt := 63) hx hb dX3_init_56 (by decide) ?_
  refine lv_aload_n hx hb dX3_init_63 rfl (lv_at hl 2 rfl) ?_
  refine w_get (ci := 4) (T := TX3) hx hb hts hin_TX3 hown hK hW hka hda (by decide) rfl 4 (by decide) (hts (.fieldLink RX3 25 "TownClocks$Pipe" "wayBits" "I") (by decide +kernel)) (fun _ h9 => h9) rfl dX3_init_64 ?_
  refine w_i (by rw [u2_ne hak, u2_ne hak, u2_ne hak]) ?_
  refine lv_ior hx hb dX3_init_67 ?_
  refine w_putiF (ci := 4) (T := TX3) (ty := .int) hx hb hts hin_TX3 tyX3 tyX3_ok nmX3 hown hK hW hS hk hd (by decide) rfl 4 (by decide) (hts (.fieldLink RX3 25 "TownClocks$Pipe" "wayBits" "I") (by decide +kernel)) (fun _ h9 => h9) rfl hmn rfl (tyX3_ok 4 (by decide)) rfl rfl (Nat.le_of_ble_eq_true rfl) rfl dX3_init_68 (fun H locs hW hS => ?_)
  exact w_vret hx hb hr hlk hW hS rfl rfl rfl dX3_init_71
