theorem bz_iff {P Q : Prop} [Decidable P] [Decidable Q] (h : P ↔ Q) : bz P = bz Q := by
  by_cases hp : P
  · rw [bz_t hp, bz_t (h.mp hp)]
  · rw [bz_f hp, bz_f (fun q => hp (h.mpr q))]
def x_at (b n : Nat) (x : Int32) : Option Nat := if inx n x then some (b + x.toNatClampNeg) else none
set_option maxHeartbeats 4000000 in
set_option maxRecDepth 100000 in
theorem c_Jx4a65c_size_8abf5 {X : (Nat → Prop) → State → Prop} (hxo : xok X) (l : Launch) (D : va_G) (q : Cq) {dm : List Nat} {kd ln ad : Nat → Nat} (V : Mv) (J : Mj) (R : Mr) (k : Nat) (hk : k ∈ dm) (hd : kd k = 0) : CtI X l yJx4a65c_size_8abf5 wsJx4a65c_size_8abf5 ({ frames := 0, cells := 0, slots := 0, locals := 0 }) D q dm kd ln ad V J R [.ref (ad k)] (V k 2) (V) (J) (R) := by
  refine CtI_of (cc := cJx4a65c_size_8abf5) (maxL := 1) (ret := (some .int)) (by decide +kernel) rfl (Nat.le_of_ble_eq_true rfl) ?_
  intro p e s m below meth c A hx hb hr hml hts hown hlk hmn hK hW hA hXs ls hl
  have hS : va_S A s.heap s.heap [] := va_S.rf
  have hl : lv_has ls 1 [(0, .ref (ad k))] := hl
  have hin_TJx4a65c : ∀ w ∈ u_ws RJx4a65c TJx4a65c 3, w ∈ wsJx4a65c_size_8abf5 := by decide +kernel
  refine lv_aload_n hx hb dJx4a65c_size_8abf5_0 rfl (lv_at hl 0 rfl) ?_
  refine w_get (ci := 0) (T := TJx4a65c) hx hb hts hin_TJx4a65c hown hK hW hk hd (by decide) rfl 2 (by decide) (hts (.fieldLink RJx4a65c 48 "java/util/ArrayList" "size" "I") (by decide +kernel)) (fun _ h9 => h9) rfl dJx4a65c_size_8abf5_1 ?_
  exact w_iret hx hb hr hlk hW hS rfl rfl rfl rfl dJx4a65c_size_8abf5_4
set_option maxHeartbeats 4000000 in
set_option maxRecDepth 100000 in
theorem c_J3_checkIndex_8e157 {X : (Nat → Prop) → State → Prop} (hxo : xok X) (l : Launch) (D : va_G) (q : Cq) {dm : List Nat} {kd ln ad : Nat → Nat} (V : Mv) (J : Mj) (R : Mr) (a b : Int32) (h0 : ¬ a < 0) (h1 : a < b) : CtI X l yJ3_checkIndex_8e157 wsJ3_checkIndex_8e157 ({ frames := 0, cells := 0, slots := 0, locals := 0 }) D q dm kd ln ad V J R [.int a, .int b, .null] (a) (V) (J) (R) := by
  refine CtI_of (cc := cJ3_checkIndex_8e157) (maxL := 3) (ret := (some .int)) (by decide +kernel) rfl (Nat.le_of_ble_eq_true rfl) ?_
  intro p e s m below meth c A hx hb hr hml hts hown hlk hmn hK hW hA hXs ls hl
  have hS : va_S A s.heap s.heap [] := va_S.rf
  have hl : lv_has ls 3 [(0, .int a), (1, .int b), (2, .null)] := hl
  refine lv_iload_n hx hb dJ3_checkIndex_8e157_0 rfl (lv_at hl 0 rfl) ?_
  refine lv_if_lt (tgt := 9) hx hb dJ3_checkIndex_8e157_1 (by decide) (fun c_1 => ?_) (fun c_1 => ?_)
  · exact absurd c_1 h0
  · refine lv_iload_n hx hb dJ3_checkIndex_8e157_4 rfl (lv_at hl 0 rfl) ?_
    refine lv_iload_n hx hb dJ3_checkIndex_8e157_5 rfl (lv_at hl 1 rfl) ?_
    refine lv_icmp_lt (tgt := 16) hx hb dJ3_checkIndex_8e157_6 (by decide) (fun c_6 => ?_) (fun c_6 => ?_)
    · refine lv_iload_n hx hb dJ3_checkIndex_8e157_16 rfl (lv_at hl 0 rfl) ?_
      exact w_iret hx hb hr hlk hW hS rfl rfl rfl rfl dJ3_checkIndex_8e157_17
    · exact absurd h1 c_6
set_option maxHeartbeats 4000000 in
set_option maxRecDepth 100000 in
theorem c_J15_checkIndex_7cf53 {X : (Nat → Prop) → State → Prop} (hxo : xok X) (l : Launch) (D : va_G) (q : Cq) {dm : List Nat} {kd ln ad : Nat → Nat} (V : Mv) (J : Mj) (R : Mr) (a b : Int32) (h0 : ¬ a < 0) (h1 : a < b) : CtI X l yJ15_checkIndex_7cf53 wsJ15_checkIndex_7cf53 ({ frames := 1, cells := 0, slots := 0, locals := 22 }) D q dm kd ln ad V J R [.int a, .int b] (a) (V) (J) (R) := by
  refine CtI_of (cc := cJ15_checkIndex_7cf53) (maxL := 2) (ret := (some .int)) (by decide +kernel) rfl (Nat.le_of_ble_eq_true rfl) ?_
  intro p e s m below meth c A hx hb hr hml hts hown hlk hmn hK hW hA hXs ls hl
  have hS : va_S A s.heap s.heap [] := va_S.rf
  have hl : lv_has ls 2 [(0, .int a), (1, .int b)] := hl
  refine lv_iload_n hx hb dJ15_checkIndex_7cf53_0 rfl (lv_at hl 0 rfl) ?_
  refine lv_iload_n hx hb dJ15_checkIndex_7cf53_1 rfl (lv_at hl 1 rfl) ?_
  refine lv_null hx hb dJ15_checkIndex_7cf53_2 ?_
  refine w_ci (w_runS ⟨hx, hb, hml, hown, hts⟩ (c_J3_checkIndex_8e157 hxo l D q V J R a b h0 h1) hxo (va_cwS 3 hts gJ15_checkIndex_7cf53_J3_checkIndex_8e157 rfl rfl rfl (by decide +kernel) ⟨Nat.le_of_ble_eq_true rfl, Nat.le_of_ble_eq_true rfl⟩) hK hW hS hA hXs rfl hl.1 rfl (Nat.le_of_ble_eq_true rfl) dJ15_checkIndex_7cf53_3 ⟨Nat.zero_le _, Nat.zero_le _⟩) hW hS hA (fun H locs hW hS => ?_)
  exact w_iret hx hb hr hlk hW hS rfl rfl rfl rfl dJ15_checkIndex_7cf53_6
set_option maxHeartbeats 4000000 in
set_option maxRecDepth 100000 in
theorem c_Jx4a65c_elementData_915e3 {X : (Nat → Prop) → State → Prop} (hxo : xok X) (l : Launch) (D : va_G) (q : Cq) {dm : List Nat} {kd ln ad : Nat → Nat} (V : Mv) (J : Mj) (R : Mr) (k a t : Nat) (hk : k ∈ dm) (hd : kd k = 0) (hRa : R k 1 = some a) (hka : a ∈ dm) (hda : kd a = 13) (hta : t < ln a ∧ t < 2147483648) : CtQ X l yJx4a65c_elementData_915e3 wsJx4a65c_elementData_915e3 ({ frames := 0, cells := 0, slots := 0, locals := 0 }) D q dm kd ln ad V J R [.ref (ad k), .int (nI t)] (R a t) (V) (J) (R) := by
  refine CtQ_of (cc := cJx4a65c_elementData_915e3) (maxL := 2) (ret := (some (.object "java/lang/Object"))) (by decide +kernel) rfl (Nat.le_of_ble_eq_true rfl) ?_
  intro p e s m below meth c A hx hb hr hml hts hown hlk hmn hK hW hA hXs ls hl
  have hS : va_S A s.heap s.heap [] := va_S.rf
  have hl : lv_has ls 2 [(0, .ref (ad k)), (1, .int (nI t))] := hl
  have hin_TJx4a65c : ∀ w ∈ u_ws RJx4a65c TJx4a65c 3, w ∈ wsJx4a65c_elementData_915e3 := by decide +kernel
  refine lv_aload_n hx hb dJx4a65c_elementData_915e3_0 rfl (lv_at hl 0 rfl) ?_
  refine w_getr (ci := 0) (T := TJx4a65c) hx hb hts hin_TJx4a65c hown hK hW hk hd (by decide) rfl 1 (by decide) (hts (.fieldLink RJx4a65c 9 "java/util/ArrayList" "elementData" "[Ljava/lang/Object;") (by decide +kernel)) (fun _ h9 => h9) rfl hRa dJx4a65c_elementData_915e3_1 ?_
  refine lv_iload_n hx hb dJx4a65c_elementData_915e3_4 rfl (lv_at hl 1 rfl) ?_
  refine w_aaldN (t := t) hx hb hK hW hka hda hta dJx4a65c_elementData_915e3_5 ?_
  exact w_qret hx hb hr (Or.inl ⟨_, rfl⟩) hlk hW hS rfl rfl rfl rfl dJx4a65c_elementData_915e3_6
set_option maxHeartbeats 4000000 in
set_option maxRecDepth 100000 in
theorem c_Jx4a65c_get_915e3 {X : (Nat → Prop) → State → Prop} (hxo : xok X) (l : Launch) (D : va_G) (q : Cq) {dm : List Nat} {kd ln ad : Nat → Nat} (V : Mv) (J : Mj) (R : Mr) (k a t n : Nat) (hk : k ∈ dm) (hd : kd k = 0) (hRa : R k 1 = some a) (hka : a ∈ dm) (hda : kd a = 13) (hta : t < ln a ∧ t < 2147483648) (hsz : V k 2 = nI n) (htn : t < n) (hn : n < 2147483648) : CtQ X l yJx4a65c_get_915e3 wsJx4a65c_get_915e3 ({ frames := 2, cells := 0, slots := 0, locals := 43 }) D q dm kd ln ad V J R [.ref (ad k), .int (nI t)] (R a t) (V) (J) (R) := by
  refine CtQ_of (cc := cJx4a65c_get_915e3) (maxL := 2) (ret := (some (.object "java/lang/Object"))) (by decide +kernel) rfl (Nat.le_of_ble_eq_true rfl) ?_
  intro p e s m below meth c A hx hb hr hml hts hown hlk hmn hK hW hA hXs ls hl
  have hS : va_S A s.heap s.heap [] := va_S.rf
  have hl : lv_has ls 2 [(0, .ref (ad k)), (1, .int (nI t))] := hl
  have hin_TJx4a65c : ∀ w ∈ u_ws RJx4a65c TJx4a65c 3, w ∈ wsJx4a65c_get_915e3 := by decide +kernel
  refine lv_iload_n hx hb dJx4a65c_get_915e3_0 rfl (lv_at hl 1 rfl) ?_
  refine lv_aload_n hx hb dJx4a65c_get_915e3_1 rfl (lv_at hl 0 rfl) ?_
  refine w_get (ci := 0) (T := TJx4a65c) hx hb hts hin_TJx4a65c hown hK hW hk hd (by decide) rfl 2 (by decide) (hts (.fieldLink RJx4a65c 48 "java/util/ArrayList" "size" "I") (by decide +kernel)) (fun _ h9 => h9) rfl dJx4a65c_get_915e3_2 ?_
  refine w_ci (w_runS ⟨hx, hb, hml, hown, hts⟩ (c_J15_checkIndex_7cf53 hxo l D q V J R (nI t) (V k 2) (nI_pos hta.2) (by rw [hsz]; exact nI_lt htn hn)) hxo (va_cwS 2 hts gJx4a65c_get_915e3_J15_checkIndex_7cf53 rfl rfl rfl (by decide +kernel) ⟨Nat.le_of_ble_eq_true rfl, Nat.le_of_ble_eq_true rfl⟩) hK hW hS hA hXs rfl hl.1 rfl (Nat.le_of_ble_eq_true rfl) dJx4a65c_get_915e3_5 ⟨Nat.zero_le _, Nat.zero_le _⟩) hW hS hA (fun H locs hW hS => ?_)
  refine lv_pop hx hb dJx4a65c_get_915e3_8 rfl ?_
  refine lv_aload_n hx hb dJx4a65c_get_915e3_9 rfl (lv_at hl 0 rfl) ?_
  refine lv_iload_n hx hb dJx4a65c_get_915e3_10 rfl (lv_at hl 1 rfl) ?_
  refine w_cq (w_runV ⟨hx, hb, hml, hown, hts⟩ (c_Jx4a65c_elementData_915e3 hxo l D q V J R k a t hk hd hRa hka hda hta) hxo (cwV 1 hts gJx4a65c_get_915e3_Jx4a65c_elementData_915e3 rfl rfl rfl (by decide +kernel) ⟨Nat.le_of_ble_eq_true rfl, Nat.le_of_ble_eq_true rfl⟩) hK hW hS hA hXs (w_rcv hK hW hk hd (by decide) rfl) rfl hl.1 rfl (Nat.le_of_ble_eq_true rfl) dJx4a65c_get_915e3_11 ⟨Nat.zero_le _, Nat.zero_le _⟩) hW hS hA (fun H locs hW hS => ?_)
  exact w_qret hx hb hr (Or.inl ⟨_, rfl⟩) hlk hW hS rfl rfl rfl rfl dJx4a65c_get_915e3_14
set_option maxHeartbeats 4000000 in
set_option maxRecDepth 100000 in
theorem c_X7_pipeAt {X : (Nat → Prop) → State → Prop} (hxo : xok X) (l : Launch) (D : va_G) (q : Cq) {dm : List Nat} {kd ln ad : Nat → Nat} (V : Mv) (J : Mj) (R : Mr) (nP nD : Nat) (x : Int32) (hX : okX dm kd ln R nP nD) (hp : V 1 2 = nI nP) : CtQ X l yX7_pipeAt wsX7_pipeAt ({ frames := 3, cells := 0, slots := 0, locals := 64 }) D q dm kd ln ad V J R [.ref (ad 0), .int x] (x_at 100 nP x) (V) (J) (R) := by
  refine CtQ_of (cc := cX7_pipeAt) (maxL := 2) (ret := (some (.object "TownClocks$Pipe"))) (by decide +kernel) rfl (Nat.le_of_ble_eq_true rfl) ?_
  intro p e s m below meth c A hx hb hr hml hts hown hlk hmn hK hW hA hXs ls hl
  have hS : va_S A s.heap s.heap [] := va_S.rf
  have hl : lv_has ls 2 [(0, .ref (ad 0)), (1, .int x)] := hl
  have hin_TX7 : ∀ w ∈ u_ws RX7 TX7 8, w ∈ wsX7_pipeAt := by decide +kernel
  refine lv_iload_n hx hb dX7_pipeAt_0 rfl (lv_at hl 1 rfl) ?_
  refine lv_iconst (v := 0) hx hb dX7_pipeAt_1 (by decide) ?_
  refine lv_aload_n hx hb dX7_pipeAt_2 rfl (lv_at hl 0 rfl) ?_
  refine w_getr (ci := 8) (T := TX7) hx hb hts hin_TX7 hown hK hW (hX.1 0 (by decide)).1 (hX.1 0 (by decide)).2.1 (by decide) rfl 0 (by decide) (hts (.fieldLink RX7 10 "TownClocks" "pipes" "Ljava/util/ArrayList;") (by decide +kernel)) (fun _ h9 => h9) rfl ((hX.1 0 (by decide)).2.2.2 0 1 rfl) dX7_pipeAt_3 ?_
  refine w_ci (w_runV ⟨hx, hb, hml, hown, hts⟩ (c_Jx4a65c_size_8abf5 hxo l D q V J R 1 (hX.1 1 (by decide)).1 (hX.1 1 (by decide)).2.1) hxo (cwV 0 hts gX7_pipeAt_Jx4a65c_size_8abf5 rfl rfl rfl (by decide +kernel) ⟨Nat.le_of_ble_eq_true rfl, Nat.le_of_ble_eq_true rfl⟩) hK hW hS hA hXs (w_rcv hK hW (hX.1 1 (by decide)).1 (hX.1 1 (by decide)).2.1 (by decide) rfl) rfl hl.1 rfl (Nat.le_of_ble_eq_true rfl) dX7_pipeAt_6 ⟨Nat.zero_le _, Nat.zero_le _⟩) hW hS hA (fun H locs hW hS => ?_)
  refine lv_iconst (v := 1) hx hb dX7_pipeAt_9 (by decide) ?_
  refine lv_isub hx hb dX7_pipeAt_10 ?_
  refine w_ci (w_runS ⟨hx, hb, hml, hown, hts⟩ (c_X7_within hxo l D q V J R x 0 ((V 1 2) - 1) ) hxo (va_cwS 3 hts gX7_pipeAt_X7_within rfl rfl rfl (by decide +kernel) ⟨Nat.le_of_ble_eq_true rfl, Nat.le_of_ble_eq_true rfl⟩) hK hW hS hA hXs rfl hl.1 rfl (Nat.le_of_ble_eq_true rfl) dX7_pipeAt_11 ⟨Nat.zero_le _, Nat.zero_le _⟩) hW hS hA (fun H locs hW hS => ?_)
  refine w_ifz (tgt := 31) hx hb dX7_pipeAt_14 (by decide) (fun c_14 => ?_) (fun c_14 => ?_)
  · have hix : ¬ inx nP x := fun h => c_14 ((by rw [hp]; exact inx_w (by have := hX.2.1; omega) : (0 ≤ x ∧ x ≤ V 1 2 - 1) ↔ inx nP x).mpr h)
    refine lv_null hx hb dX7_pipeAt_31 ?_
    exact w_qret hx hb hr (Or.inl ⟨_, rfl⟩) hlk hW hS (by rw [x_at, if_neg hix]; rfl) rfl rfl rfl dX7_pipeAt_32
  · have hix : inx nP x := (by rw [hp]; exact inx_w (by have := hX.2.1; omega) : (0 ≤ x ∧ x ≤ V 1 2 - 1) ↔ inx nP x).mp c_14
    refine lv_aload_n hx hb dX7_pipeAt_17 rfl (lv_at hl 0 rfl) ?_
    refine w_getr (ci := 8) (T := TX7) hx hb hts hin_TX7 hown hK hW (hX.1 0 (by decide)).1 (hX.1 0 (by decide)).2.1 (by decide) rfl 0 (by decide) (hts (.fieldLink RX7 10 "TownClocks" "pipes" "Ljava/util/ArrayList;") (by decide +kernel)) (fun _ h9 => h9) rfl ((hX.1 0 (by decide)).2.2.2 0 1 rfl) dX7_pipeAt_18 ?_
    refine lv_iload_n hx hb dX7_pipeAt_21 rfl (lv_at hl 1 rfl) ?_
    refine w_i (inx_e hix) ?_
    refine w_cq (w_runV ⟨hx, hb, hml, hown, hts⟩ (c_Jx4a65c_get_915e3 hxo l D q V J R 1 16 x.toNatClampNeg nP (hX.1 1 (by decide)).1 (hX.1 1 (by decide)).2.1 (hX.2.2.2.2.1 (by have := (inx_c hix).1; omega)).2.2.2.2 (hX.2.2.2.2.1 (by have := (inx_c hix).1; omega)).1 (hX.2.2.2.2.1 (by have := (inx_c hix).1; omega)).2.1 ⟨Nat.lt_of_lt_of_le (inx_c hix).1 (hX.2.2.2.2.1 (by have := (inx_c hix).1; omega)).2.2.1, (inx_c hix).2⟩ hp (inx_c hix).1 (by have := hX.2.1; omega)) hxo (cwV 1 hts gX7_pipeAt_Jx4a65c_get_915e3 rfl rfl rfl (by decide +kernel) ⟨Nat.le_of_ble_eq_true rfl, Nat.le_of_ble_eq_true rfl⟩) hK hW hS hA hXs (w_rcv hK hW (hX.1 1 (by decide)).1 (hX.1 1 (by decide)).2.1 (by decide) rfl) rfl hl.1 rfl (Nat.le_of_ble_eq_true rfl) dX7_pipeAt_22 ⟨Nat.zero_le _, Nat.zero_le _⟩) hW hS hA (fun H locs hW hS => ?_)
    refine w_some (hX.2.2.1 x.toNatClampNeg (inx_c hix).1).2.2.1 ?_
    refine w_cast hx hb hown (hts (.classLink RX7 67 "TownClocks$Pipe") (by decide +kernel)) hK hW (hX.2.2.1 x.toNatClampNeg (inx_c hix).1).1 (hX.2.2.1 x.toNatClampNeg (inx_c hix).1).2.1 (by decide) rfl dX7_pipeAt_25 ?_
    refine lv_goto (tgt := 32) hx hb dX7_pipeAt_28 (by decide) ?_
    exact w_qret hx hb hr (Or.inl ⟨_, rfl⟩) hlk hW hS (by rw [x_at, if_pos hix]; rfl) rfl rfl rfl dX7_pipeAt_32
set_option maxHeartbeats 4000000 in
set_option maxRecDepth 100000 in
theorem c_X7_dialAt {X : (Nat → Prop) → State → Prop} (hxo : xok X) (l : Launch) (D : va_G) (q : Cq) {dm : List Nat} {kd ln ad : Nat → Nat} (V : Mv) (J : Mj) (R : Mr) (nP nD : Nat) (x : Int32) (hX : okX dm kd ln R nP nD) (hq : V 2 2 = nI nD) : CtQ X l yX7_dialAt wsX7_dialAt ({ frames := 3, cells := 0, slots := 0, locals := 64 }) D q dm kd ln ad V J R [.ref (ad 0), .int x] (x_at 200 nD x) (V) (J) (R) := by
  refine CtQ_of (cc := cX7_dialAt) (maxL := 2) (ret := (some (.object "TownClocks$Dial"))) (by decide +kernel) rfl (Nat.le_of_ble_eq_true rfl) ?_
  intro p e s m below meth c A hx hb hr hml hts hown hlk hmn hK hW hA hXs ls hl
  have hS : va_S A s.heap s.heap [] := va_S.rf
  have hl : lv_has ls 2 [(0, .ref (ad 0)), (1, .int x)] := hl
  have hin_TX7 : ∀ w ∈ u_ws RX7 TX7 8, w ∈ wsX7_dialAt := by decide +kernel
  refine lv_iload_n hx hb dX7_dialAt_0 rfl (lv_at hl 1 rfl) ?_
  refine lv_iconst (v := 0) hx hb dX7_dialAt_1 (by decide) ?_
  refine lv_aload_n hx hb dX7_dialAt_2 rfl (lv_at hl 0 rfl) ?_
  refine w_getr (ci := 8) (T := TX7) hx hb hts hin_TX7 hown hK hW (hX.1 0 (by decide)).1 (hX.1 0 (by decide)).2.1 (by decide) rfl 1 (by decide) (hts (.fieldLink RX7 16 "TownClocks" "dials" "Ljava/util/ArrayList;") (by decide +kernel)) (fun _ h9 => h9) rfl ((hX.1 0 (by decide)).2.2.2 1 2 rfl) dX7_dialAt_3 ?_
  refine w_ci (w_runV ⟨hx, hb, hml, hown, hts⟩ (c_Jx4a65c_size_8abf5 hxo l D q V J R 2 (hX.1 2 (by decide)).1 (hX.1 2 (by decide)).2.1) hxo (cwV 0 hts gX7_dialAt_Jx4a65c_size_8abf5 rfl rfl rfl (by decide +kernel) ⟨Nat.le_of_ble_eq_true rfl, Nat.le_of_ble_eq_true rfl⟩) hK hW hS hA hXs (w_rcv hK hW (hX.1 2 (by decide)).1 (hX.1 2 (by decide)).2.1 (by decide) rfl) rfl hl.1 rfl (Nat.le_of_ble_eq_true rfl) dX7_dialAt_6 ⟨Nat.zero_le _, Nat.zero_le _⟩) hW hS hA (fun H locs hW hS => ?_)
  refine lv_iconst (v := 1) hx hb dX7_dialAt_9 (by decide) ?_
  refine lv_isub hx hb dX7_dialAt_10 ?_
  refine w_ci (w_runS ⟨hx, hb, hml, hown, hts⟩ (c_X7_within hxo l D q V J R x 0 ((V 2 2) - 1) ) hxo (va_cwS 3 hts gX7_dialAt_X7_within rfl rfl rfl (by decide +kernel) ⟨Nat.le_of_ble_eq_true rfl, Nat.le_of_ble_eq_true rfl⟩) hK hW hS hA hXs rfl hl.1 rfl (Nat.le_of_ble_eq_true rfl) dX7_dialAt_11 ⟨Nat.zero_le _, Nat.zero_le _⟩) hW hS hA (fun H locs hW hS => ?_)
  refine w_ifz (tgt := 31) hx hb dX7_dialAt_14 (by decide) (fun c_14 => ?_) (fun c_14 => ?_)
  · have hix : ¬ inx nD x := fun h => c_14 ((by rw [hq]; exact inx_w (by have := hX.2.1; omega) : (0 ≤ x ∧ x ≤ V 2 2 - 1) ↔ inx nD x).mpr h)
    refine lv_null hx hb dX7_dialAt_31 ?_
    exact w_qret hx hb hr (Or.inl ⟨_, rfl⟩) hlk hW hS (by rw [x_at, if_neg hix]; rfl) rfl rfl rfl dX7_dialAt_32
  · have hix : inx nD x := (by rw [hq]; exact inx_w (by have := hX.2.1; omega) : (0 ≤ x ∧ x ≤ V 2 2 - 1) ↔ inx nD x).mp c_14
    refine lv_aload_n hx hb dX7_dialAt_17 rfl (lv_at hl 0 rfl) ?_
    refine w_getr (ci := 8) (T := TX7) hx hb hts hin_TX7 hown hK hW (hX.1 0 (by decide)).1 (hX.1 0 (by decide)).2.1 (by decide) rfl 1 (by decide) (hts (.fieldLink RX7 16 "TownClocks" "dials" "Ljava/util/ArrayList;") (by decide +kernel)) (fun _ h9 => h9) rfl ((hX.1 0 (by decide)).2.2.2 1 2 rfl) dX7_dialAt_18 ?_
    refine lv_iload_n hx hb dX7_dialAt_21 rfl (lv_at hl 1 rfl) ?_
    refine w_i (inx_e hix) ?_
    refine w_cq (w_runV ⟨hx, hb, hml, hown, hts⟩ (c_Jx4a65c_get_915e3 hxo l D q V J R 2 17 x.toNatClampNeg nD (hX.1 2 (by decide)).1 (hX.1 2 (by decide)).2.1 (hX.2.2.2.2.2 (by have := (inx_c hix).1; omega)).2.2.2.2 (hX.2.2.2.2.2 (by have := (inx_c hix).1; omega)).1 (hX.2.2.2.2.2 (by have := (inx_c hix).1; omega)).2.1 ⟨Nat.lt_of_lt_of_le (inx_c hix).1 (hX.2.2.2.2.2 (by have := (inx_c hix).1; omega)).2.2.1, (inx_c hix).2⟩ hq (inx_c hix).1 (by have := hX.2.1; omega)) hxo (cwV 1 hts gX7_dialAt_Jx4a65c_get_915e3 rfl rfl rfl (by decide +kernel) ⟨Nat.le_of_ble_eq_true rfl, Nat.le_of_ble_eq_true rfl⟩) hK hW hS hA hXs (w_rcv hK hW (hX.1 2 (by decide)).1 (hX.1 2 (by decide)).2.1 (by decide) rfl) rfl hl.1 rfl (Nat.le_of_ble_eq_true rfl) dX7_dialAt_22 ⟨Nat.zero_le _, Nat.zero_le _⟩) hW hS hA (fun H locs hW hS => ?_)
    refine w_some (hX.2.2.2.1 x.toNatClampNeg (inx_c hix).1).2.2.1 ?_
    refine w_cast hx hb hown (hts (.classLink RX7 86 "TownClocks$Dial") (by decide +kernel)) hK hW (hX.2.2.2.1 x.toNatClampNeg (inx_c hix).1).1 (hX.2.2.2.1 x.toNatClampNeg (inx_c hix).1).2.1 (by decide) rfl dX7_dialAt_25 ?_
    refine lv_goto (tgt := 32) hx hb dX7_dialAt_28 (by decide) ?_
    exact w_qret hx hb hr (Or.inl ⟨_, rfl⟩) hlk hW hS (by rw [x_at, if_pos hix]; rfl) rfl rfl rfl dX7_dialAt_32
set_option maxHeartbeats 4000000 in
set_option maxRecDepth 100000 in
theorem c_X8_in {X : (Nat → Prop) → State → Prop} (hxo : xok X) (l : Launch) (D : va_G) (q : Cq) {dm : List Nat} {kd ln ad : Nat → Nat} (V : Mv) (J : Mj) (R : Mr) (v lo hi : Int64)  : CtI X l yX8_in wsX8_in ({ frames := 0, cells := 0, slots := 0, locals := 0 }) D q dm kd ln ad V J R [.long v, .long lo, .long hi] (bz (lo ≤ v ∧ v ≤ hi)) (V) (J) (R) := by
  refine CtI_of (cc := cX8_in) (maxL := 6) (ret := (some .boolean)) (by decide +kernel) rfl (Nat.le_of_ble_eq_true rfl) ?_
  intro p e s m below meth c A hx hb hr hml hts hown hlk hmn hK hW hA hXs ls hl
  have hS : va_S A s.heap s.heap [] := va_S.rf
  have hl : lv_has ls 6 [(0, .long v), (2, .long lo), (4, .long hi)] := hl
  refine lv_lload_n hx hb dX8_in_0 rfl (lv_at hl 0 rfl) ?_
  refine lv_lload_n hx hb dX8_in_1 rfl (lv_at hl 1 rfl) ?_
  refine W.lcmp hx hb dX8_in_2 ?_
  refine w_lclt (tgt := 17) hx hb dX8_in_3 (by decide) (fun c_3 => ?_) (fun c_3 => ?_)
  · refine lv_iconst (v := 0) hx hb dX8_in_17 (by decide) ?_
    exact w_zret hx hb hr hlk hW hS (Or.inl rfl) (Eq.symm (bz_f (fun h => absurd c_3 (Int64.not_lt.mpr h.1)))) rfl rfl rfl dX8_in_18
  · refine lv_lload_n hx hb dX8_in_6 rfl (lv_at hl 0 rfl) ?_
    refine lv_lload hx hb dX8_in_7 (lv_at hl 2 rfl) ?_
    refine W.lcmp hx hb dX8_in_9 ?_
    refine w_lcgt (tgt := 17) hx hb dX8_in_10 (by decide) (fun c_10 => ?_) (fun c_10 => ?_)
    · refine lv_iconst (v := 0) hx hb dX8_in_17 (by decide) ?_
      exact w_zret hx hb hr hlk hW hS (Or.inl rfl) (Eq.symm (bz_f (fun h => absurd c_10 (Int64.not_lt.mpr h.2)))) rfl rfl rfl dX8_in_18
    · refine lv_iconst (v := 1) hx hb dX8_in_13 (by decide) ?_
      refine lv_goto (tgt := 18) hx hb dX8_in_14 (by decide) ?_
      exact w_zret hx hb hr hlk hW hS (Or.inr rfl) (Eq.symm (bz_t ⟨Int64.not_lt.mp c_3, Int64.not_lt.mp c_10⟩)) rfl rfl rfl dX8_in_18
set_option maxHeartbeats 4000000 in
set_option maxRecDepth 100000 in
theorem c_X8_isPipe {X : (Nat → Prop) → State → Prop} (hxo : xok X) (l : Launch) (D : va_G) (q : Cq) {dm : List Nat} {kd ln ad : Nat → Nat} (V : Mv) (J : Mj) (R : Mr) (nP : Nat) (x : Int32) (hM : okM dm kd ln R) (hmp : V 1000 1 = nI nP) (hnP : nP ≤ 30) : CtI X l yX8_isPipe wsX8_isPipe ({ frames := 1, cells := 0, slots := 0, locals := 25 }) D q dm kd ln ad V J R [.ref (ad 1000), .int x] (bz (inx nP x)) (V) (J) (R) := by
  refine CtI_of (cc := cX8_isPipe) (maxL := 2) (ret := (some .boolean)) (by decide +kernel) rfl (Nat.le_of_ble_eq_true rfl) ?_
  intro p e s m below meth c A hx hb hr hml hts hown hlk hmn hK hW hA hXs ls hl
  have hS : va_S A s.heap s.heap [] := va_S.rf
  have hl : lv_has ls 2 [(0, .ref (ad 1000)), (1, .int x)] := hl
  have hin_TX8 : ∀ w ∈ u_ws RX8 TX8 48, w ∈ wsX8_isPipe := by decide +kernel
  refine lv_iload_n hx hb dX8_isPipe_0 rfl (lv_at hl 1 rfl) ?_
  refine lv_i2l hx hb dX8_isPipe_1 rfl ?_
  refine lv_lconst (v := 0) hx hb dX8_isPipe_2 (by decide) ?_
  refine lv_aload_n hx hb dX8_isPipe_3 rfl (lv_at hl 0 rfl) ?_
  refine w_get (ci := 9) (T := TX8) hx hb hts hin_TX8 hown hK hW hM.1.1 hM.1.2 (by decide) rfl 1 (by decide) (hts (.fieldLink RX8 99 "TownClocksModel" "pipes" "I") (by decide +kernel)) (fun _ h9 => h9) rfl dX8_isPipe_4 ?_
  refine lv_iconst (v := 1) hx hb dX8_isPipe_7 (by decide) ?_
  refine lv_isub hx hb dX8_isPipe_8 ?_
  refine lv_i2l hx hb dX8_isPipe_9 rfl ?_
  refine w_ci (w_runS ⟨hx, hb, hml, hown, hts⟩ (c_X8_in hxo l D q V J R x.toInt64 0 (((V 1000 1) - 1).toInt64) ) hxo (va_cwS 3 hts gX8_isPipe_X8_in rfl rfl rfl (by decide +kernel) ⟨Nat.le_of_ble_eq_true rfl, Nat.le_of_ble_eq_true rfl⟩) hK hW hS hA hXs rfl hl.1 rfl (Nat.le_of_ble_eq_true rfl) dX8_isPipe_10 ⟨Nat.zero_le _, Nat.zero_le _⟩) hW hS hA (fun H locs hW hS => ?_)
  refine w_i (bz_iff (wid_l (c := 0) (d := (V 1000 1) - 1) (by decide) rfl)) ?_
  exact w_zret hx hb hr hlk hW hS (bz_or _) (bz_iff (by rw [hmp]; exact inx_w (by omega))) rfl rfl rfl dX8_isPipe_13
set_option maxHeartbeats 4000000 in
set_option maxRecDepth 100000 in
theorem c_X8_isDial {X : (Nat → Prop) → State → Prop} (hxo : xok X) (l : Launch) (D : va_G) (q : Cq) {dm : List Nat} {kd ln ad : Nat → Nat} (V : Mv) (J : Mj) (R : Mr) (nD : Nat) (x : Int32) (hM : okM dm kd ln R) (hmq : V 1000 7 = nI nD) (hnD : nD ≤ 40) : CtI X l yX8_isDial wsX8_isDial ({ frames := 1, cells := 0, slots := 0, locals := 25 }) D q dm kd ln ad V J R [.ref (ad 1000), .int x] (bz (inx nD x)) (V) (J) (R) := by
  refine CtI_of (cc := cX8_isDial) (maxL := 2) (ret := (some .boolean)) (by decide +kernel) rfl (Nat.le_of_ble_eq_true rfl) ?_
  intro p e s m below meth c A hx hb hr hml hts hown hlk hmn hK hW hA hXs ls hl
  have hS : va_S A s.heap s.heap [] := va_S.rf
  have hl : lv_has ls 2 [(0, .ref (ad 1000)), (1, .int x)] := hl
  have hin_TX8 : ∀ w ∈ u_ws RX8 TX8 48, w ∈ wsX8_isDial := by decide +kernel
  refine lv_iload_n hx hb dX8_isDial_0 rfl (lv_at hl 1 rfl) ?_
  refine lv_i2l hx hb dX8_isDial_1 rfl ?_
  refine lv_lconst (v := 0) hx hb dX8_isDial_2 (by decide) ?_
  refine lv_aload_n hx hb dX8_isDial_3 rfl (lv_at hl 0 rfl) ?_
  refine w_get (ci := 9) (T := TX8) hx hb hts hin_TX8 hown hK hW hM.1.1 hM.1.2 (by decide) rfl 7 (by decide) (hts (.fieldLink RX8 128 "TownClocksModel" "dials" "I") (by decide +kernel)) (fun _ h9 => h9) rfl dX8_isDial_4 ?_
  refine lv_iconst (v := 1) hx hb dX8_isDial_7 (by decide) ?_
  refine lv_isub hx hb dX8_isDial_8 ?_
  refine lv_i2l hx hb dX8_isDial_9 rfl ?_
  refine w_ci (w_runS ⟨hx, hb, hml, hown, hts⟩ (c_X8_in hxo l D q V J R x.toInt64 0 (((V 1000 7) - 1).toInt64) ) hxo (va_cwS 3 hts gX8_isDial_X8_in rfl rfl rfl (by decide +kernel) ⟨Nat.le_of_ble_eq_true rfl, Nat.le_of_ble_eq_true rfl⟩) hK hW hS hA hXs rfl hl.1 rfl (Nat.le_of_ble_eq_true rfl) dX8_isDial_10 ⟨Nat.zero_le _, Nat.zero_le _⟩) hW hS hA (fun H locs hW hS => ?_)
  refine w_i (bz_iff (wid_l (c := 0) (d := (V 1000 7) - 1) (by decide) rfl)) ?_
  exact w_zret hx hb hr hlk hW hS (bz_or _) (bz_iff (by rw [hmq]; exact inx_w (by omega))) rfl rfl rfl dX8_isDial_13
