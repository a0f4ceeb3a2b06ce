def x_kind (V : Mv) (k : Nat) : Int32 := if V k 6 < 10 then V k 2 else 3
def x_known (V : Mv) (k : Nat) : Mv := u2 (u2 V k 4 (V k 3)) k 5 0
def x_putOn (V : Mv) (k : Nat) (a : Int32) : Mv := u2 (u2 V k 3 (V k 3 - a)) k 4 (V k 4 - a)
def x_right (V : Mv) (k : Nat) : Mv := x_known (u2 (u2 V k 3 0) k 6 0) k
def x_begin (V : Mv) (k : Nat) (a b d : Int32) : Mv := u2 (u2 (u2 (u2 V k 8 a) k 9 b) k 10 d) k 11 0
def x_paid (V : Mv) (k : Nat) (mv : Int32) : Int32 := if V k 8 = 1 then 1 else if V k 8 = 2 then mv else if V k 8 = 3 then bz (V k 3 < V k 9) else 0
set_option maxHeartbeats 4000000 in
set_option maxRecDepth 100000 in
theorem c_X7_within {X : (Nat → Prop) → State → Prop} (hxo : xok X) (l : Launch) (D : va_G) (q : Cq) {dm : List Nat} {kd ln ad : Nat → Nat} (V : Mv) (J : Mj) (R : Mr) (v lo hi : Int32)  : CtI X l yX7_within wsX7_within ({ frames := 0, cells := 0, slots := 0, locals := 0 }) D q dm kd ln ad V J R [.int v, .int lo, .int hi] (bz (lo ≤ v ∧ v ≤ hi)) (V) (J) (R) := by
  refine CtI_of (cc := cX7_within) (maxL := 3) (ret := (some .boolean)) (by decide +kernel) rfl (Nat.le_of_ble_eq_true rfl) ?_
  intro p e s m below meth c A hx hb hr hml hts hown hlk hmn hK hW hA hXs ls hl
  have hS : va_S A s.heap s.heap [] := va_S.rf
  have hl : lv_has ls 3 [(0, .int v), (1, .int lo), (2, .int hi)] := hl
  refine lv_iload_n hx hb dX7_within_0 rfl (lv_at hl 0 rfl) ?_
  refine lv_iload_n hx hb dX7_within_1 rfl (lv_at hl 1 rfl) ?_
  refine lv_icmp_lt (tgt := 14) hx hb dX7_within_2 (by decide) (fun c_2 => ?_) (fun c_2 => ?_)
  · refine lv_iconst (v := 0) hx hb dX7_within_14 (by decide) ?_
    exact w_zret hx hb hr hlk hW hS (Or.inl rfl) (Eq.symm (bz_f (fun h => absurd c_2 (Int32.not_lt.mpr h.1)))) rfl rfl rfl dX7_within_15
  · refine lv_iload_n hx hb dX7_within_5 rfl (lv_at hl 0 rfl) ?_
    refine lv_iload_n hx hb dX7_within_6 rfl (lv_at hl 2 rfl) ?_
    refine lv_icmp_gt (tgt := 14) hx hb dX7_within_7 (by decide) (fun c_7 => ?_) (fun c_7 => ?_)
    · refine lv_iconst (v := 0) hx hb dX7_within_14 (by decide) ?_
      exact w_zret hx hb hr hlk hW hS (Or.inl rfl) (Eq.symm (bz_f (fun h => absurd c_7 (Int32.not_lt.mpr h.2)))) rfl rfl rfl dX7_within_15
    · refine lv_iconst (v := 1) hx hb dX7_within_10 (by decide) ?_
      refine lv_goto (tgt := 15) hx hb dX7_within_11 (by decide) ?_
      exact w_zret hx hb hr hlk hW hS (Or.inr rfl) (Eq.symm (bz_t ⟨Int32.not_lt.mp c_2, Int32.not_lt.mp c_7⟩)) rfl rfl rfl dX7_within_15
set_option maxHeartbeats 4000000 in
set_option maxRecDepth 100000 in
theorem c_X0_toldKind {X : (Nat → Prop) → State → Prop} (hxo : xok X) (l : Launch) (D : va_G) (q : Cq) {dm : List Nat} {kd ln ad : Nat → Nat} (V : Mv) (J : Mj) (R : Mr) (k : Nat) (hk : k ∈ dm) (hd : kd k = 1) : CtI X l yX0_toldKind wsX0_toldKind ({ frames := 0, cells := 0, slots := 0, locals := 0 }) D q dm kd ln ad V J R [.ref (ad k)] (x_kind V k) (V) (J) (R) := by
  refine CtI_of (cc := cX0_toldKind) (maxL := 1) (ret := (some .int)) (by decide +kernel) rfl (Nat.le_of_ble_eq_true rfl) ?_
  intro p e s m below meth c A hx hb hr hml hts hown hlk hmn hK hW hA hXs ls hl
  have hS : va_S A s.heap s.heap [] := va_S.rf
  have hl : lv_has ls 1 [(0, .ref (ad k))] := hl
  have hin_TX0 : ∀ w ∈ u_ws RX0 TX0 12, w ∈ wsX0_toldKind := by decide +kernel
  refine lv_aload_n hx hb dX0_toldKind_0 rfl (lv_at hl 0 rfl) ?_
  refine w_get (ci := 1) (T := TX0) hx hb hts hin_TX0 hown hK hW hk hd (by decide) rfl 6 (by decide) (hts (.fieldLink RX0 31 "TownClocks$Dial" "missedRunning" "I") (by decide +kernel)) (fun _ h9 => h9) rfl dX0_toldKind_1 ?_
  refine lv_bipush (v := 10) hx hb dX0_toldKind_4 (by decide) ?_
  refine lv_icmp_lt (tgt := 13) hx hb dX0_toldKind_6 (by decide) (fun c_6 => ?_) (fun c_6 => ?_)
  · refine lv_aload_n hx hb dX0_toldKind_13 rfl (lv_at hl 0 rfl) ?_
    refine w_get (ci := 1) (T := TX0) hx hb hts hin_TX0 hown hK hW hk hd (by decide) rfl 2 (by decide) (hts (.fieldLink RX0 19 "TownClocks$Dial" "sort" "I") (by decide +kernel)) (fun _ h9 => h9) rfl dX0_toldKind_14 ?_
    exact w_iret hx hb hr hlk hW hS (by first | rfl | (simp only [x_kind, c_6, ↓reduceIte]; done) | simp [bz, x_kind, c_6]) rfl rfl rfl dX0_toldKind_17
  · refine lv_iconst (v := 3) hx hb dX0_toldKind_9 (by decide) ?_
    refine lv_goto (tgt := 17) hx hb dX0_toldKind_10 (by decide) ?_
    exact w_iret hx hb hr hlk hW hS (by first | rfl | (simp only [x_kind, c_6, ↓reduceIte]; done) | simp [bz, x_kind, c_6]) rfl rfl rfl dX0_toldKind_17
set_option maxHeartbeats 4000000 in
set_option maxRecDepth 100000 in
theorem c_X0_becomeKnown {X : (Nat → Prop) → State → Prop} (hxo : xok X) (l : Launch) (D : va_G) (q : Cq) {dm : List Nat} {kd ln ad : Nat → Nat} (V : Mv) (J : Mj) (R : Mr) (k : Nat) (hk : k ∈ dm) (hd : kd k = 1) : CtV X l yX0_becomeKnown wsX0_becomeKnown ({ frames := 0, cells := 0, slots := 0, locals := 0 }) D q dm kd ln ad V J R [.ref (ad k)] (x_known V k) (J) (R) := by
  refine CtV_of (cc := cX0_becomeKnown) (maxL := 1) (ret := none) (by decide +kernel) rfl (Nat.le_of_ble_eq_true rfl) ?_
  intro p e s m below meth c A hx hb hr hml hts hown hlk hmn hK hW hA hXs ls hl
  have hS : va_S A s.heap s.heap [] := va_S.rf
  have hl : lv_has ls 1 [(0, .ref (ad k))] := hl
  have hin_TX0 : ∀ w ∈ u_ws RX0 TX0 12, w ∈ wsX0_becomeKnown := by decide +kernel
  refine lv_aload_n hx hb dX0_becomeKnown_0 rfl (lv_at hl 0 rfl) ?_
  refine lv_aload_n hx hb dX0_becomeKnown_1 rfl (lv_at hl 0 rfl) ?_
  refine w_get (ci := 1) (T := TX0) hx hb hts hin_TX0 hown hK hW hk hd (by decide) rfl 3 (by decide) (hts (.fieldLink RX0 34 "TownClocks$Dial" "late" "I") (by decide +kernel)) (fun _ h9 => h9) rfl dX0_becomeKnown_2 ?_
  refine w_puti (ci := 1) (T := TX0) (ty := .int) hx hb hts hin_TX0 tyX0 tyX0_ok nmX0 hown hK hW hS hk hd (by decide) rfl 4 (by decide) (hts (.fieldLink RX0 53 "TownClocks$Dial" "knownLeast" "I") (by decide +kernel)) (fun _ h9 => h9) rfl (tyX0_ok 4 (by decide)) rfl rfl (Nat.le_of_ble_eq_true rfl) rfl dX0_becomeKnown_5 (fun H locs hW hS => ?_)
  refine lv_aload_n hx hb dX0_becomeKnown_8 rfl (lv_at hl 0 rfl) ?_
  refine lv_iconst (v := 0) hx hb dX0_becomeKnown_9 (by decide) ?_
  refine w_puti (ci := 1) (T := TX0) (ty := .int) hx hb hts hin_TX0 tyX0 tyX0_ok nmX0 hown hK hW hS hk hd (by decide) rfl 5 (by decide) (hts (.fieldLink RX0 28 "TownClocks$Dial" "puffsSinceKnown" "I") (by decide +kernel)) (fun _ h9 => h9) rfl (tyX0_ok 5 (by decide)) rfl rfl (Nat.le_of_ble_eq_true rfl) rfl dX0_becomeKnown_10 (fun H locs hW hS => ?_)
  exact w_vret hx hb hr hlk hW hS rfl rfl rfl dX0_becomeKnown_13
set_option maxHeartbeats 4000000 in
set_option maxRecDepth 100000 in
theorem c_X0_putOn {X : (Nat → Prop) → State → Prop} (hxo : xok X) (l : Launch) (D : va_G) (q : Cq) {dm : List Nat} {kd ln ad : Nat → Nat} (V : Mv) (J : Mj) (R : Mr) (k : Nat) (a : Int32) (hk : k ∈ dm) (hd : kd k = 1) : CtV X l yX0_putOn wsX0_putOn ({ frames := 0, cells := 0, slots := 0, locals := 0 }) D q dm kd ln ad V J R [.ref (ad k), .int a] (x_putOn V k a) (J) (R) := by
  refine CtV_of (cc := cX0_putOn) (maxL := 2) (ret := none) (by decide +kernel) rfl (Nat.le_of_ble_eq_true rfl) ?_
  intro p e s m below meth c A hx hb hr hml hts hown hlk hmn hK hW hA hXs ls hl
  have hS : va_S A s.heap s.heap [] := va_S.rf
  have hl : lv_has ls 2 [(0, .ref (ad k)), (1, .int a)] := hl
  have hin_TX0 : ∀ w ∈ u_ws RX0 TX0 12, w ∈ wsX0_putOn := by decide +kernel
  refine lv_aload_n hx hb dX0_putOn_0 rfl (lv_at hl 0 rfl) ?_
  refine lv_dup hx hb dX0_putOn_1 rfl ?_
  refine w_get (ci := 1) (T := TX0) hx hb hts hin_TX0 hown hK hW hk hd (by decide) rfl 3 (by decide) (hts (.fieldLink RX0 34 "TownClocks$Dial" "late" "I") (by decide +kernel)) (fun _ h9 => h9) rfl dX0_putOn_2 ?_
  refine lv_iload_n hx hb dX0_putOn_5 rfl (lv_at hl 1 rfl) ?_
  refine lv_isub hx hb dX0_putOn_6 ?_
  refine w_puti (ci := 1) (T := TX0) (ty := .int) hx hb hts hin_TX0 tyX0 tyX0_ok nmX0 hown hK hW hS hk hd (by decide) rfl 3 (by decide) (hts (.fieldLink RX0 34 "TownClocks$Dial" "late" "I") (by decide +kernel)) (fun _ h9 => h9) rfl (tyX0_ok 3 (by decide)) rfl rfl (Nat.le_of_ble_eq_true rfl) rfl dX0_putOn_7 (fun H locs hW hS => ?_)
  refine lv_aload_n hx hb dX0_putOn_10 rfl (lv_at hl 0 rfl) ?_
  refine lv_dup hx hb dX0_putOn_11 rfl ?_
  refine w_get (ci := 1) (T := TX0) hx hb hts hin_TX0 hown hK hW hk hd (by decide) rfl 4 (by decide) (hts (.fieldLink RX0 53 "TownClocks$Dial" "knownLeast" "I") (by decide +kernel)) (fun _ h9 => h9) rfl dX0_putOn_12 ?_
  refine w_i (by rw [u2_sn (by decide)]) ?_
  refine lv_iload_n hx hb dX0_putOn_15 rfl (lv_at hl 1 rfl) ?_
  refine lv_isub hx hb dX0_putOn_16 ?_
  refine w_puti (ci := 1) (T := TX0) (ty := .int) hx hb hts hin_TX0 tyX0 tyX0_ok nmX0 hown hK hW hS hk hd (by decide) rfl 4 (by decide) (hts (.fieldLink RX0 53 "TownClocks$Dial" "knownLeast" "I") (by decide +kernel)) (fun _ h9 => h9) rfl (tyX0_ok 4 (by decide)) rfl rfl (Nat.le_of_ble_eq_true rfl) rfl dX0_putOn_17 (fun H locs hW hS => ?_)
  exact w_vret hx hb hr hlk hW hS rfl rfl rfl dX0_putOn_20
set_option maxHeartbeats 4000000 in
set_option maxRecDepth 100000 in
theorem c_X0_putRight {X : (Nat → Prop) → State → Prop} (hxo : xok X) (l : Launch) (D : va_G) (q : Cq) {dm : List Nat} {kd ln ad : Nat → Nat} (V : Mv) (J : Mj) (R : Mr) (k : Nat) (hk : k ∈ dm) (hd : kd k = 1) : CtV X l yX0_putRight wsX0_putRight ({ frames := 1, cells := 0, slots := 0, locals := 20 }) D q dm kd ln ad V J R [.ref (ad k)] (x_right V k) (J) (R) := by
  refine CtV_of (cc := cX0_putRight) (maxL := 1) (ret := none) (by decide +kernel) rfl (Nat.le_of_ble_eq_true rfl) ?_
  intro p e s m below meth c A hx hb hr hml hts hown hlk hmn hK hW hA hXs ls hl
  have hS : va_S A s.heap s.heap [] := va_S.rf
  have hl : lv_has ls 1 [(0, .ref (ad k))] := hl
  have hin_TX0 : ∀ w ∈ u_ws RX0 TX0 12, w ∈ wsX0_putRight := by decide +kernel
  refine lv_aload_n hx hb dX0_putRight_0 rfl (lv_at hl 0 rfl) ?_
  refine lv_iconst (v := 0) hx hb dX0_putRight_1 (by decide) ?_
  refine w_puti (ci := 1) (T := TX0) (ty := .int) hx hb hts hin_TX0 tyX0 tyX0_ok nmX0 hown hK hW hS hk hd (by decide) rfl 3 (by decide) (hts (.fieldLink RX0 34 "TownClocks$Dial" "late" "I") (by decide +kernel)) (fun _ h9 => h9) rfl (tyX0_ok 3 (by decide)) rfl rfl (Nat.le_of_ble_eq_true rfl) rfl dX0_putRight_2 (fun H locs hW hS => ?_)
  refine lv_aload_n hx hb dX0_putRight_5 rfl (lv_at hl 0 rfl) ?_
  refine lv_iconst (v := 0) hx hb dX0_putRight_6 (by decide) ?_
  refine w_puti (ci := 1) (T := TX0) (ty := .int) hx hb hts hin_TX0 tyX0 tyX0_ok nmX0 hown hK hW hS hk hd (by decide) rfl 6 (by decide) (hts (.fieldLink RX0 31 "TownClocks$Dial" "missedRunning" "I") (by decide +kernel)) (fun _ h9 => h9) rfl (tyX0_ok 6 (by decide)) rfl rfl (Nat.le_of_ble_eq_true rfl) rfl dX0_putRight_7 (fun H locs hW hS => ?_)
  refine lv_aload_n hx hb dX0_putRight_10 rfl (lv_at hl 0 rfl) ?_
  refine w_cv (w_runV ⟨hx, hb, hml, hown, hts⟩ (c_X0_becomeKnown hxo l D q (u2 (u2 V k 3 0) k 6 0) J R k hk hd) hxo (cwV 0 hts gX0_putRight_X0_becomeKnown rfl rfl rfl (by decide +kernel) ⟨Nat.le_of_ble_eq_true rfl, Nat.le_of_ble_eq_true rfl⟩) hK hW hS hA hXs (w_rcv hK hW hk hd (by decide) rfl) rfl hl.1 rfl (Nat.le_of_ble_eq_true rfl) dX0_putRight_11 ⟨Nat.zero_le _, Nat.zero_le _⟩) hW hS hA (fun H locs hW hS => ?_)
  exact w_vret hx hb hr hlk hW hS rfl rfl rfl dX0_putRight_14
set_option maxHeartbeats 4000000 in
set_option maxRecDepth 100000 in
theorem c_X0_begin {X : (Nat → Prop) → State → Prop} (hxo : xok X) (l : Launch) (D : va_G) (q : Cq) {dm : List Nat} {kd ln ad : Nat → Nat} (V : Mv) (J : Mj) (R : Mr) (k : Nat) (a b d : Int32) (hk : k ∈ dm) (hd : kd k = 1) : CtV X l yX0_begin wsX0_begin ({ frames := 0, cells := 0, slots := 0, locals := 0 }) D q dm kd ln ad V J R [.ref (ad k), .int a, .int b, .int d] (x_begin V k a b d) (J) (R) := by
  refine CtV_of (cc := cX0_begin) (maxL := 4) (ret := none) (by decide +kernel) rfl (Nat.le_of_ble_eq_true rfl) ?_
  intro p e s m below meth c A hx hb hr hml hts hown hlk hmn hK hW hA hXs ls hl
  have hS : va_S A s.heap s.heap [] := va_S.rf
  have hl : lv_has ls 4 [(0, .ref (ad k)), (1, .int a), (2, .int b), (3, .int d)] := hl
  have hin_TX0 : ∀ w ∈ u_ws RX0 TX0 12, w ∈ wsX0_begin := by decide +kernel
  refine lv_aload_n hx hb dX0_begin_0 rfl (lv_at hl 0 rfl) ?_
  refine lv_iload_n hx hb dX0_begin_1 rfl (lv_at hl 1 rfl) ?_
  refine w_puti (ci := 1) (T := TX0) (ty := .int) hx hb hts hin_TX0 tyX0 tyX0_ok nmX0 hown hK hW hS hk hd (by decide) rfl 8 (by decide) (hts (.fieldLink RX0 47 "TownClocks$Dial" "terms" "I") (by decide +kernel)) (fun _ h9 => h9) rfl (tyX0_ok 8 (by decide)) rfl rfl (Nat.le_of_ble_eq_true rfl) rfl dX0_begin_2 (fun H locs hW hS => ?_)
  refine lv_aload_n hx hb dX0_begin_5 rfl (lv_at hl 0 rfl) ?_
  refine lv_iload_n hx hb dX0_begin_6 rfl (lv_at hl 2 rfl) ?_
  refine w_puti (ci := 1) (T := TX0) (ty := .int) hx hb hts hin_TX0 tyX0 tyX0_ok nmX0 hown hK hW hS hk hd (by decide) rfl 9 (by decide) (hts (.fieldLink RX0 50 "TownClocks$Dial" "below" "I") (by decide +kernel)) (fun _ h9 => h9) rfl (tyX0_ok 9 (by decide)) rfl rfl (Nat.le_of_ble_eq_true rfl) rfl dX0_begin_7 (fun H locs hW hS => ?_)
  refine lv_aload_n hx hb dX0_begin_10 rfl (lv_at hl 0 rfl) ?_
  refine lv_iload_n hx hb dX0_begin_11 rfl (lv_at hl 3 rfl) ?_
  refine w_puti (ci := 1) (T := TX0) (ty := .int) hx hb hts hin_TX0 tyX0 tyX0_ok nmX0 hown hK hW hS hk hd (by decide) rfl 10 (by decide) (hts (.fieldLink RX0 44 "TownClocks$Dial" "pays" "I") (by decide +kernel)) (fun _ h9 => h9) rfl (tyX0_ok 10 (by decide)) rfl rfl (Nat.le_of_ble_eq_true rfl) rfl dX0_begin_12 (fun H locs hW hS => ?_)
  refine lv_aload_n hx hb dX0_begin_15 rfl (lv_at hl 0 rfl) ?_
  refine lv_iconst (v := 0) hx hb dX0_begin_16 (by decide) ?_
  refine w_puti (ci := 1) (T := TX0) (ty := .int) hx hb hts hin_TX0 tyX0 tyX0_ok nmX0 hown hK hW hS hk hd (by decide) rfl 11 (by decide) (hts (.fieldLink RX0 41 "TownClocks$Dial" "owed" "I") (by decide +kernel)) (fun _ h9 => h9) rfl (tyX0_ok 11 (by decide)) rfl rfl (Nat.le_of_ble_eq_true rfl) rfl dX0_begin_17 (fun H locs hW hS => ?_)
  exact w_vret hx hb hr hlk hW hS rfl rfl rfl dX0_begin_20
set_option maxHeartbeats 4000000 in
set_option maxRecDepth 100000 in
theorem c_X0_isPaidFor {X : (Nat → Prop) → State → Prop} (hxo : xok X) (l : Launch) (D : va_G) (q : Cq) {dm : List Nat} {kd ln ad : Nat → Nat} (V : Mv) (J : Mj) (R : Mr) (k : Nat) (mv : Int32) (hk : k ∈ dm) (hd : kd k = 1) (hmv : mv = 0 ∨ mv = 1) : CtI X l yX0_isPaidFor wsX0_isPaidFor ({ frames := 0, cells := 0, slots := 0, locals := 0 }) D q dm kd ln ad V J R [.ref (ad k), .int mv] (x_paid V k mv) (V) (J) (R) := by
  refine CtI_of (cc := cX0_isPaidFor) (maxL := 2) (ret := (some .boolean)) (by decide +kernel) rfl (Nat.le_of_ble_eq_true rfl) ?_
  intro p e s m below meth c A hx hb hr hml hts hown hlk hmn hK hW hA hXs ls hl
  have hS : va_S A s.heap s.heap [] := va_S.rf
  have hl : lv_has ls 2 [(0, .ref (ad k)), (1, .int mv)] := hl
  have hin_TX0 : ∀ w ∈ u_ws RX0 TX0 12, w ∈ wsX0_isPaidFor := by decide +kernel
  refine lv_aload_n hx hb dX0_isPaidFor_0 rfl (lv_at hl 0 rfl) ?_
  refine w_get (ci := 1) (T := TX0) hx hb hts hin_TX0 hown hK hW hk hd (by decide) rfl 8 (by decide) (hts (.fieldLink RX0 47 "TownClocks$Dial" "terms" "I") (by decide +kernel)) (fun _ h9 => h9) rfl dX0_isPaidFor_1 ?_
  by_cases c_4_1 : V k 8 = 1
  · refine w_i c_4_1 ?_
    refine lv_tableIn (tgt := 32) hx hb dX0_isPaidFor_4 (by decide) (by decide) (off := 28) (by decide) (by decide) ?_
    refine lv_iconst (v := 1) hx hb dX0_isPaidFor_32 (by decide) ?_
    exact w_zret hx hb hr hlk hW hS (Or.inr rfl) (by first | rfl | (simp only [x_paid, c_4_1, ↓reduceIte]; done) | simp [bz, x_paid, c_4_1]) rfl rfl rfl dX0_isPaidFor_33
  by_cases c_4_2 : V k 8 = 2
  · refine w_i c_4_2 ?_
    refine lv_tableIn (tgt := 34) hx hb dX0_isPaidFor_4 (by decide) (by decide) (off := 30) (by decide) (by decide) ?_
    refine lv_iload_n hx hb dX0_isPaidFor_34 rfl (lv_at hl 1 rfl) ?_
    exact w_zret hx hb hr hlk hW hS hmv (by first | rfl | (simp only [x_paid, c_4_1, c_4_2, ↓reduceIte]; done) | simp [bz, x_paid, c_4_1, c_4_2]) rfl rfl rfl dX0_isPaidFor_35
  by_cases c_4_3 : V k 8 = 3
  · refine w_i c_4_3 ?_
    refine lv_tableIn (tgt := 36) hx hb dX0_isPaidFor_4 (by decide) (by decide) (off := 32) (by decide) (by decide) ?_
    refine lv_aload_n hx hb dX0_isPaidFor_36 rfl (lv_at hl 0 rfl) ?_
    refine w_get (ci := 1) (T := TX0) hx hb hts hin_TX0 hown hK hW hk hd (by decide) rfl 3 (by decide) (hts (.fieldLink RX0 34 "TownClocks$Dial" "late" "I") (by decide +kernel)) (fun _ h9 => h9) rfl dX0_isPaidFor_37 ?_
    refine lv_aload_n hx hb dX0_isPaidFor_40 rfl (lv_at hl 0 rfl) ?_
    refine w_get (ci := 1) (T := TX0) hx hb hts hin_TX0 hown hK hW hk hd (by decide) rfl 9 (by decide) (hts (.fieldLink RX0 50 "TownClocks$Dial" "below" "I") (by decide +kernel)) (fun _ h9 => h9) rfl dX0_isPaidFor_41 ?_
    refine lv_icmp_ge (tgt := 51) hx hb dX0_isPaidFor_44 (by decide) (fun c_44 => ?_) (fun c_44 => ?_)
    · refine lv_iconst (v := 0) hx hb dX0_isPaidFor_51 (by decide) ?_
      exact w_zret hx hb hr hlk hW hS (Or.inl rfl) (by first | rfl | (simp only [x_paid, c_4_1, c_4_2, c_4_3, c_44, ↓reduceIte]; done) | simp [bz, x_paid, c_4_1, c_4_2, c_4_3, c_44]) rfl rfl rfl dX0_isPaidFor_52
    · refine lv_iconst (v := 1) hx hb dX0_isPaidFor_47 (by decide) ?_
      refine lv_goto (tgt := 52) hx hb dX0_isPaidFor_48 (by decide) ?_
      exact w_zret hx hb hr hlk hW hS (Or.inr rfl) (by first | rfl | (simp only [x_paid, c_4_1, c_4_2, c_4_3, c_44, ↓reduceIte]; done) | simp [bz, x_paid, c_4_1, c_4_2, c_4_3, c_44]) rfl rfl rfl dX0_isPaidFor_52
  refine lv_tableOut (tgt := 53) hx hb dX0_isPaidFor_4 (by have h0 := i32_neL c_4_1 (k := 1) (by decide); have h1 := i32_neL c_4_2 (k := 2) (by decide); have h2 := i32_neL c_4_3 (k := 3) (by decide); omega) (by decide) ?_
  refine lv_iconst (v := 0) hx hb dX0_isPaidFor_53 (by decide) ?_
  exact w_zret hx hb hr hlk hW hS (Or.inl rfl) (by first | rfl | (simp only [x_paid, c_4_1, c_4_2, c_4_3, ↓reduceIte]; done) | simp [bz, x_paid, c_4_1, c_4_2, c_4_3]) rfl rfl rfl dX0_isPaidFor_54
