abbrev s_lens : List Nat := [4, 4, 5, 4]
abbrev s_byts : List (List Int32) := [[100, 105, 97, 108], [102, 108, 97, 116], [114, 105, 103, 104, 116], [108, 101, 115, 115]]
def s_len (i : Nat) : Nat := s_lens.getD i 0
def s_ch (i t : Nat) : Int32 := (s_byts.getD i []).getD t 0
theorem s_len5 : ∀ {i : Nat}, i < 4 → s_len i ≤ 5 := by decide
theorem s_ch_c' : ∀ i, i < 4 → ∀ t, t < 5 → ((s_ch i t &&& 255).toUInt32 % 65536).toInt32 = s_ch i t := by decide
theorem s_ch_c {i t : Nat} (h : i < 4) (h2 : t < 5) : ((s_ch i t &&& 255).toUInt32 % 65536).toInt32 = s_ch i t := s_ch_c' i h t h2
theorem s_ch_n2' : ∀ i, i < 4 → ∀ t, t < 5 → narrow .char (.int (s_ch i t)) = .int (s_ch i t) := by decide
theorem s_ch_n2 {i t : Nat} (h : i < 4) (h2 : t < 5) : narrow .char (.int (s_ch i t)) = .int (s_ch i t) := s_ch_n2' i h t h2
theorem s_ch_n {i t : Nat} (h : i < 4) (h2 : t < 5) : narrow .char (.int ((s_ch i t &&& 255).toUInt32 % 65536).toInt32) = .int ((s_ch i t &&& 255).toUInt32 % 65536).toInt32 := by
  rw [s_ch_c h h2]
  exact s_ch_n2 h h2
/-- what the statics and texts are, for a world that doesn't touch them -/
def strX (ad : Nat → Nat) (A : Nat → Prop) (U : State) : Prop :=
  vk_S 4 s_lens s_byts (fun i => ad (50 + i)) (fun i => ad (60 + i)) A U U.heap ∧ va_Z "java/lang/String" "COMPACT_STRINGS" "Z" (.int 1) A U U.heap ∧ va_Zq "jdk/internal/util/Preconditions" "SIOOBE_FORMATTER" "Ljava/util/function/BiFunction;" A U U.heap ∧ va_Z "java/util/ArrayList" "DEFAULTCAPACITY_EMPTY_ELEMENTDATA" "[Ljava/lang/Object;" (.ref (ad 18)) A U U.heap ∧ (vk_R "TownClocks$Reading" 51 "dial" (ad 50) U ∧ vk_R "TownClocks$Reading" 75 "flat" (ad 51) U ∧ vk_R "TownClocks$Reading" 77 "right" (ad 52) U ∧ vk_R "TownClocks$Reading" 79 "less" (ad 53) U) ∧ va_T (.object "java/lang/Object") (ad 18) 0 (fun _ => .null) A U U.heap
theorem str_recv {s : State} {H : Heap} {locs : List Loc} {A : Nat → Prop} {ad : Nat → Nat} {i : Nat} (h : vk_S 4 s_lens s_byts (fun i => ad (50 + i)) (fun i => ad (60 + i)) A s s.heap) (hi : i < 4) (hS : va_S A s.heap H locs) : ∃ cell : Cell, H[ad (50 + i)]? = some cell ∧ cell.vm.isStatics = false ∧ s.vm.findClass "java/lang/String" = some cell.cls := by
  have h2 := vk_recv (i := i) h hi hS
  exact h2
theorem w_tret {p : Program} {l : Launch} {e : Env} {Rm : Room} {s : State} {m : MethodId} {args : Array Value} {below : List Frame} {meth : Method} {c : Code} {H : Heap} {locs : List Loc} {cells slots : Nat} {cc : ByteArray} {pc : Nat} {ls : Array Slot} {A : Nat → Prop} {D : va_G} {q : Cq} {dm : List Nat} {kd ln ad : Nat → Nat} {V V' : Mv} {J J' : Mj} {R R' : Mr} {ty : FieldType} (hx : p.tables.exec = Jvm.exec) (hb : c.code = cc) (hr : meth.sig.returnType = some ty) (hlk : meth.locks = false) (hW : wok A D q dm kd ln ad V J R H) (hS : va_S A s.heap H locs) {v rv : Int32} (hn : narrow ty (.int v) = .int v) (ev : v = rv) (eV : V = V') (eJ : J = J') (eR : R = R') (hdg : decode cc pc = .ok (.ireturn, 1)) : W p l e Rm s m args below meth c H locs cells slots (MQ below (QI rv D q dm kd ln ad V' J' R' A) args s cells slots A) (F0 m pc ls [.int v]) := by
  subst ev eV eJ eR
  exact W.zret hx hb hr hn (fun t ht _ => ⟨⟨v, (), rfl, rfl, by show va_P _ _ _ t.heap; rw [ht]; exact hW.1⟩, hS.F ht⟩) hS.2.2 hdg hlk
def x_nm (B : Nat → Int32) (a i : Nat) : Nat → Nat → Int32
  | 0, _ => 1
  | n + 1, t => if B (a + t) = s_ch i t then x_nm B a i n (t + 1) else 0
def x_isn (V : Mv) (a ee i : Nat) : Int32 := if V 8 2 = 1 then (if nI ee - nI a = nI (s_len i) then x_nm (V 9) a i (s_len i) 0 else 0) else 0
set_option maxHeartbeats 4000000 in
set_option maxRecDepth 100000 in
theorem c_J0_coder_7d493 {X : (Nat → Prop) → State → Prop} (hxo : xok X) (l : Launch) (D : va_G) (q : Cq) {dm : List Nat} {kd ln ad : Nat → Nat} (V : Mv) (J : Mj) (R : Mr) (i : Nat) (hst : ∀ (A : Nat → Prop) (U : State), X A U → strX ad A U) (hi4 : i < 4) : CtI X l yJ0_coder_7d493 wsJ0_coder_7d493 ({ frames := 0, cells := 0, slots := 0, locals := 0 }) D q dm kd ln ad V J R [.ref (ad (50 + i))] (0) (V) (J) (R) := by
  refine CtI_of (cc := cJ0_coder_7d493) (maxL := 1) (ret := (some .byte)) (by decide +kernel) rfl (Nat.le_of_ble_eq_true rfl) ?_
  intro p e s m below meth c A hx hb hr hml hts hown hlk hmn hK hW hA hXs ls hl
  have hS : va_S A s.heap s.heap [] := va_S.rf
  have hl : lv_has ls 1 [(0, .ref (ad (50 + i)))] := hl
  have hSt := hst A s hXs
  refine va_gets hx hb hSt.2.1 hS hown (hts (.fieldLink RJ0 38 "java/lang/String" "COMPACT_STRINGS" "Z") (by decide +kernel)) (fun _ h9 => h9) dJ0_coder_7d493_0 ?_
  refine lv_if_eq (tgt := 13) hx hb dJ0_coder_7d493_3 (by decide) (fun z9 => absurd z9 (by decide)) (fun _ => ?_)
  refine lv_aload_n hx hb dJ0_coder_7d493_6 rfl (lv_at hl 0 rfl) ?_
  refine vk_getf hx hb (hSt.1.1 i hi4).2.1 hS hown (hts (.fieldLink RJ0 15 "java/lang/String" "coder" "B") (by decide +kernel)) (fun _ h9 => h9) dJ0_coder_7d493_7 ?_
  refine lv_goto (tgt := 14) hx hb dJ0_coder_7d493_10 (by decide) ?_
  exact w_tret hx hb hr hlk hW hS (by decide) rfl rfl rfl rfl dJ0_coder_7d493_14
set_option maxHeartbeats 4000000 in
set_option maxRecDepth 100000 in
theorem c_J0_length_8abf5 {X : (Nat → Prop) → State → Prop} (hxo : xok X) (l : Launch) (D : va_G) (q : Cq) {dm : List Nat} {kd ln ad : Nat → Nat} (V : Mv) (J : Mj) (R : Mr) (i : Nat) (hst : ∀ (A : Nat → Prop) (U : State), X A U → strX ad A U) (hi4 : i < 4) : CtI X l yJ0_length_8abf5 wsJ0_length_8abf5 ({ frames := 1, cells := 0, slots := 0, locals := 20 }) D q dm kd ln ad V J R [.ref (ad (50 + i))] (nI (s_len i)) (V) (J) (R) := by
  refine CtI_of (cc := cJ0_length_8abf5) (maxL := 1) (ret := (some .int)) (by decide +kernel) rfl (Nat.le_of_ble_eq_true rfl) ?_
  intro p e s m below meth c A hx hb hr hml hts hown hlk hmn hK hW hA hXs ls hl
  have hS : va_S A s.heap s.heap [] := va_S.rf
  have hl : lv_has ls 1 [(0, .ref (ad (50 + i)))] := hl
  have hSt := hst A s hXs
  refine lv_aload_n hx hb dJ0_length_8abf5_0 rfl (lv_at hl 0 rfl) ?_
  refine vk_getf hx hb (hSt.1.1 i hi4).2.2.1 hS hown (hts (.fieldLink RJ0 9 "java/lang/String" "value" "[B") (by decide +kernel)) (fun _ h9 => h9) dJ0_length_8abf5_1 ?_
  refine va_tlen hx hb (hSt.1.1 i hi4).2.2.2 hS (v := nI (s_len i)) rfl dJ0_length_8abf5_4 ?_
  refine lv_aload_n hx hb dJ0_length_8abf5_5 rfl (lv_at hl 0 rfl) ?_
  refine w_ci (w_runV ⟨hx, hb, hml, hown, hts⟩ (c_J0_coder_7d493 hxo l D q V J R i hst hi4) hxo (cwV 0 hts gJ0_length_8abf5_J0_coder_7d493 rfl rfl rfl (by decide +kernel) ⟨Nat.le_of_ble_eq_true rfl, Nat.le_of_ble_eq_true rfl⟩) hK hW hS hA hXs (str_recv hSt.1 hi4 hS) rfl hl.1 rfl (Nat.le_of_ble_eq_true rfl) dJ0_length_8abf5_6 ⟨Nat.zero_le _, Nat.zero_le _⟩) hW hS hA (fun H locs hW hS => ?_)
  refine lv_ishr hx hb dJ0_length_8abf5_9 ?_
  exact w_iret hx hb hr hlk hW hS (sb_shr0 _) rfl rfl rfl dJ0_length_8abf5_10
set_option maxHeartbeats 4000000 in
set_option maxRecDepth 100000 in
theorem c_J0_isLatin1_aae02 {X : (Nat → Prop) → State → Prop} (hxo : xok X) (l : Launch) (D : va_G) (q : Cq) {dm : List Nat} {kd ln ad : Nat → Nat} (V : Mv) (J : Mj) (R : Mr) (i : Nat) (hst : ∀ (A : Nat → Prop) (U : State), X A U → strX ad A U) (hi4 : i < 4) : CtI X l yJ0_isLatin1_aae02 wsJ0_isLatin1_aae02 ({ frames := 0, cells := 0, slots := 0, locals := 0 }) D q dm kd ln ad V J R [.ref (ad (50 + i))] (1) (V) (J) (R) := by
  refine CtI_of (cc := cJ0_isLatin1_aae02) (maxL := 1) (ret := (some .boolean)) (by decide +kernel) rfl (Nat.le_of_ble_eq_true rfl) ?_
  intro p e s m below meth c A hx hb hr hml hts hown hlk hmn hK hW hA hXs ls hl
  have hS : va_S A s.heap s.heap [] := va_S.rf
  have hl : lv_has ls 1 [(0, .ref (ad (50 + i)))] := hl
  have hSt := hst A s hXs
  refine va_gets hx hb hSt.2.1 hS hown (hts (.fieldLink RJ0 38 "java/lang/String" "COMPACT_STRINGS" "Z") (by decide +kernel)) (fun _ h9 => h9) dJ0_isLatin1_aae02_0 ?_
  refine lv_if_eq (tgt := 17) hx hb dJ0_isLatin1_aae02_3 (by decide) (fun z9 => absurd z9 (by decide)) (fun _ => ?_)
  refine lv_aload_n hx hb dJ0_isLatin1_aae02_6 rfl (lv_at hl 0 rfl) ?_
  refine vk_getf hx hb (hSt.1.1 i hi4).2.1 hS hown (hts (.fieldLink RJ0 15 "java/lang/String" "coder" "B") (by decide +kernel)) (fun _ h9 => h9) dJ0_isLatin1_aae02_7 ?_
  refine lv_if_ne (tgt := 17) hx hb dJ0_isLatin1_aae02_10 (by decide) (fun z9 => absurd z9 (by decide)) (fun _ => ?_)
  refine lv_iconst (v := 1) hx hb dJ0_isLatin1_aae02_13 (by decide) ?_
  refine lv_goto (tgt := 18) hx hb dJ0_isLatin1_aae02_14 (by decide) ?_
  exact w_zret hx hb hr hlk hW hS (Or.inr rfl) rfl rfl rfl rfl dJ0_isLatin1_aae02_18
set_option maxHeartbeats 4000000 in
set_option maxRecDepth 100000 in
theorem c_J3_checkIndex_ref {X : (Nat → Prop) → State → Prop} (hxo : xok X) (l : Launch) (D : va_G) (q : Cq) {dm : List Nat} {kd ln ad : Nat → Nat} (V : Mv) (J : Mj) (R : Mr) (a b : Int32) (b3 : Nat) (h0 : ¬ a < 0) (h1 : a < b) : CtI X l yJ3_checkIndex_8e157 wsJ3_checkIndex_8e157 ({ frames := 0, cells := 0, slots := 0, locals := 0 }) D q dm kd ln ad V J R [.int a, .int b, .ref b3] (a) (V) (J) (R) := by
  refine CtI_of (cc := cJ3_checkIndex_8e157) (maxL := 3) (ret := (some .int)) (by decide +kernel) rfl (Nat.le_of_ble_eq_true rfl) ?_
  intro p e s m below meth c A hx hb hr hml hts hown hlk hmn hK hW hA hXs ls hl
  have hS : va_S A s.heap s.heap [] := va_S.rf
  have hl : lv_has ls 3 [(0, .int a), (1, .int b), (2, .ref b3)] := hl
  refine lv_iload_n hx hb dJ3_checkIndex_8e157_0 rfl (lv_at hl 0 rfl) ?_
  refine lv_if_lt (tgt := 9) hx hb dJ3_checkIndex_8e157_1 (by decide) (fun c_1 => ?_) (fun c_1 => ?_)
  · exact absurd c_1 h0
  · refine lv_iload_n hx hb dJ3_checkIndex_8e157_4 rfl (lv_at hl 0 rfl) ?_
    refine lv_iload_n hx hb dJ3_checkIndex_8e157_5 rfl (lv_at hl 1 rfl) ?_
    refine lv_icmp_lt (tgt := 16) hx hb dJ3_checkIndex_8e157_6 (by decide) (fun c_6 => ?_) (fun c_6 => ?_)
    · refine lv_iload_n hx hb dJ3_checkIndex_8e157_16 rfl (lv_at hl 0 rfl) ?_
      exact w_iret hx hb hr hlk hW hS rfl rfl rfl rfl dJ3_checkIndex_8e157_17
    · exact absurd h1 c_6
set_option maxHeartbeats 4000000 in
set_option maxRecDepth 100000 in
theorem c_J0_checkIndex_df160 {X : (Nat → Prop) → State → Prop} (hxo : xok X) (l : Launch) (D : va_G) (q : Cq) {dm : List Nat} {kd ln ad : Nat → Nat} (V : Mv) (J : Mj) (R : Mr) (a b : Int32) (hst : ∀ (A : Nat → Prop) (U : State), X A U → strX ad A U) (h0 : ¬ a < 0) (h1 : a < b) : CtV X l yJ0_checkIndex_df160 wsJ0_checkIndex_df160 ({ frames := 1, cells := 0, slots := 0, locals := 22 }) D q dm kd ln ad V J R [.int a, .int b] (V) (J) (R) := by
  refine CtV_of (cc := cJ0_checkIndex_df160) (maxL := 2) (ret := none) (by decide +kernel) rfl (Nat.le_of_ble_eq_true rfl) ?_
  intro p e s m below meth c A hx hb hr hml hts hown hlk hmn hK hW hA hXs ls hl
  have hS : va_S A s.heap s.heap [] := va_S.rf
  have hl : lv_has ls 2 [(0, .int a), (1, .int b)] := hl
  have hSt := hst A s hXs
  refine lv_iload_n hx hb dJ0_checkIndex_df160_0 rfl (lv_at hl 0 rfl) ?_
  refine lv_iload_n hx hb dJ0_checkIndex_df160_1 rfl (lv_at hl 1 rfl) ?_
  rcases hSt.2.2.1 with hz | ⟨t9, hz⟩
  · refine va_gets hx hb hz hS hown (hts (.fieldLink RJ0 1053 "jdk/internal/util/Preconditions" "SIOOBE_FORMATTER" "Ljava/util/function/BiFunction;") (by decide +kernel)) (fun _ h9 => h9) dJ0_checkIndex_df160_2 ?_
    refine w_ci (w_runS ⟨hx, hb, hml, hown, hts⟩ (c_J3_checkIndex_8e157 hxo l D q V J R a b h0 h1) hxo (va_cwS 3 hts gJ0_checkIndex_df160_J3_checkIndex_8e157 rfl rfl rfl (by decide +kernel) ⟨Nat.le_of_ble_eq_true rfl, Nat.le_of_ble_eq_true rfl⟩) hK hW hS hA hXs rfl hl.1 rfl (Nat.le_of_ble_eq_true rfl) dJ0_checkIndex_df160_5 ⟨Nat.zero_le _, Nat.zero_le _⟩) hW hS hA (fun H locs hW hS => ?_)
    refine lv_pop hx hb dJ0_checkIndex_df160_8 rfl ?_
    exact w_vret hx hb hr hlk hW hS rfl rfl rfl dJ0_checkIndex_df160_9
  · refine va_gets hx hb hz hS hown (hts (.fieldLink RJ0 1053 "jdk/internal/util/Preconditions" "SIOOBE_FORMATTER" "Ljava/util/function/BiFunction;") (by decide +kernel)) (fun _ h9 => h9) dJ0_checkIndex_df160_2 ?_
    refine w_ci (w_runS ⟨hx, hb, hml, hown, hts⟩ (c_J3_checkIndex_ref hxo l D q V J R a b t9 h0 h1) hxo (va_cwS 3 hts gJ0_checkIndex_df160_J3_checkIndex_8e157 rfl rfl rfl (by decide +kernel) ⟨Nat.le_of_ble_eq_true rfl, Nat.le_of_ble_eq_true rfl⟩) hK hW hS hA hXs rfl hl.1 rfl (Nat.le_of_ble_eq_true rfl) dJ0_checkIndex_df160_5 ⟨Nat.zero_le _, Nat.zero_le _⟩) hW hS hA (fun H locs hW hS => ?_)
    refine lv_pop hx hb dJ0_checkIndex_df160_8 rfl ?_
    exact w_vret hx hb hr hlk hW hS rfl rfl rfl dJ0_checkIndex_df160_9
set_option maxHeartbeats 4000000 in
set_option maxRecDepth 100000 in
theorem c_J1_charAt_3b067 {X : (Nat → Prop) → State → Prop} (hxo : xok X) (l : Launch) (D : va_G) (q : Cq) {dm : List Nat} {kd ln ad : Nat → Nat} (V : Mv) (J : Mj) (R : Mr) (i t : Nat) (hst : ∀ (A : Nat → Prop) (U : State), X A U → strX ad A U) (hi4 : i < 4) (ht : t < s_len i) : CtI X l yJ1_charAt_3b067 wsJ1_charAt_3b067 ({ frames := 2, cells := 0, slots := 0, locals := 43 }) D q dm kd ln ad V J R [.ref (ad (60 + i)), .int (nI t)] (s_ch i t) (V) (J) (R) := by
  refine CtI_of (cc := cJ1_charAt_3b067) (maxL := 2) (ret := (some .char)) (by decide +kernel) rfl (Nat.le_of_ble_eq_true rfl) ?_
  intro p e s m below meth c A hx hb hr hml hts hown hlk hmn hK hW hA hXs ls hl
  have hS : va_S A s.heap s.heap [] := va_S.rf
  have hl : lv_has ls 2 [(0, .ref (ad (60 + i))), (1, .int (nI t))] := hl
  have hSt := hst A s hXs
  have ht5 := s_len5 hi4
  refine lv_iload_n hx hb dJ1_charAt_3b067_0 rfl (lv_at hl 1 rfl) ?_
  refine lv_aload_n hx hb dJ1_charAt_3b067_1 rfl (lv_at hl 0 rfl) ?_
  refine va_tlen hx hb (hSt.1.1 i hi4).2.2.2 hS (v := nI (s_len i)) rfl dJ1_charAt_3b067_2 ?_
  refine w_cv (w_runS ⟨hx, hb, hml, hown, hts⟩ (c_J0_checkIndex_df160 hxo l D q V J R (nI t) (nI (s_len i)) hst (nI_pos (by omega)) (nI_lt ht (by omega))) hxo (va_cwS 2 hts gJ1_charAt_3b067_J0_checkIndex_df160 rfl rfl rfl (by decide +kernel) ⟨Nat.le_of_ble_eq_true rfl, Nat.le_of_ble_eq_true rfl⟩) hK hW hS hA hXs rfl hl.1 rfl (Nat.le_of_ble_eq_true rfl) dJ1_charAt_3b067_3 ⟨Nat.zero_le _, Nat.zero_le _⟩) hW hS hA (fun H locs hW hS => ?_)
  refine lv_aload_n hx hb dJ1_charAt_3b067_6 rfl (lv_at hl 0 rfl) ?_
  refine lv_iload_n hx hb dJ1_charAt_3b067_7 rfl (lv_at hl 1 rfl) ?_
  refine va_tb hx hb (hSt.1.1 i hi4).2.2.2 hS (inx_v.mpr (inx_n (show t < s_lens.getD i 0 from ht) (show s_len i < 2147483648 from by omega))) (v := .int (s_ch i t)) (by rw [nI_clamp (by omega)]; rfl) dJ1_charAt_3b067_8 ?_
  refine lv_sipush (v := 255) hx hb dJ1_charAt_3b067_9 (by decide) ?_
  refine lv_iand hx hb dJ1_charAt_3b067_12 ?_
  refine lv_i2c hx hb dJ1_charAt_3b067_13 rfl ?_
  exact w_tret hx hb hr hlk hW hS (s_ch_n hi4 (by omega)) (s_ch_c hi4 (by omega)) rfl rfl rfl dJ1_charAt_3b067_14
set_option maxHeartbeats 4000000 in
set_option maxRecDepth 100000 in
theorem c_J0_charAt_5068e {X : (Nat → Prop) → State → Prop} (hxo : xok X) (l : Launch) (D : va_G) (q : Cq) {dm : List Nat} {kd ln ad : Nat → Nat} (V : Mv) (J : Mj) (R : Mr) (i t : Nat) (hst : ∀ (A : Nat → Prop) (U : State), X A U → strX ad A U) (hi4 : i < 4) (ht : t < s_len i) : CtI X l yJ0_charAt_5068e wsJ0_charAt_5068e ({ frames := 3, cells := 0, slots := 0, locals := 64 }) D q dm kd ln ad V J R [.ref (ad (50 + i)), .int (nI t)] (s_ch i t) (V) (J) (R) := by
  refine CtI_of (cc := cJ0_charAt_5068e) (maxL := 2) (ret := (some .char)) (by decide +kernel) rfl (Nat.le_of_ble_eq_true rfl) ?_
  intro p e s m below meth c A hx hb hr hml hts hown hlk hmn hK hW hA hXs ls hl
  have hS : va_S A s.heap s.heap [] := va_S.rf
  have hl : lv_has ls 2 [(0, .ref (ad (50 + i))), (1, .int (nI t))] := hl
  have hSt := hst A s hXs
  have ht5 := s_len5 hi4
  refine lv_aload_n hx hb dJ0_charAt_5068e_0 rfl (lv_at hl 0 rfl) ?_
  refine w_ci (w_runV ⟨hx, hb, hml, hown, hts⟩ (c_J0_isLatin1_aae02 hxo l D q V J R i hst hi4) hxo (cwV 0 hts gJ0_charAt_5068e_J0_isLatin1_aae02 rfl rfl rfl (by decide +kernel) ⟨Nat.le_of_ble_eq_true rfl, Nat.le_of_ble_eq_true rfl⟩) hK hW hS hA hXs (str_recv hSt.1 hi4 hS) rfl hl.1 rfl (Nat.le_of_ble_eq_true rfl) dJ0_charAt_5068e_1 ⟨Nat.zero_le _, Nat.zero_le _⟩) hW hS hA (fun H locs hW hS => ?_)
  refine lv_if_eq (tgt := 16) hx hb dJ0_charAt_5068e_4 (by decide) (fun z9 => absurd z9 (by decide)) (fun _ => ?_)
  refine lv_aload_n hx hb dJ0_charAt_5068e_7 rfl (lv_at hl 0 rfl) ?_
  refine vk_getf hx hb (hSt.1.1 i hi4).2.2.1 hS hown (hts (.fieldLink RJ0 9 "java/lang/String" "value" "[B") (by decide +kernel)) (fun _ h9 => h9) dJ0_charAt_5068e_8 ?_
  refine lv_iload_n hx hb dJ0_charAt_5068e_11 rfl (lv_at hl 1 rfl) ?_
  refine w_ci (w_runS ⟨hx, hb, hml, hown, hts⟩ (c_J1_charAt_3b067 hxo l D q V J R i t hst hi4 ht) hxo (va_cwS 2 hts gJ0_charAt_5068e_J1_charAt_3b067 rfl rfl rfl (by decide +kernel) ⟨Nat.le_of_ble_eq_true rfl, Nat.le_of_ble_eq_true rfl⟩) hK hW hS hA hXs rfl hl.1 rfl (Nat.le_of_ble_eq_true rfl) dJ0_charAt_5068e_12 ⟨Nat.zero_le _, Nat.zero_le _⟩) hW hS hA (fun H locs hW hS => ?_)
  exact w_tret hx hb hr hlk hW hS (s_ch_n2 hi4 (by omega)) rfl rfl rfl rfl dJ0_charAt_5068e_15
set_option maxHeartbeats 4000000 in
set_option maxRecDepth 100000 in
theorem c_X5_isName {X : (Nat → Prop) → State → Prop} (hxo : xok X) (l : Launch) (D : va_G) (q : Cq) {dm : List Nat} {kd ln ad : Nat → Nat} (V : Mv) (J : Mj) (R : Mr) (nP nD a ee i : Nat) (hX : okX dm kd ln R nP nD) (ha : V 8 3 = nI a) (he : V 8 4 = nI ee) (hae : a ≤ ee) (he3 : ee ≤ 300) (hst : ∀ (A : Nat → Prop) (U : State), X A U → strX ad A U) (hi4 : i < 4) : CtI X l yX5_isName wsX5_isName ({ frames := 4, cells := 0, slots := 0, locals := 85 }) D q dm kd ln ad V J R [.ref (ad 8), .ref (ad (50 + i))] (x_isn V a ee i) (V) (J) (R) := by
  refine CtI_of (cc := cX5_isName) (maxL := 3) (ret := (some .boolean)) (by decide +kernel) rfl (Nat.le_of_ble_eq_true rfl) ?_
  intro p e s m below meth c A hx hb hr hml hts hown hlk hmn hK hW hA hXs ls hl
  have hS : va_S A s.heap s.heap [] := va_S.rf
  have hl : lv_has ls 3 [(0, .ref (ad 8)), (1, .ref (ad (50 + i)))] := hl
  have hin_TX5 : ∀ w ∈ u_ws RX5 TX5 5, w ∈ wsX5_isName := by decide +kernel
  have hSt := hst A s hXs
  have ht5 := s_len5 hi4
  obtain ⟨RV, hRV⟩ : ∃ r, r = x_nm (V 9) a i (s_len i) 0 := ⟨_, rfl⟩
  have JL : ∀ n : Nat, ∀ (t : Nat) (hn : t + n = s_len i) (hF : x_nm (V 9) a i n t = RV) (hc5 : V 8 2 = 1) (hc21 : nI ee - nI a = nI (s_len i)) (H : Heap) (locs : List Loc) (ls : Array Slot), wok A D q dm kd ln ad V J R H → va_S A s.heap H locs → lv_has ls 3 [(0, .ref (ad 8)), (1, .ref (ad (50 + i))), (2, .int (nI t))] → W p l e ({ frames := 4, cells := 0, slots := 0, locals := 85 }) s m ([.ref (ad 8), .ref (ad (50 + i))] : List Value).toArray below meth c H locs 0 0 (MQ below (QI (x_isn V a ee i) D q dm kd ln ad (V) (J) (R) A) ([.ref (ad 8), .ref (ad (50 + i))] : List Value).toArray s 0 0 A) (F0 m 28 ls []) := by
    intro n
    induction n with
    | zero =>
      intro t hn hF hc5 hc21 H locs ls hW hS hl
      refine lv_iload_n hx hb dX5_isName_28 rfl (lv_at hl 2 rfl) ?_
      refine lv_aload_n hx hb dX5_isName_29 rfl (lv_at hl 1 rfl) ?_
      refine w_ci (w_runV ⟨hx, hb, hml, hown, hts⟩ (c_J0_length_8abf5 hxo l D q V J R i hst hi4) hxo (cwV 0 hts gX5_isName_J0_length_8abf5 rfl rfl rfl (by decide +kernel) ⟨Nat.le_of_ble_eq_true rfl, Nat.le_of_ble_eq_true rfl⟩) hK hW hS hA hXs (str_recv hSt.1 hi4 hS) rfl hl.1 rfl (Nat.le_of_ble_eq_true rfl) dX5_isName_30 ⟨Nat.zero_le _, Nat.zero_le _⟩) hW hS hA (fun H locs hW hS => ?_)
      refine lv_icmp_ge (tgt := 63) hx hb dX5_isName_33 (by decide) (fun c_33 => ?_) (fun c_33 => ?_)
      · refine lv_iconst (v := 1) hx hb dX5_isName_63 (by decide) ?_
        exact w_zret hx hb hr hlk hW hS (Or.inr rfl) (by rw [x_isn, if_pos hc5, if_pos hc21, ← hRV, ← hF]; rfl) rfl rfl rfl dX5_isName_64
      · exact absurd (nI_le (by omega) (by omega)) c_33
    | succ n ih =>
      intro t hn hF hc5 hc21 H locs ls hW hS hl
      have hee : a + s_len i = ee := by rw [pk_sub hae] at hc21; have := (nI_eq (by omega) (by omega)).mp hc21; omega
      refine lv_iload_n hx hb dX5_isName_28 rfl (lv_at hl 2 rfl) ?_
      refine lv_aload_n hx hb dX5_isName_29 rfl (lv_at hl 1 rfl) ?_
      refine w_ci (w_runV ⟨hx, hb, hml, hown, hts⟩ (c_J0_length_8abf5 hxo l D q V J R i hst hi4) hxo (cwV 0 hts gX5_isName_J0_length_8abf5 rfl rfl rfl (by decide +kernel) ⟨Nat.le_of_ble_eq_true rfl, Nat.le_of_ble_eq_true rfl⟩) hK hW hS hA hXs (str_recv hSt.1 hi4 hS) rfl hl.1 rfl (Nat.le_of_ble_eq_true rfl) dX5_isName_30 ⟨Nat.zero_le _, Nat.zero_le _⟩) hW hS hA (fun H locs hW hS => ?_)
      refine lv_icmp_ge (tgt := 63) hx hb dX5_isName_33 (by decide) (fun c_33 => ?_) (fun c_33 => ?_)
      · exact absurd c_33 (nI_ge (by omega) (by omega))
      · refine lv_aload_n hx hb dX5_isName_36 rfl (lv_at hl 0 rfl) ?_
        refine w_getr (ci := 6) (T := TX5) hx hb hts hin_TX5 hown hK hW (hX.1 8 (by decide)).1 (hX.1 8 (by decide)).2.1 (by decide) rfl 0 (by decide) (hts (.fieldLink RX5 9 "TownClocks$Tape" "bytes" "[B") (by decide +kernel)) (fun _ h9 => h9) rfl ((hX.1 8 (by decide)).2.2.2 0 9 rfl) dX5_isName_37 ?_
        refine lv_aload_n hx hb dX5_isName_40 rfl (lv_at hl 0 rfl) ?_
        refine w_get (ci := 6) (T := TX5) hx hb hts hin_TX5 hown hK hW (hX.1 8 (by decide)).1 (hX.1 8 (by decide)).2.1 (by decide) rfl 3 (by decide) (hts (.fieldLink RX5 22 "TownClocks$Tape" "first" "I") (by decide +kernel)) (fun _ h9 => h9) rfl dX5_isName_41 ?_
        refine w_i ha ?_
        refine lv_iload_n hx hb dX5_isName_44 rfl (lv_at hl 2 rfl) ?_
        refine lv_iadd hx hb dX5_isName_45 ?_
        refine w_i (nI_add a t) ?_
        refine w_baldN (t := a + t) hx hb hK hW (hX.1 9 (by decide)).1 (hX.1 9 (by decide)).2.1 ⟨by rw [(show ln 9 = 300 from (hX.1 9 (by decide)).2.2.1)]; omega, by omega⟩ dX5_isName_46 ?_
        refine lv_aload_n hx hb dX5_isName_47 rfl (lv_at hl 1 rfl) ?_
        refine lv_iload_n hx hb dX5_isName_48 rfl (lv_at hl 2 rfl) ?_
        refine w_ci (w_runV ⟨hx, hb, hml, hown, hts⟩ (c_J0_charAt_5068e hxo l D q V J R i t hst hi4 (by omega)) hxo (cwV 1 hts gX5_isName_J0_charAt_5068e rfl rfl rfl (by decide +kernel) ⟨Nat.le_of_ble_eq_true rfl, Nat.le_of_ble_eq_true rfl⟩) hK hW hS hA hXs (str_recv hSt.1 hi4 hS) rfl hl.1 rfl (Nat.le_of_ble_eq_true rfl) dX5_isName_49 ⟨Nat.zero_le _, Nat.zero_le _⟩) hW hS hA (fun H locs hW hS => ?_)
        refine lv_icmp_eq (tgt := 57) hx hb dX5_isName_52 (by decide) (fun c_52 => ?_) (fun c_52 => ?_)
        · refine lv_iinc (v := nI (t + 1)) (lv' := [(2, .int (nI (t + 1))), (0, .ref (ad 8)), (1, .ref (ad (50 + i)))]) hx hb dX5_isName_57 hl (k := 2) rfl (by rw [show Int32.ofInt 1 = 1 from by decide]; exact nI_1 _) (by decide) rfl (fun ls hl => ?_)
          refine lv_goto (tgt := 28) hx hb dX5_isName_60 (by decide) ?_
          exact ih (t + 1) (by omega) (by have h := hF; simp only [x_nm, if_pos c_52] at h; exact h) hc5 hc21 _ _ _ hW hS (lv_sub hl [1, 2, 0] rfl)
        · refine lv_iconst (v := 0) hx hb dX5_isName_55 (by decide) ?_
          exact w_zret hx hb hr hlk hW hS (Or.inl rfl) (by rw [x_isn, if_pos hc5, if_pos hc21, ← hRV, ← hF]; simp only [x_nm, if_neg c_52]) rfl rfl rfl dX5_isName_56
  refine lv_aload_n hx hb dX5_isName_0 rfl (lv_at hl 0 rfl) ?_
  refine w_get (ci := 6) (T := TX5) hx hb hts hin_TX5 hown hK hW (hX.1 8 (by decide)).1 (hX.1 8 (by decide)).2.1 (by decide) rfl 2 (by decide) (hts (.fieldLink RX5 29 "TownClocks$Tape" "sort" "I") (by decide +kernel)) (fun _ h9 => h9) rfl dX5_isName_1 ?_
  refine lv_iconst (v := 1) hx hb dX5_isName_4 (by decide) ?_
  refine lv_icmp_ne (tgt := 24) hx hb dX5_isName_5 (by decide) (fun c_5 => ?_) (fun c_5 => ?_)
  · refine lv_iconst (v := 0) hx hb dX5_isName_24 (by decide) ?_
    exact w_zret hx hb hr hlk hW hS (Or.inl rfl) (by rw [x_isn, if_neg c_5]) rfl rfl rfl dX5_isName_25
  · refine lv_aload_n hx hb dX5_isName_8 rfl (lv_at hl 0 rfl) ?_
    refine w_get (ci := 6) (T := TX5) hx hb hts hin_TX5 hown hK hW (hX.1 8 (by decide)).1 (hX.1 8 (by decide)).2.1 (by decide) rfl 4 (by decide) (hts (.fieldLink RX5 19 "TownClocks$Tape" "behind" "I") (by decide +kernel)) (fun _ h9 => h9) rfl dX5_isName_9 ?_
    refine lv_aload_n hx hb dX5_isName_12 rfl (lv_at hl 0 rfl) ?_
    refine w_get (ci := 6) (T := TX5) hx hb hts hin_TX5 hown hK hW (hX.1 8 (by decide)).1 (hX.1 8 (by decide)).2.1 (by decide) rfl 3 (by decide) (hts (.fieldLink RX5 22 "TownClocks$Tape" "first" "I") (by decide +kernel)) (fun _ h9 => h9) rfl dX5_isName_13 ?_
    refine lv_isub hx hb dX5_isName_16 ?_
    refine lv_aload_n hx hb dX5_isName_17 rfl (lv_at hl 1 rfl) ?_
    refine w_ci (w_runV ⟨hx, hb, hml, hown, hts⟩ (c_J0_length_8abf5 hxo l D q V J R i hst hi4) hxo (cwV 0 hts gX5_isName_J0_length_8abf5 rfl rfl rfl (by decide +kernel) ⟨Nat.le_of_ble_eq_true rfl, Nat.le_of_ble_eq_true rfl⟩) hK hW hS hA hXs (str_recv hSt.1 hi4 hS) rfl hl.1 rfl (Nat.le_of_ble_eq_true rfl) dX5_isName_18 ⟨Nat.zero_le _, Nat.zero_le _⟩) hW hS hA (fun H locs hW hS => ?_)
    refine lv_icmp_eq (tgt := 26) hx hb dX5_isName_21 (by decide) (fun c_21 => ?_) (fun c_21 => ?_)
    · refine lv_iconst (v := 0) hx hb dX5_isName_26 (by decide) ?_
      refine lv_istore_n (lv' := [(2, .int 0), (0, .ref (ad 8)), (1, .ref (ad (50 + i)))]) hx hb dX5_isName_27 rfl hl (by decide) rfl (fun ls hl => ?_)
      exact JL (s_len i) 0 (by omega) hRV.symm c_5 (by rw [← he, ← ha]; exact c_21) _ _ _ hW hS (lv_sub hl [1, 2, 0] rfl)
    · refine lv_iconst (v := 0) hx hb dX5_isName_24 (by decide) ?_
      exact w_zret hx hb hr hlk hW hS (Or.inl rfl) (by rw [x_isn, if_pos c_5, if_neg (by rw [← he, ← ha]; exact c_21)]) rfl rfl rfl dX5_isName_25
