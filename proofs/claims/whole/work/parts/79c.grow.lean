set_option maxHeartbeats 4000000 in
set_option maxRecDepth 100000 in
theorem c_J8_newLength_cabcc {X : (Nat → Prop) → State → Prop} (hxo : xok X) (l : Launch) (D : va_G) (q : Cq) {dm : List Nat} {kd ln ad : Nat → Nat} (V : Mv) (J : Mj) (R : Mr) (a b d : Int32) (h0 : ¬ a + (if b < d then d else b) ≤ 0) (h1 : ¬ 2147483639 < a + (if b < d then d else b)) : CtI X l yJ8_newLength_cabcc wsJ8_newLength_cabcc ({ frames := 1, cells := 0, slots := 0, locals := 23 }) D q dm kd ln ad V J R [.int a, .int b, .int d] (a + (if b < d then d else b)) (V) (J) (R) := by
  refine CtI_of (cc := cJ8_newLength_cabcc) (maxL := 4) (ret := (some .int)) (by decide +kernel) rfl (Nat.le_of_ble_eq_true rfl) ?_
  intro p e s m below meth c A hx hb hr hml hts hown hlk hmn hK hW hA hXs ls hl
  have hS : va_S A s.heap s.heap [] := va_S.rf
  have hl : lv_has ls 4 [(0, .int a), (1, .int b), (2, .int d)] := hl
  refine lv_iload_n hx hb dJ8_newLength_cabcc_0 rfl (lv_at hl 0 rfl) ?_
  refine lv_iload_n hx hb dJ8_newLength_cabcc_1 rfl (lv_at hl 1 rfl) ?_
  refine lv_iload_n hx hb dJ8_newLength_cabcc_2 rfl (lv_at hl 2 rfl) ?_
  refine va_mmax hx hb (by rw [hml]; exact hl.1.symm) hown (hts (.methodLink RJ8 194 Lib.Math.max.name) (by decide +kernel)) (hts (.static Lib.Math.max.name) (by decide +kernel)) (hts (.initialized "java/lang/Math") (by decide +kernel)) (hts (.code Lib.Math.max.name Lib.Math.max.code 2 (some .int)) (by decide +kernel)) (Nat.le_of_ble_eq_true rfl) (Nat.le_of_ble_eq_true rfl) (Nat.zero_le _) (Nat.zero_le _) dJ8_newLength_cabcc_3 ?_
  refine lv_iadd hx hb dJ8_newLength_cabcc_6 ?_
  refine lv_istore_n (lv' := [(3, .int (a + (if b < d then d else b))), (0, .int a), (1, .int b), (2, .int d)]) hx hb dJ8_newLength_cabcc_7 rfl hl (by decide) rfl (fun ls hl => ?_)
  refine lv_iconst (v := 0) hx hb dJ8_newLength_cabcc_8 (by decide) ?_
  refine lv_iload_n hx hb dJ8_newLength_cabcc_9 rfl (lv_at hl 0 rfl) ?_
  refine lv_icmp_ge (tgt := 21) hx hb dJ8_newLength_cabcc_10 (by decide) (fun c_10 => ?_) (fun c_10 => ?_)
  · exact absurd c_10 h0
  · refine lv_iload_n hx hb dJ8_newLength_cabcc_13 rfl (lv_at hl 0 rfl) ?_
    refine lv_ldc (v := 2147483639) hx hb hown (hts (.constant RJ8 200 (2147483639)) (by decide +kernel)) dJ8_newLength_cabcc_14 ?_
    refine lv_icmp_gt (tgt := 21) hx hb dJ8_newLength_cabcc_16 (by decide) (fun c_16 => ?_) (fun c_16 => ?_)
    · exact absurd c_16 h1
    · refine lv_iload_n hx hb dJ8_newLength_cabcc_19 rfl (lv_at hl 0 rfl) ?_
      exact w_iret hx hb hr hlk hW hS rfl rfl rfl rfl dJ8_newLength_cabcc_20
set_option maxHeartbeats 4000000 in
set_option maxRecDepth 100000 in
theorem c_J7_copyOf_6403c {X : (Nat → Prop) → State → Prop} (hxo : xok X) (l : Launch) (D : va_G) (q : Cq) {dm : List Nat} {kd ln adS : Nat → Nat} (V : Mv) (J : Mj) (R : Mr) (k N : Nat) (mi ci : Nat) (C : String) (T : u_T) (nn : Nat) (hk : k ∈ dm) (hd : kd k = 13) (hn19 : 19 ∉ dm) (hrc : rcl dm R) (hz19 : zat V J R 19) (hK19 : kd 19 = 13) (hN19 : ln 19 = N) (hN : N ≤ 100) (hkN : ln k ≤ N) (hem : ∀ i, ln k ≤ i → R k i = none) (hel : ∀ i t, R k i = some t → t ∈ dm ∧ kd t = ci) (hci : ci < 10) (hc : vwCl[ci]? = some (C, T, nn)) (hca : ∀ (A : Nat → Prop) (U : State), X A U → va_Nw (.castable C "java/lang/Object") U) (hal : ∀ (A : Nat → Prop) (U : State), X A U → alX mi U) : CtX X l yJ7_copyOf_6403c wsJ7_copyOf_6403c ({ frames := 1, cells := 1, slots := 100, locals := 40 }) D q dm kd ln adS V J R [.ref (adS k), .int (nI N), .ref mi] (QGq (some 19) (fun k => k = 19) adS D q (dm ++ [19]) kd (ln) (V) (J) (va_up R 19 (R k))) 1 100 := by
  refine CtX_of (cc := cJ7_copyOf_6403c) (maxL := 4) (ret := (some (.array (.object "java/lang/Object")))) (by decide +kernel) rfl (Nat.le_of_ble_eq_true rfl) ?_
  intro p e s m args below meth c A hx hb hr hml hts hown hlk hmn hK hW hA hXs ls hl
  have hS : va_S A s.heap s.heap [] := va_S.rf
  obtain ⟨ad, had⟩ : ∃ a : Nat → Nat, a = adS := ⟨_, rfl⟩
  have hqa : ∀ k, ¬ (k = 19) → ad k = adS k := fun k _ => by rw [had]
  rw [← had] at hW
  have hl : lv_has ls 4 [(0, .ref (ad k)), (1, .int (nI N)), (2, .ref mi)] := by rw [had]; exact hl
  have hAl := hal A s hXs
  have hkne : k ≠ 19 := fun e => hn19 (by rw [← e]; exact hk)
  refine lv_aload_n hx hb dJ7_copyOf_6403c_0 rfl (lv_at hl 2 rfl) ?_
  refine va_ldcM hx hb hown (hts (.classLink RJ7 110 "[Ljava/lang/Object;") (by decide +kernel)) hAl.2.1 dJ7_copyOf_6403c_1 ?_
  refine lv_acmp_ne (tgt := 13) (rx := some mi) (ry := some mi) hx hb dJ7_copyOf_6403c_3 (by decide) (fun z => absurd rfl z) (fun _ => ?_)
  refine lv_iload_n hx hb dJ7_copyOf_6403c_6 rfl (lv_at hl 1 rfl) ?_
  refine w_newq (k := 19) (N := N) hx hb hown (hts (.classLink RJ7 2 "java/lang/Object") (by decide +kernel)) hAl.1 hK hW hS hA hn19 (rcl_rf hrc hn19 (by decide)) hz19 hK19 hN19 rfl (by omega) (Nat.le_of_ble_eq_true rfl) (by show 0 + N ≤ 100; omega) dJ7_copyOf_6403c_7 (fun ad H hq hW hS => ?_)
  have hl : lv_has ls 4 [(0, .ref (ad k)), (1, .int (nI N)), (2, .ref mi)] := by rw [hq k hkne]; exact hl
  have hqa : ∀ k, ¬ (k = 19) → ad k = adS k := fun k hk => (hq k (fun e => hk (by omega))).trans (hqa k hk)
  have hk := mem_l (k := 19) hk
  have hk9 : 19 ∈ dm ++ [19] := mem_r
  refine W.widen (k := 1) (n := 100) (by omega) (by omega) ?_
  refine lv_goto (tgt := 24) hx hb dJ7_copyOf_6403c_10 (by decide) ?_
  refine lv_astore_n (lv' := [(3, .ref (ad 19)), (0, .ref (ad k)), (1, .int (nI N)), (2, .ref mi)]) hx hb dJ7_copyOf_6403c_24 rfl hl (by decide) rfl (fun ls hl => ?_)
  refine lv_aload_n hx hb dJ7_copyOf_6403c_25 rfl (lv_at hl 1 rfl) ?_
  refine lv_iconst (v := 0) hx hb dJ7_copyOf_6403c_26 (by decide) ?_
  refine lv_aload_n hx hb dJ7_copyOf_6403c_27 rfl (lv_at hl 0 rfl) ?_
  refine lv_iconst (v := 0) hx hb dJ7_copyOf_6403c_28 (by decide) ?_
  refine lv_aload_n hx hb dJ7_copyOf_6403c_29 rfl (lv_at hl 1 rfl) ?_
  refine w_alenq hx hb hK hW hk hd rfl dJ7_copyOf_6403c_30 ?_
  refine lv_iload_n hx hb dJ7_copyOf_6403c_31 rfl (lv_at hl 2 rfl) ?_
  refine va_mmin hx hb (by rw [hml]; exact hl.1.symm) hown (hts (.methodLink RJ7 304 Lib.Math.min.name) (by decide +kernel)) (hts (.static Lib.Math.min.name) (by decide +kernel)) (hts (.initialized "java/lang/Math") (by decide +kernel)) (hts (.code Lib.Math.min.name Lib.Math.min.code 2 (some .int)) (by decide +kernel)) (Nat.le_of_ble_eq_true rfl) (Nat.le_of_ble_eq_true rfl) (Nat.le_of_ble_eq_true rfl) (Nat.le_of_ble_eq_true rfl) dJ7_copyOf_6403c_32 ?_
  refine w_i (y := nI (ln k)) (if_neg (fun z => absurd ((nI_ltI (by omega) (by omega)).mp z) (by omega))) ?_
  refine w_copyq (k := k) (k2 := 19) (ci := ci) hx hb (by rw [hml]; exact hl.1.symm) hown (hts (.methodLink RJ7 150 arraycopyName) (by decide +kernel)) (hts (.native arraycopyName) (by decide +kernel)) (hts (.static arraycopyName) (by decide +kernel)) (hts (.initialized "java/lang/System") (by decide +kernel)) hK hW hS hk hd hk9 hK19 hci hc (hca A s hXs) (by decide) (by decide) (nI_nn (by omega)) (by rw [nI_clamp (by omega)]; show 0 + _ ≤ _; omega) (by rw [nI_clamp (by omega), hN19]; show 0 + _ ≤ _; omega) (fun i t h => ⟨mem_l (hel i t h).1, (hel i t h).2⟩) (Nat.le_of_ble_eq_true rfl) (by decide +kernel) dJ7_copyOf_6403c_35 (fun H locs hW hS => ?_)
  rw [show va_cpy (R k) (R 19) (0 : Int32).toNatClampNeg (0 : Int32).toNatClampNeg (nI (ln k)).toNatClampNeg = R k by rw [hz19.2.2, nI_clamp (by omega)]; exact cpy_none hem] at hW
  refine lv_aload_n hx hb dJ7_copyOf_6403c_38 rfl (lv_at hl 0 rfl) ?_
  exact w_qretG hx hb hr (Or.inr ⟨_, rfl⟩) hlk hW hS (o := some 19) rfl hqa dJ7_copyOf_6403c_39
set_option maxHeartbeats 4000000 in
set_option maxRecDepth 100000 in
theorem c_J7_copyOf_1904c {X : (Nat → Prop) → State → Prop} (hxo : xok X) (l : Launch) (D : va_G) (q : Cq) {dm : List Nat} {kd ln adS : Nat → Nat} (V : Mv) (J : Mj) (R : Mr) (k N : Nat) (mi ci : Nat) (C : String) (T : u_T) (nn : Nat) (hk : k ∈ dm) (hd : kd k = 13) (hn19 : 19 ∉ dm) (hrc : rcl dm R) (hz19 : zat V J R 19) (hK19 : kd 19 = 13) (hN19 : ln 19 = N) (hN : N ≤ 100) (hkN : ln k ≤ N) (hem : ∀ i, ln k ≤ i → R k i = none) (hel : ∀ i t, R k i = some t → t ∈ dm ∧ kd t = ci) (hci : ci < 10) (hc : vwCl[ci]? = some (C, T, nn)) (hca : ∀ (A : Nat → Prop) (U : State), X A U → va_Nw (.castable C "java/lang/Object") U) (hal : ∀ (A : Nat → Prop) (U : State), X A U → alX mi U) : CtX X l yJ7_copyOf_1904c wsJ7_copyOf_1904c ({ frames := 2, cells := 1, slots := 100, locals := 63 }) D q dm kd ln adS V J R [.ref (adS k), .int (nI N)] (QGq (some 19) (fun k => k = 19) adS D q (dm ++ [19]) kd (ln) (V) (J) (va_up R 19 (R k))) 1 100 := by
  refine CtX_of (cc := cJ7_copyOf_1904c) (maxL := 2) (ret := (some (.array (.object "java/lang/Object")))) (by decide +kernel) rfl (Nat.le_of_ble_eq_true rfl) ?_
  intro p e s m args below meth c A hx hb hr hml hts hown hlk hmn hK hW hA hXs ls hl
  have hS : va_S A s.heap s.heap [] := va_S.rf
  obtain ⟨ad, had⟩ : ∃ a : Nat → Nat, a = adS := ⟨_, rfl⟩
  have hqa : ∀ k, ¬ (k = 19) → ad k = adS k := fun k _ => by rw [had]
  rw [← had] at hW
  have hl : lv_has ls 2 [(0, .ref (ad k)), (1, .int (nI N))] := by rw [had]; exact hl
  have hAl := hal A s hXs
  have hkne : k ≠ 19 := fun e => hn19 (by rw [← e]; exact hk)
  refine lv_aload_n hx hb dJ7_copyOf_1904c_0 rfl (lv_at hl 0 rfl) ?_
  refine lv_iload_n hx hb dJ7_copyOf_1904c_1 rfl (lv_at hl 1 rfl) ?_
  refine lv_aload_n hx hb dJ7_copyOf_1904c_2 rfl (lv_at hl 0 rfl) ?_
  refine va_getC (C := "[Ljava/lang/Object;") hx hb (by rw [hml]; exact hl.1.symm) hown (hts (.methodLink RJ7 86 ⟨"java/lang/Object", "getClass", "()Ljava/lang/Class;"⟩) (by decide +kernel)) (va_Dc.use hAl.2.2.1) (hts (.selects "[Ljava/lang/Object;" ⟨"java/lang/Object", "getClass", "()Ljava/lang/Class;"⟩ ⟨"java/lang/Object", "getClass", "()Ljava/lang/Class;"⟩) (by decide +kernel)) (hts (.instanceMethod ⟨"java/lang/Object", "getClass", "()Ljava/lang/Class;"⟩) (by decide +kernel)) (hts (.native ⟨"java/lang/Object", "getClass", "()Ljava/lang/Class;"⟩) (by decide +kernel)) hAl.2.1 (w_arc hK hW hk hd) (Nat.le_of_ble_eq_true rfl) (Nat.le_of_ble_eq_true rfl) dJ7_copyOf_1904c_3 ?_
  refine w_cgq (w_runS ⟨hx, hb, hml, hown, hts⟩ (c_J7_copyOf_6403c hxo l D q V J R k N mi ci C T nn hk hd hn19 hrc hz19 hK19 hN19 hN hkN hem hel hci hc hca hal) hxo (va_cwS 3 hts gJ7_copyOf_1904c_J7_copyOf_6403c rfl rfl rfl (by decide +kernel) ⟨Nat.le_of_ble_eq_true rfl, Nat.le_of_ble_eq_true rfl⟩) hK hW hS hA hXs rfl hl.1 rfl (Nat.le_of_ble_eq_true rfl) dJ7_copyOf_1904c_6 ⟨Nat.le_of_ble_eq_true rfl, Nat.le_of_ble_eq_true rfl⟩) hW hS hA (fun ad H locs hq hW hS => ?_)
  have hl : lv_has ls 2 [(0, .ref (ad k)), (1, .int (nI N))] := by rw [hq k hkne]; exact hl
  have hqa : ∀ k, ¬ (k = 19) → ad k = adS k := fun k hk => (hq k (fun e => hk (e))).trans (hqa k hk)
  exact w_qretG hx hb hr (Or.inr ⟨_, rfl⟩) hlk hW hS (o := some 19) rfl hqa dJ7_copyOf_1904c_9
set_option maxHeartbeats 4000000 in
set_option maxRecDepth 100000 in
theorem c_growF {X : (Nat → Prop) → State → Prop} (hxo : xok X) (l : Launch) (D : va_G) (q : Cq) {dm : List Nat} {kd ln adS : Nat → Nat} (V : Mv) (J : Mj) (R : Mr) (lst b n : Nat) (mi ci : Nat) (C : String) (T : u_T) (nn : Nat) (hkl : lst ∈ dm) (hdl : kd lst = 0) (hl19 : lst ≠ 19) (hlb : lst ≠ b) (hkb : b ∈ dm) (hdb : kd b = 13) (hRl : R lst 1 = some b) (hnb : ln b = n) (h2n : 2 ≤ n) (hn6 : n ≤ 60) (hrf : ∀ k ∈ dm, ∀ j, R k j = some b → k = lst ∧ j = 1) (hn19 : 19 ∉ dm) (hrc : rcl dm R) (hz19 : zat V J R 19) (hK19 : kd 19 = 13) (hN19 : ln 19 = n + n / 2) (hem : ∀ i, n ≤ i → R b i = none) (hel : ∀ i t, R b i = some t → t ∈ dm ∧ kd t = ci) (hci : ci < 10) (hc : vwCl[ci]? = some (C, T, nn)) (hca : ∀ (A : Nat → Prop) (U : State), X A U → va_Nw (.castable C "java/lang/Object") U) (hal : ∀ (A : Nat → Prop) (U : State), X A U → alX mi U) : CtX X l yJx4a65c_grow_92f84 wsJx4a65c_grow_92f84 ({ frames := 5, cells := 1, slots := 100, locals := 130 }) D q dm kd ln adS V J R [.ref (adS lst), .int (nI n + 1)] (QGq (some b) (fun k => k = b ∨ k = 19) adS D q (dm) kd (va_up ln b (n + n / 2)) (V) (J) (R)) 1 100 := by
  refine CtX_of (cc := cJx4a65c_grow_92f84) (maxL := 4) (ret := (some (.array (.object "java/lang/Object")))) (by decide +kernel) rfl (Nat.le_of_ble_eq_true rfl) ?_
  intro p e s m args below meth c A hx hb hr hml hts hown hlk hmn hK hW hA hXs ls hl
  have hS : va_S A s.heap s.heap [] := va_S.rf
  obtain ⟨ad, had⟩ : ∃ a : Nat → Nat, a = adS := ⟨_, rfl⟩
  have hqa : ∀ k, ¬ (k = b ∨ k = 19) → ad k = adS k := fun k _ => by rw [had]
  rw [← had] at hW
  have hl : lv_has ls 4 [(0, .ref (ad lst)), (1, .int (nI n + 1))] := by rw [had]; exact hl
  have hin_TJx4a65c : ∀ w ∈ u_ws RJx4a65c TJx4a65c 3, w ∈ wsJx4a65c_grow_92f84 := by decide +kernel
  have hAl := hal A s hXs
  have hkb0 := hkb
  refine lv_aload_n hx hb dJx4a65c_grow_92f84_0 rfl (lv_at hl 0 rfl) ?_
  refine w_getr (ci := 0) (T := TJx4a65c) hx hb hts hin_TJx4a65c hown hK hW hkl hdl (by decide) rfl 1 (by decide) (hts (.fieldLink RJx4a65c 9 "java/util/ArrayList" "elementData" "[Ljava/lang/Object;") (by decide +kernel)) (fun _ h9 => h9) rfl hRl dJx4a65c_grow_92f84_1 ?_
  refine w_alenq hx hb hK hW hkb hdb rfl dJx4a65c_grow_92f84_4 ?_
  refine w_i (y := nI n) (by rw [hnb]) ?_
  refine lv_istore_n (lv' := [(2, .int (nI n)), (0, .ref (ad lst)), (1, .int (nI n + 1))]) hx hb dJx4a65c_grow_92f84_5 rfl hl (by decide) rfl (fun ls hl => ?_)
  refine lv_iload_n hx hb dJx4a65c_grow_92f84_6 rfl (lv_at hl 0 rfl) ?_
  refine lv_if_gt (tgt := 20) hx hb dJx4a65c_grow_92f84_7 (by decide) (fun c_7 => ?_) (fun c_7 => ?_)
  · refine lv_iload_n hx hb dJx4a65c_grow_92f84_20 rfl (lv_at hl 0 rfl) ?_
    refine lv_iload_n hx hb dJx4a65c_grow_92f84_21 rfl (lv_at hl 2 rfl) ?_
    refine lv_iload_n hx hb dJx4a65c_grow_92f84_22 rfl (lv_at hl 0 rfl) ?_
    refine lv_isub hx hb dJx4a65c_grow_92f84_23 ?_
    refine lv_iload_n hx hb dJx4a65c_grow_92f84_24 rfl (lv_at hl 0 rfl) ?_
    refine lv_iconst (v := 1) hx hb dJx4a65c_grow_92f84_25 (by decide) ?_
    refine lv_ishr hx hb dJx4a65c_grow_92f84_26 ?_
    refine w_ci (w_runS ⟨hx, hb, hml, hown, hts⟩ (c_J8_newLength_cabcc hxo l D q V J R (nI n) ((nI n + 1) - (nI n)) ((nI n) >>> (1 &&& 31)) (by rw [grow_n h2n (by omega)]; exact nI_nle (by omega) (by omega)) (by rw [grow_n h2n (by omega)]; exact fun z => absurd ((nI_ltI (a := 2147483639) (by decide) (by omega)).mp z) (by omega))) hxo (va_cwS 3 hts gJx4a65c_grow_92f84_J8_newLength_cabcc rfl rfl rfl (by decide +kernel) ⟨Nat.le_of_ble_eq_true rfl, Nat.le_of_ble_eq_true rfl⟩) hK hW hS hA hXs rfl hl.1 rfl (Nat.le_of_ble_eq_true rfl) dJx4a65c_grow_92f84_27 ⟨Nat.zero_le _, Nat.zero_le _⟩) hW hS hA (fun H locs hW hS => ?_)
    refine w_i (y := nI (n + n / 2)) (grow_n h2n (by omega)) ?_
    refine lv_istore_n (lv' := [(3, .int (nI (n + n / 2))), (2, .int (nI n)), (0, .ref (ad lst)), (1, .int (nI n + 1))]) hx hb dJx4a65c_grow_92f84_30 rfl hl (by decide) rfl (fun ls hl => ?_)
    refine lv_aload_n hx hb dJx4a65c_grow_92f84_31 rfl (lv_at hl 2 rfl) ?_
    refine lv_aload_n hx hb dJx4a65c_grow_92f84_32 rfl (lv_at hl 2 rfl) ?_
    refine w_getr (ci := 0) (T := TJx4a65c) hx hb hts hin_TJx4a65c hown hK hW hkl hdl (by decide) rfl 1 (by decide) (hts (.fieldLink RJx4a65c 9 "java/util/ArrayList" "elementData" "[Ljava/lang/Object;") (by decide +kernel)) (fun _ h9 => h9) rfl hRl dJx4a65c_grow_92f84_33 ?_
    refine lv_iload_n hx hb dJx4a65c_grow_92f84_36 rfl (lv_at hl 0 rfl) ?_
    refine w_cgq (w_runS ⟨hx, hb, hml, hown, hts⟩ (c_J7_copyOf_1904c hxo l D q V J R b (n + n / 2) mi ci C T nn hkb hdb hn19 hrc hz19 hK19 hN19 (by omega) (by omega) (fun i h => hem i (by omega)) hel hci hc hca hal) hxo (va_cwS 2 hts gJx4a65c_grow_92f84_J7_copyOf_1904c rfl rfl rfl (by decide +kernel) ⟨Nat.le_of_ble_eq_true rfl, Nat.le_of_ble_eq_true rfl⟩) hK hW hS hA hXs rfl hl.1 rfl (Nat.le_of_ble_eq_true rfl) dJx4a65c_grow_92f84_37 ⟨Nat.le_of_ble_eq_true rfl, Nat.le_of_ble_eq_true rfl⟩) hW hS hA (fun ad H locs hq hW hS => ?_)
    have hl : lv_has ls 4 [(3, .int (nI (n + n / 2))), (2, .int (nI n)), (0, .ref (ad lst)), (1, .int (nI n + 1))] := by rw [hq lst hl19]; exact hl
    refine w_st (st' := [.ref (ad 19), .ref (ad lst)]) (by rw [hq lst hl19] <;> rfl) ?_
    have hqa : ∀ k, ¬ (k = b ∨ k = 19) → ad k = adS k := fun k hk => (hq k (fun e => hk (Or.inr e))).trans (hqa k hk)
    have hkl := mem_l (k := 19) hkl
    have hk9 : 19 ∈ dm ++ [19] := mem_r
    refine lv_dup_x1 hx hb dJx4a65c_grow_92f84_40 rfl rfl ?_
    refine w_puto (ci := 0) (T := TJx4a65c) (ty := tyJx4a65c 1) hx hb hts hin_TJx4a65c tyJx4a65c tyJx4a65c_ok nmJx4a65c hown hK hW hS hkl hdl (by decide) rfl 1 (by decide) (hts (.fieldLink RJx4a65c 9 "java/util/ArrayList" "elementData" "[Ljava/lang/Object;") (by decide +kernel)) (fun _ h9 => h9) rfl (some 19) (tyJx4a65c_ok 1 (by decide)) rfl rfl (Nat.le_of_ble_eq_true rfl) rfl dJx4a65c_grow_92f84_41 (fun H locs hW hS => ?_)
    exact w_qretG hx hb hr (Or.inr ⟨_, rfl⟩) hlk (wok_ren hW hkb0 hdb hK19 hN19 hn19 hlb hl19 hRl hrf) hS (o := some b) (by show _ = va_rf (some (va_up ad b (ad 19) b)); rw [va_up_self]; rfl) (fun k hk => by rw [va_up_ne _ _ (fun e => hk (Or.inl e))]; exact hqa k hk) dJx4a65c_grow_92f84_44
  · exact absurd (show (0 : Int32) < nI n from (nI_ltI (a := 0) (by decide) (by omega)).mpr (by omega)) c_7
set_option maxHeartbeats 4000000 in
set_option maxRecDepth 100000 in
theorem c_growE {X : (Nat → Prop) → State → Prop} (hxo : xok X) (l : Launch) (D : va_G) (q : Cq) {dm : List Nat} {kd ln adS : Nat → Nat} (V : Mv) (J : Mj) (R : Mr) (lst b mi : Nat) (hkl : lst ∈ dm) (hdl : kd lst = 0) (hlb : lst ≠ b) (hb18 : b ≠ 18) (hR18 : R lst 1 = some 18) (hnb : b ∉ dm) (hrc : rcl dm R) (hzb : zat V J R b) (hKb : kd b = 13) (hNb : ln b = 10) (hstS : ∀ (A : Nat → Prop) (U : State), X A U → strX adS A U) (hal : ∀ (A : Nat → Prop) (U : State), X A U → alX mi U) : CtX X l yJx4a65c_grow_92f84 wsJx4a65c_grow_92f84 ({ frames := 5, cells := 1, slots := 100, locals := 130 }) D q dm kd ln adS V J R [.ref (adS lst), .int (nI 0 + 1)] (QGq (some b) (fun k => k = b ∨ k = 19) adS D q (dm ++ [b]) kd (ln) (V) (J) (u2 R lst 1 (some b))) 1 100 := by
  refine CtX_of (cc := cJx4a65c_grow_92f84) (maxL := 4) (ret := (some (.array (.object "java/lang/Object")))) (by decide +kernel) rfl (Nat.le_of_ble_eq_true rfl) ?_
  intro p e s m args below meth c A hx hb hr hml hts hown hlk hmn hK hW hA hXs ls hl
  have hS : va_S A s.heap s.heap [] := va_S.rf
  obtain ⟨ad, had⟩ : ∃ a : Nat → Nat, a = adS := ⟨_, rfl⟩
  have hqa : ∀ k, ¬ (k = b ∨ k = 19) → ad k = adS k := fun k _ => by rw [had]
  rw [← had] at hW
  have hl : lv_has ls 4 [(0, .ref (ad lst)), (1, .int (nI 0 + 1))] := by rw [had]; exact hl
  have hin_TJx4a65c : ∀ w ∈ u_ws RJx4a65c TJx4a65c 3, w ∈ wsJx4a65c_grow_92f84 := by decide +kernel
  have hAl := hal A s hXs
  have hSt : strX ad A s := by rw [had]; exact hstS A s hXs
  refine lv_aload_n hx hb dJx4a65c_grow_92f84_0 rfl (lv_at hl 0 rfl) ?_
  refine w_getr (ci := 0) (T := TJx4a65c) hx hb hts hin_TJx4a65c hown hK hW hkl hdl (by decide) rfl 1 (by decide) (hts (.fieldLink RJx4a65c 9 "java/util/ArrayList" "elementData" "[Ljava/lang/Object;") (by decide +kernel)) (fun _ h9 => h9) rfl hR18 dJx4a65c_grow_92f84_1 ?_
  refine va_tlen hx hb hSt.2.2.2.2.2 hS (v := 0) rfl dJx4a65c_grow_92f84_4 ?_
  refine lv_istore_n (lv' := [(2, .int 0), (0, .ref (ad lst)), (1, .int (nI 0 + 1))]) hx hb dJx4a65c_grow_92f84_5 rfl hl (by decide) rfl (fun ls hl => ?_)
  refine lv_iload_n hx hb dJx4a65c_grow_92f84_6 rfl (lv_at hl 0 rfl) ?_
  refine lv_if_gt (tgt := 20) hx hb dJx4a65c_grow_92f84_7 (by decide) (fun z9 => absurd z9 (by decide)) (fun _ => ?_)
  refine lv_aload_n hx hb dJx4a65c_grow_92f84_10 rfl (lv_at hl 1 rfl) ?_
  refine w_getr (ci := 0) (T := TJx4a65c) hx hb hts hin_TJx4a65c hown hK hW hkl hdl (by decide) rfl 1 (by decide) (hts (.fieldLink RJx4a65c 9 "java/util/ArrayList" "elementData" "[Ljava/lang/Object;") (by decide +kernel)) (fun _ h9 => h9) rfl hR18 dJx4a65c_grow_92f84_11 ?_
  refine va_gets hx hb hSt.2.2.2.1 hS hown (hts (.fieldLink RJx4a65c 39 "java/util/ArrayList" "DEFAULTCAPACITY_EMPTY_ELEMENTDATA" "[Ljava/lang/Object;") (by decide +kernel)) (fun _ h9 => h9) dJx4a65c_grow_92f84_14 ?_
  refine lv_acmp_eq (tgt := 45) (rx := some (ad 18)) (ry := some (ad 18)) hx hb dJx4a65c_grow_92f84_17 (by decide) (fun _ => ?_) (fun z => absurd rfl z)
  refine lv_aload_n hx hb dJx4a65c_grow_92f84_45 rfl (lv_at hl 1 rfl) ?_
  refine lv_bipush (v := 10) hx hb dJx4a65c_grow_92f84_46 (by decide) ?_
  refine lv_iload_n hx hb dJx4a65c_grow_92f84_48 rfl (lv_at hl 2 rfl) ?_
  refine va_mmax hx hb (by rw [hml]; exact hl.1.symm) hown (hts (.methodLink RJx4a65c 79 Lib.Math.max.name) (by decide +kernel)) (hts (.static Lib.Math.max.name) (by decide +kernel)) (hts (.initialized "java/lang/Math") (by decide +kernel)) (hts (.code Lib.Math.max.name Lib.Math.max.code 2 (some .int)) (by decide +kernel)) (Nat.le_of_ble_eq_true rfl) (Nat.le_of_ble_eq_true rfl) (Nat.le_of_ble_eq_true rfl) (Nat.le_of_ble_eq_true rfl) dJx4a65c_grow_92f84_49 ?_
  refine w_i (y := 10) (by decide) ?_
  refine w_newq (k := b) (N := 10) hx hb hown (hts (.classLink RJx4a65c 7 "java/lang/Object") (by decide +kernel)) hAl.1 hK hW hS hA hnb (rcl_rf hrc hnb hb18) hzb hKb hNb rfl (by omega) (Nat.le_of_ble_eq_true rfl) (Nat.le_of_ble_eq_true rfl) dJx4a65c_grow_92f84_52 (fun ad H hq hW hS => ?_)
  have hl : lv_has ls 4 [(2, .int 0), (0, .ref (ad lst)), (1, .int (nI 0 + 1))] := by rw [hq lst hlb]; exact hl
  refine w_st (st' := [.ref (ad b), .ref (ad lst)]) (by rw [hq lst hlb] <;> rfl) ?_
  have hqa : ∀ k, ¬ (k = b ∨ k = 19) → ad k = adS k := fun k hk => (hq k (fun e => hk (by omega))).trans (hqa k hk)
  have hkl := mem_l (k := b) hkl
  have hk9 : b ∈ dm ++ [b] := mem_r
  refine W.widen (k := 1) (n := 100) (by omega) (by omega) ?_
  refine lv_dup_x1 hx hb dJx4a65c_grow_92f84_55 rfl rfl ?_
  refine w_puto (ci := 0) (T := TJx4a65c) (ty := tyJx4a65c 1) hx hb hts hin_TJx4a65c tyJx4a65c tyJx4a65c_ok nmJx4a65c hown hK hW hS hkl hdl (by decide) rfl 1 (by decide) (hts (.fieldLink RJx4a65c 9 "java/util/ArrayList" "elementData" "[Ljava/lang/Object;") (by decide +kernel)) (fun _ h9 => h9) rfl (some b) (tyJx4a65c_ok 1 (by decide)) rfl rfl (Nat.le_of_ble_eq_true rfl) rfl dJx4a65c_grow_92f84_56 (fun H locs hW hS => ?_)
  exact w_qretG hx hb hr (Or.inr ⟨_, rfl⟩) hlk hW hS (o := some b) rfl hqa dJx4a65c_grow_92f84_59
