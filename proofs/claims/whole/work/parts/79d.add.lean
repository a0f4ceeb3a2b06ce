/-- a row that must grow: the first one, or a full one -/
def gst (dm : List Nat) (ln : Nat → Nat) (R : Mr) (lst b n : Nat) (dm' : List Nat) (ln' : Nat → Nat) (R' : Mr) : Prop :=
  (n = 0 ∧ b ∉ dm ∧ R lst 1 = some 18 ∧ ln b = 10 ∧ dm' = dm ++ [b] ∧ ln' = ln ∧ R' = u2 R lst 1 (some b)) ∨
  (2 ≤ n ∧ b ∈ dm ∧ R lst 1 = some b ∧ ln b = n ∧ dm' = dm ∧ ln' = va_up ln b (n + n / 2) ∧ R' = R)
def ast (dm : List Nat) (ln : Nat → Nat) (R : Mr) (lst b n : Nat) (dm' : List Nat) (ln' : Nat → Nat) (R' : Mr) : Prop :=
  gst dm ln R lst b n dm' ln' R' ∨ (n < ln b ∧ b ∈ dm ∧ R lst 1 = some b ∧ dm' = dm ∧ ln' = ln ∧ R' = R)
theorem gst_in {dm dm' : List Nat} {ln ln' : Nat → Nat} {R R' : Mr} {lst b n : Nat} (h : gst dm ln R lst b n dm' ln' R') : (∀ k, k ∈ dm → k ∈ dm') ∧ b ∈ dm' ∧ n < ln' b ∧ ln' b ≤ n + n / 2 + 10 := by
  rcases h with ⟨h0, h1, h2, h4, h5, h6, h7⟩ | ⟨h1, h2, h3, h4, h5, h6, h7⟩
  · rw [h5, h6]
    exact ⟨fun k hk => mem_l hk, mem_r, by omega, by omega⟩
  · rw [h5, h6, va_up_self]
    exact ⟨fun k hk => hk, h2, by omega, by omega⟩
theorem ast_in {dm dm' : List Nat} {ln ln' : Nat → Nat} {R R' : Mr} {lst b n : Nat} (h : ast dm ln R lst b n dm' ln' R') : (∀ k, k ∈ dm → k ∈ dm') ∧ b ∈ dm' ∧ n < ln' b := by
  rcases h with h | ⟨h1, h2, h3, h4, h5, h6⟩
  · exact ⟨(gst_in h).1, (gst_in h).2.1, (gst_in h).2.2.1⟩
  · rw [h4, h5]
    exact ⟨fun k hk => hk, h2, h1⟩
theorem c_grow {X : (Nat → Prop) → State → Prop} (hxo : xok X) (l : Launch) (D : va_G) (q : Cq) {dm : List Nat} {kd ln adS : Nat → Nat} (V : Mv) (J : Mj) (R : Mr) (lst b n : Nat) (mi ci : Nat) (C : String) (T : u_T) (nn : Nat) (dm' : List Nat) (ln' : Nat → Nat) (R' : Mr) (hkl : lst ∈ dm) (hdl : kd lst = 0) (hl19 : lst ≠ 19) (hlb : lst ≠ b) (hb18 : b ≠ 18) (hKb : kd b = 13) (hn6 : n ≤ 60) (hrf : ∀ k ∈ dm, ∀ j, R k j = some b → k = lst ∧ j = 1) (hn19 : 19 ∉ dm) (hrc : rcl dm R) (hzb : b ∉ dm → zat V J R b) (hz19 : zat V J R 19) (hK19 : kd 19 = 13) (hN19 : ln 19 = n + n / 2) (hem : ∀ i, n ≤ i → R b i = none) (hel : ∀ i t, R b i = some t → t ∈ dm ∧ kd t = ci) (hstS : ∀ (A : Nat → Prop) (U : State), X A U → strX adS A U) (hci : ci < 10) (hc : vwCl[ci]? = some (C, T, nn)) (hca : ∀ (A : Nat → Prop) (U : State), X A U → va_Nw (.castable C "java/lang/Object") U) (hal : ∀ (A : Nat → Prop) (U : State), X A U → alX mi U) (hg : gst dm ln R lst b n dm' ln' R') : CtX X l yJx4a65c_grow_92f84 wsJx4a65c_grow_92f84 ({ frames := 5, cells := 1, slots := 100, locals := 130 }) D q dm kd ln adS V J R [.ref (adS lst), .int (nI n + 1)] (QGq (some b) (fun k => k = b ∨ k = 19) adS D q dm' kd ln' V J R') 1 100 := by
  rcases hg with ⟨h0, h1, h2, h4, h5, h6, h7⟩ | ⟨h1, h2, h3, h4, h5, h6, h7⟩
  · rw [h0, h5, h6, h7]
    exact c_growE hxo l D q V J R lst b mi hkl hdl hlb hb18 h2 h1 hrc (hzb h1) hKb h4 hstS hal
  · rw [h5, h6, h7]
    exact c_growF hxo l D q V J R lst b n mi ci C T nn hkl hdl hl19 hlb h2 hKb h3 h4 h1 hn6 hrf hn19 hrc hz19 hK19 hN19 hem hel hci hc hca hal
set_option maxHeartbeats 4000000 in
set_option maxRecDepth 100000 in
theorem c_grow0 {X : (Nat → Prop) → State → Prop} (hxo : xok X) (l : Launch) (D : va_G) (q : Cq) {dm : List Nat} {kd ln adS : Nat → Nat} (V : Mv) (J : Mj) (R : Mr) (lst b n : Nat) (mi ci : Nat) (C : String) (T : u_T) (nn : Nat) (dm' : List Nat) (ln' : Nat → Nat) (R' : Mr) (hsz : V lst 2 = nI n) (hkl : lst ∈ dm) (hdl : kd lst = 0) (hl19 : lst ≠ 19) (hlb : lst ≠ b) (hb18 : b ≠ 18) (hKb : kd b = 13) (hn6 : n ≤ 60) (hrf : ∀ k ∈ dm, ∀ j, R k j = some b → k = lst ∧ j = 1) (hn19 : 19 ∉ dm) (hrc : rcl dm R) (hzb : b ∉ dm → zat V J R b) (hz19 : zat V J R 19) (hK19 : kd 19 = 13) (hN19 : ln 19 = n + n / 2) (hem : ∀ i, n ≤ i → R b i = none) (hel : ∀ i t, R b i = some t → t ∈ dm ∧ kd t = ci) (hstS : ∀ (A : Nat → Prop) (U : State), X A U → strX adS A U) (hci : ci < 10) (hc : vwCl[ci]? = some (C, T, nn)) (hca : ∀ (A : Nat → Prop) (U : State), X A U → va_Nw (.castable C "java/lang/Object") U) (hal : ∀ (A : Nat → Prop) (U : State), X A U → alX mi U) (hg : gst dm ln R lst b n dm' ln' R') : CtX X l yJx4a65c_grow_d5877 wsJx4a65c_grow_d5877 ({ frames := 6, cells := 1, slots := 100, locals := 170 }) D q dm kd ln adS V J R [.ref (adS lst)] (QGq (some b) (fun k => k = b ∨ k = 19) adS D q (dm') kd (ln') (V) (J) (R')) 1 100 := by
  refine CtX_of (cc := cJx4a65c_grow_d5877) (maxL := 1) (ret := (some (.array (.object "java/lang/Object")))) (by decide +kernel) rfl (Nat.le_of_ble_eq_true rfl) ?_
  intro p e s m args below meth c A hx hb hr hml hts hown hlk hmn hK hW hA hXs ls hl
  have hS : va_S A s.heap s.heap [] := va_S.rf
  obtain ⟨ad, had⟩ : ∃ a : Nat → Nat, a = adS := ⟨_, rfl⟩
  have hqa : ∀ k, ¬ (k = b ∨ k = 19) → ad k = adS k := fun k _ => by rw [had]
  rw [← had] at hW
  have hl : lv_has ls 1 [(0, .ref (ad lst))] := by rw [had]; exact hl
  have hin_TJx4a65c : ∀ w ∈ u_ws RJx4a65c TJx4a65c 3, w ∈ wsJx4a65c_grow_d5877 := by decide +kernel
  refine lv_aload_n hx hb dJx4a65c_grow_d5877_0 rfl (lv_at hl 0 rfl) ?_
  refine lv_aload_n hx hb dJx4a65c_grow_d5877_1 rfl (lv_at hl 0 rfl) ?_
  refine w_get (ci := 0) (T := TJx4a65c) hx hb hts hin_TJx4a65c hown hK hW hkl hdl (by decide) rfl 2 (by decide) (hts (.fieldLink RJx4a65c 48 "java/util/ArrayList" "size" "I") (by decide +kernel)) (fun _ h9 => h9) rfl dJx4a65c_grow_d5877_2 ?_
  refine w_i (y := nI n) (hsz) ?_
  refine lv_iconst (v := 1) hx hb dJx4a65c_grow_d5877_5 (by decide) ?_
  refine lv_iadd hx hb dJx4a65c_grow_d5877_6 ?_
  refine w_cgq (w_runV ⟨hx, hb, hml, hown, hts⟩ (c_grow hxo l D q V J R lst b n mi ci C T nn dm' ln' R' hkl hdl hl19 hlb hb18 hKb hn6 hrf hn19 hrc hzb hz19 hK19 hN19 hem hel (by rw [had]; exact hstS) hci hc hca hal hg) hxo (cwV 1 hts gJx4a65c_grow_d5877_Jx4a65c_grow_92f84 rfl rfl rfl (by decide +kernel) ⟨Nat.le_of_ble_eq_true rfl, Nat.le_of_ble_eq_true rfl⟩) hK hW hS hA hXs (w_rcv hK hW hkl hdl (by decide) rfl) rfl hl.1 rfl (Nat.le_of_ble_eq_true rfl) dJx4a65c_grow_d5877_7 ⟨Nat.le_of_ble_eq_true rfl, Nat.le_of_ble_eq_true rfl⟩) hW hS hA (fun ad H locs hq hW hS => ?_)
  have hl : lv_has ls 1 [(0, .ref (ad lst))] := by rw [hq lst (fun e => e.elim hlb hl19)]; exact hl
  have hqa : ∀ k, ¬ (k = b ∨ k = 19) → ad k = adS k := fun k hk => (hq k (fun e => hk (e))).trans (hqa k hk)
  have hkl := (gst_in hg).1 lst hkl
  have hkb9 := (gst_in hg).2.1
  exact w_qretG hx hb hr (Or.inr ⟨_, rfl⟩) hlk hW hS (o := some b) rfl hqa dJx4a65c_grow_d5877_10
set_option maxHeartbeats 4000000 in
set_option maxRecDepth 100000 in
theorem c_add72E {X : (Nat → Prop) → State → Prop} (hxo : xok X) (l : Launch) (D : va_G) (q : Cq) {dm : List Nat} {kd ln adS : Nat → Nat} (V : Mv) (J : Mj) (R : Mr) (t : Nat) (lst b n : Nat) (mi ci : Nat) (C : String) (T : u_T) (nn : Nat) (dm' : List Nat) (ln' : Nat → Nat) (R' : Mr) (hkt : t ∈ dm) (hdt : kd t = ci) (htb : t ≠ b) (ht19 : t ≠ 19) (hsz : V lst 2 = nI n) (hkl : lst ∈ dm) (hdl : kd lst = 0) (hl19 : lst ≠ 19) (hlb : lst ≠ b) (hb18 : b ≠ 18) (hKb : kd b = 13) (hn6 : n ≤ 60) (hrf : ∀ k ∈ dm, ∀ j, R k j = some b → k = lst ∧ j = 1) (hn19 : 19 ∉ dm) (hrc : rcl dm R) (hzb : b ∉ dm → zat V J R b) (hz19 : zat V J R 19) (hK19 : kd 19 = 13) (hN19 : ln 19 = n + n / 2) (hem : ∀ i, n ≤ i → R b i = none) (hel : ∀ i t, R b i = some t → t ∈ dm ∧ kd t = ci) (hstS : ∀ (A : Nat → Prop) (U : State), X A U → strX adS A U) (hci : ci < 10) (hc : vwCl[ci]? = some (C, T, nn)) (hca : ∀ (A : Nat → Prop) (U : State), X A U → va_Nw (.castable C "java/lang/Object") U) (hal : ∀ (A : Nat → Prop) (U : State), X A U → alX mi U) (hg : gst dm ln R lst b n dm' ln' R') (hn0 : n = 0) : CtX X l yJx4a65c_add_72be8 wsJx4a65c_add_72be8 ({ frames := 7, cells := 1, slots := 100, locals := 220 }) D q dm kd ln adS V J R [.ref (adS lst), .ref (adS t), .ref (adS 18), .int (nI n)] (QGv (fun k => k = b ∨ k = 19) adS D q (dm') kd (ln') (u2 V lst 2 (nI n + 1)) (J) (u2 R' b n (some t))) 1 100 := by
  refine CtX_of (cc := cJx4a65c_add_72be8) (maxL := 4) (ret := none) (by decide +kernel) rfl (Nat.le_of_ble_eq_true rfl) ?_
  intro p e s m args below meth c A hx hb hr hml hts hown hlk hmn hK hW hA hXs ls hl
  have hS : va_S A s.heap s.heap [] := va_S.rf
  obtain ⟨ad, had⟩ : ∃ a : Nat → Nat, a = adS := ⟨_, rfl⟩
  have hqa : ∀ k, ¬ (k = b ∨ k = 19) → ad k = adS k := fun k _ => by rw [had]
  rw [← had] at hW
  have hl : lv_has ls 4 [(0, .ref (ad lst)), (1, .ref (ad t)), (2, .ref (ad 18)), (3, .int (nI n))] := by rw [had]; exact hl
  have hin_TJx4a65c : ∀ w ∈ u_ws RJx4a65c TJx4a65c 3, w ∈ wsJx4a65c_add_72be8 := by decide +kernel
  have hSt : strX ad A s := by rw [had]; exact hstS A s hXs
  refine lv_iload_n hx hb dJx4a65c_add_72be8_0 rfl (lv_at hl 3 rfl) ?_
  refine lv_aload_n hx hb dJx4a65c_add_72be8_1 rfl (lv_at hl 2 rfl) ?_
  refine va_tlen hx hb hSt.2.2.2.2.2 hS (v := 0) rfl dJx4a65c_add_72be8_2 ?_
  refine lv_icmp_ne (tgt := 11) hx hb dJx4a65c_add_72be8_3 (by decide) (fun c_3 => ?_) (fun c_3 => ?_)
  · exact absurd (by rw [hn0]; rfl) c_3
  · refine lv_aload_n hx hb dJx4a65c_add_72be8_6 rfl (lv_at hl 0 rfl) ?_
    have hl : lv_has ls 4 [(0, .ref (ad lst)), (1, .ref (ad t)), (3, .int (nI n))] := lv_sub hl [0, 1, 3] rfl
    refine w_cgq (w_runV ⟨hx, hb, hml, hown, hts⟩ (c_grow0 hxo l D q V J R lst b n mi ci C T nn dm' ln' R' hsz hkl hdl hl19 hlb hb18 hKb hn6 hrf hn19 hrc hzb hz19 hK19 hN19 hem hel (by rw [had]; exact hstS) hci hc hca hal hg) hxo (cwV 0 hts gJx4a65c_add_72be8_Jx4a65c_grow_d5877 rfl rfl rfl (by decide +kernel) ⟨Nat.le_of_ble_eq_true rfl, Nat.le_of_ble_eq_true rfl⟩) hK hW hS hA hXs (w_rcv hK hW hkl hdl (by decide) rfl) rfl hl.1 rfl (Nat.le_of_ble_eq_true rfl) dJx4a65c_add_72be8_7 ⟨Nat.le_of_ble_eq_true rfl, Nat.le_of_ble_eq_true rfl⟩) hW hS hA (fun ad H locs hq hW hS => ?_)
    have hl : lv_has ls 4 [(0, .ref (ad lst)), (1, .ref (ad t)), (3, .int (nI n))] := by rw [hq lst (fun e => e.elim hlb hl19), hq t (fun e => e.elim htb ht19)]; exact hl
    have hqa : ∀ k, ¬ (k = b ∨ k = 19) → ad k = adS k := fun k hk => (hq k (fun e => hk (e))).trans (hqa k hk)
    have hkl := (gst_in hg).1 lst hkl
    have hkb9 := (gst_in hg).2.1
    have hkt := (gst_in hg).1 t hkt
    have hlt9 := (gst_in hg).2.2.1
    have hle9 := (gst_in hg).2.2.2
    refine lv_astore_n (lv' := [(2, .ref (ad b)), (0, .ref (ad lst)), (1, .ref (ad t)), (3, .int (nI n))]) hx hb dJx4a65c_add_72be8_10 rfl hl (by decide) rfl (fun ls hl => ?_)
    refine lv_aload_n hx hb dJx4a65c_add_72be8_11 rfl (lv_at hl 0 rfl) ?_
    refine lv_iload_n hx hb dJx4a65c_add_72be8_12 rfl (lv_at hl 3 rfl) ?_
    refine lv_aload_n hx hb dJx4a65c_add_72be8_13 rfl (lv_at hl 2 rfl) ?_
    refine w_aast (k := b) (t := t) (ci := ci) hx hb hK hW hS hkb9 hKb hkt hdt hci hc (hca A s hXs) (i := nI n) (inx_v.mpr (inx_n hlt9 (by omega))) dJx4a65c_add_72be8_14 (fun H locs hW hS => ?_)
    rw [nI_clamp (by omega)] at hW
    refine lv_aload_n hx hb dJx4a65c_add_72be8_15 rfl (lv_at hl 1 rfl) ?_
    refine lv_iload_n hx hb dJx4a65c_add_72be8_16 rfl (lv_at hl 3 rfl) ?_
    refine lv_iconst (v := 1) hx hb dJx4a65c_add_72be8_17 (by decide) ?_
    refine lv_iadd hx hb dJx4a65c_add_72be8_18 ?_
    refine w_puti (ci := 0) (T := TJx4a65c) (ty := .int) hx hb hts hin_TJx4a65c tyJx4a65c tyJx4a65c_ok nmJx4a65c hown hK hW hS hkl hdl (by decide) rfl 2 (by decide) (hts (.fieldLink RJx4a65c 48 "java/util/ArrayList" "size" "I") (by decide +kernel)) (fun _ h9 => h9) rfl (tyJx4a65c_ok 2 (by decide)) rfl rfl (Nat.le_of_ble_eq_true rfl) rfl dJx4a65c_add_72be8_19 (fun H locs hW hS => ?_)
    exact w_vretG hx hb hr hlk hW hS hqa dJx4a65c_add_72be8_22
set_option maxHeartbeats 4000000 in
set_option maxRecDepth 100000 in
theorem c_add72F {X : (Nat → Prop) → State → Prop} (hxo : xok X) (l : Launch) (D : va_G) (q : Cq) {dm : List Nat} {kd ln adS : Nat → Nat} (V : Mv) (J : Mj) (R : Mr) (t : Nat) (lst b n : Nat) (mi ci : Nat) (C : String) (T : u_T) (nn : Nat) (dm' : List Nat) (ln' : Nat → Nat) (R' : Mr) (hkt : t ∈ dm) (hdt : kd t = ci) (htb : t ≠ b) (ht19 : t ≠ 19) (hsz : V lst 2 = nI n) (hkl : lst ∈ dm) (hdl : kd lst = 0) (hl19 : lst ≠ 19) (hlb : lst ≠ b) (hb18 : b ≠ 18) (hKb : kd b = 13) (hn6 : n ≤ 60) (hrf : ∀ k ∈ dm, ∀ j, R k j = some b → k = lst ∧ j = 1) (hn19 : 19 ∉ dm) (hrc : rcl dm R) (hzb : b ∉ dm → zat V J R b) (hz19 : zat V J R 19) (hK19 : kd 19 = 13) (hN19 : ln 19 = n + n / 2) (hem : ∀ i, n ≤ i → R b i = none) (hel : ∀ i t, R b i = some t → t ∈ dm ∧ kd t = ci) (hstS : ∀ (A : Nat → Prop) (U : State), X A U → strX adS A U) (hci : ci < 10) (hc : vwCl[ci]? = some (C, T, nn)) (hca : ∀ (A : Nat → Prop) (U : State), X A U → va_Nw (.castable C "java/lang/Object") U) (hal : ∀ (A : Nat → Prop) (U : State), X A U → alX mi U) (hg : gst dm ln R lst b n dm' ln' R') (hkb0 : b ∈ dm) (hnb : ln b = n) : CtX X l yJx4a65c_add_72be8 wsJx4a65c_add_72be8 ({ frames := 7, cells := 1, slots := 100, locals := 220 }) D q dm kd ln adS V J R [.ref (adS lst), .ref (adS t), .ref (adS b), .int (nI n)] (QGv (fun k => k = b ∨ k = 19) adS D q (dm') kd (ln') (u2 V lst 2 (nI n + 1)) (J) (u2 R' b n (some t))) 1 100 := by
  refine CtX_of (cc := cJx4a65c_add_72be8) (maxL := 4) (ret := none) (by decide +kernel) rfl (Nat.le_of_ble_eq_true rfl) ?_
  intro p e s m args below meth c A hx hb hr hml hts hown hlk hmn hK hW hA hXs ls hl
  have hS : va_S A s.heap s.heap [] := va_S.rf
  obtain ⟨ad, had⟩ : ∃ a : Nat → Nat, a = adS := ⟨_, rfl⟩
  have hqa : ∀ k, ¬ (k = b ∨ k = 19) → ad k = adS k := fun k _ => by rw [had]
  rw [← had] at hW
  have hl : lv_has ls 4 [(0, .ref (ad lst)), (1, .ref (ad t)), (2, .ref (ad b)), (3, .int (nI n))] := by rw [had]; exact hl
  have hin_TJx4a65c : ∀ w ∈ u_ws RJx4a65c TJx4a65c 3, w ∈ wsJx4a65c_add_72be8 := by decide +kernel
  refine lv_iload_n hx hb dJx4a65c_add_72be8_0 rfl (lv_at hl 3 rfl) ?_
  refine lv_aload_n hx hb dJx4a65c_add_72be8_1 rfl (lv_at hl 2 rfl) ?_
  refine w_alenq hx hb hK hW hkb0 hKb rfl dJx4a65c_add_72be8_2 ?_
  refine lv_icmp_ne (tgt := 11) hx hb dJx4a65c_add_72be8_3 (by decide) (fun c_3 => ?_) (fun c_3 => ?_)
  · exact absurd (by rw [hnb]) c_3
  · refine lv_aload_n hx hb dJx4a65c_add_72be8_6 rfl (lv_at hl 0 rfl) ?_
    have hl : lv_has ls 4 [(0, .ref (ad lst)), (1, .ref (ad t)), (3, .int (nI n))] := lv_sub hl [0, 1, 3] rfl
    refine w_cgq (w_runV ⟨hx, hb, hml, hown, hts⟩ (c_grow0 hxo l D q V J R lst b n mi ci C T nn dm' ln' R' hsz hkl hdl hl19 hlb hb18 hKb hn6 hrf hn19 hrc hzb hz19 hK19 hN19 hem hel (by rw [had]; exact hstS) hci hc hca hal hg) hxo (cwV 0 hts gJx4a65c_add_72be8_Jx4a65c_grow_d5877 rfl rfl rfl (by decide +kernel) ⟨Nat.le_of_ble_eq_true rfl, Nat.le_of_ble_eq_true rfl⟩) hK hW hS hA hXs (w_rcv hK hW hkl hdl (by decide) rfl) rfl hl.1 rfl (Nat.le_of_ble_eq_true rfl) dJx4a65c_add_72be8_7 ⟨Nat.le_of_ble_eq_true rfl, Nat.le_of_ble_eq_true rfl⟩) hW hS hA (fun ad H locs hq hW hS => ?_)
    have hl : lv_has ls 4 [(0, .ref (ad lst)), (1, .ref (ad t)), (3, .int (nI n))] := by rw [hq lst (fun e => e.elim hlb hl19), hq t (fun e => e.elim htb ht19)]; exact hl
    have hqa : ∀ k, ¬ (k = b ∨ k = 19) → ad k = adS k := fun k hk => (hq k (fun e => hk (e))).trans (hqa k hk)
    have hkl := (gst_in hg).1 lst hkl
    have hkb9 := (gst_in hg).2.1
    have hkt := (gst_in hg).1 t hkt
    have hlt9 := (gst_in hg).2.2.1
    have hle9 := (gst_in hg).2.2.2
    refine lv_astore_n (lv' := [(2, .ref (ad b)), (0, .ref (ad lst)), (1, .ref (ad t)), (3, .int (nI n))]) hx hb dJx4a65c_add_72be8_10 rfl hl (by decide) rfl (fun ls hl => ?_)
    refine lv_aload_n hx hb dJx4a65c_add_72be8_11 rfl (lv_at hl 0 rfl) ?_
    refine lv_iload_n hx hb dJx4a65c_add_72be8_12 rfl (lv_at hl 3 rfl) ?_
    refine lv_aload_n hx hb dJx4a65c_add_72be8_13 rfl (lv_at hl 2 rfl) ?_
    refine w_aast (k := b) (t := t) (ci := ci) hx hb hK hW hS hkb9 hKb hkt hdt hci hc (hca A s hXs) (i := nI n) (inx_v.mpr (inx_n hlt9 (by omega))) dJx4a65c_add_72be8_14 (fun H locs hW hS => ?_)
    rw [nI_clamp (by omega)] at hW
    refine lv_aload_n hx hb dJx4a65c_add_72be8_15 rfl (lv_at hl 1 rfl) ?_
    refine lv_iload_n hx hb dJx4a65c_add_72be8_16 rfl (lv_at hl 3 rfl) ?_
    refine lv_iconst (v := 1) hx hb dJx4a65c_add_72be8_17 (by decide) ?_
    refine lv_iadd hx hb dJx4a65c_add_72be8_18 ?_
    refine w_puti (ci := 0) (T := TJx4a65c) (ty := .int) hx hb hts hin_TJx4a65c tyJx4a65c tyJx4a65c_ok nmJx4a65c hown hK hW hS hkl hdl (by decide) rfl 2 (by decide) (hts (.fieldLink RJx4a65c 48 "java/util/ArrayList" "size" "I") (by decide +kernel)) (fun _ h9 => h9) rfl (tyJx4a65c_ok 2 (by decide)) rfl rfl (Nat.le_of_ble_eq_true rfl) rfl dJx4a65c_add_72be8_19 (fun H locs hW hS => ?_)
    exact w_vretG hx hb hr hlk hW hS hqa dJx4a65c_add_72be8_22
set_option maxHeartbeats 4000000 in
set_option maxRecDepth 100000 in
theorem c_add72R {X : (Nat → Prop) → State → Prop} (hxo : xok X) (l : Launch) (D : va_G) (q : Cq) {dm : List Nat} {kd ln adS : Nat → Nat} (V : Mv) (J : Mj) (R : Mr) (t : Nat) (lst b n : Nat) (mi ci : Nat) (C : String) (T : u_T) (nn : Nat) (dm' : List Nat) (ln' : Nat → Nat) (R' : Mr) (hkt : t ∈ dm) (hdt : kd t = ci) (htb : t ≠ b) (ht19 : t ≠ 19) (hsz : V lst 2 = nI n) (hkl : lst ∈ dm) (hdl : kd lst = 0) (hl19 : lst ≠ 19) (hlb : lst ≠ b) (hb18 : b ≠ 18) (hKb : kd b = 13) (hn6 : n ≤ 60) (hrf : ∀ k ∈ dm, ∀ j, R k j = some b → k = lst ∧ j = 1) (hn19 : 19 ∉ dm) (hrc : rcl dm R) (hzb : b ∉ dm → zat V J R b) (hz19 : zat V J R 19) (hK19 : kd 19 = 13) (hN19 : ln 19 = n + n / 2) (hl1 : ln b < 1000) (hem : ∀ i, n ≤ i → R b i = none) (hel : ∀ i t, R b i = some t → t ∈ dm ∧ kd t = ci) (hstS : ∀ (A : Nat → Prop) (U : State), X A U → strX adS A U) (hci : ci < 10) (hc : vwCl[ci]? = some (C, T, nn)) (hca : ∀ (A : Nat → Prop) (U : State), X A U → va_Nw (.castable C "java/lang/Object") U) (hal : ∀ (A : Nat → Prop) (U : State), X A U → alX mi U) (hkb0 : b ∈ dm) (hlt9 : n < ln b) (hdm : dm' = dm) (hln : ln' = ln) (hRR : R' = R) : CtX X l yJx4a65c_add_72be8 wsJx4a65c_add_72be8 ({ frames := 7, cells := 1, slots := 100, locals := 220 }) D q dm kd ln adS V J R [.ref (adS lst), .ref (adS t), .ref (adS b), .int (nI n)] (QGv (fun k => k = b ∨ k = 19) adS D q (dm') kd (ln') (u2 V lst 2 (nI n + 1)) (J) (u2 R' b n (some t))) 1 100 := by
  refine CtX_of (cc := cJx4a65c_add_72be8) (maxL := 4) (ret := none) (by decide +kernel) rfl (Nat.le_of_ble_eq_true rfl) ?_
  intro p e s m args below meth c A hx hb hr hml hts hown hlk hmn hK hW hA hXs ls hl
  have hS : va_S A s.heap s.heap [] := va_S.rf
  obtain ⟨ad, had⟩ : ∃ a : Nat → Nat, a = adS := ⟨_, rfl⟩
  have hqa : ∀ k, ¬ (k = b ∨ k = 19) → ad k = adS k := fun k _ => by rw [had]
  rw [← had] at hW
  have hl : lv_has ls 4 [(0, .ref (ad lst)), (1, .ref (ad t)), (2, .ref (ad b)), (3, .int (nI n))] := by rw [had]; exact hl
  have hin_TJx4a65c : ∀ w ∈ u_ws RJx4a65c TJx4a65c 3, w ∈ wsJx4a65c_add_72be8 := by decide +kernel
  rw [hdm, hln, hRR]
  have hkb9 := hkb0
  refine lv_iload_n hx hb dJx4a65c_add_72be8_0 rfl (lv_at hl 3 rfl) ?_
  refine lv_aload_n hx hb dJx4a65c_add_72be8_1 rfl (lv_at hl 2 rfl) ?_
  refine w_alenq hx hb hK hW hkb0 hKb rfl dJx4a65c_add_72be8_2 ?_
  refine lv_icmp_ne (tgt := 11) hx hb dJx4a65c_add_72be8_3 (by decide) (fun c_3 => ?_) (fun c_3 => ?_)
  · refine lv_aload_n hx hb dJx4a65c_add_72be8_11 rfl (lv_at hl 2 rfl) ?_
    refine lv_iload_n hx hb dJx4a65c_add_72be8_12 rfl (lv_at hl 3 rfl) ?_
    refine lv_aload_n hx hb dJx4a65c_add_72be8_13 rfl (lv_at hl 1 rfl) ?_
    refine w_aast (k := b) (t := t) (ci := ci) hx hb hK hW hS hkb9 hKb hkt hdt hci hc (hca A s hXs) (i := nI n) (inx_v.mpr (inx_n hlt9 (by omega))) dJx4a65c_add_72be8_14 (fun H locs hW hS => ?_)
    rw [nI_clamp (by omega)] at hW
    refine lv_aload_n hx hb dJx4a65c_add_72be8_15 rfl (lv_at hl 0 rfl) ?_
    refine lv_iload_n hx hb dJx4a65c_add_72be8_16 rfl (lv_at hl 3 rfl) ?_
    refine lv_iconst (v := 1) hx hb dJx4a65c_add_72be8_17 (by decide) ?_
    refine lv_iadd hx hb dJx4a65c_add_72be8_18 ?_
    refine w_puti (ci := 0) (T := TJx4a65c) (ty := .int) hx hb hts hin_TJx4a65c tyJx4a65c tyJx4a65c_ok nmJx4a65c hown hK hW hS hkl hdl (by decide) rfl 2 (by decide) (hts (.fieldLink RJx4a65c 48 "java/util/ArrayList" "size" "I") (by decide +kernel)) (fun _ h9 => h9) rfl (tyJx4a65c_ok 2 (by decide)) rfl rfl (Nat.le_of_ble_eq_true rfl) rfl dJx4a65c_add_72be8_19 (fun H locs hW hS => ?_)
    refine W.widen (k := 1) (n := 100) (by omega) (by omega) ?_
    exact w_vretG hx hb hr hlk hW hS hqa dJx4a65c_add_72be8_22
  · exact absurd ((nI_eq (by omega) (by omega)).mp c_3) (by omega)
theorem c_add72 {X : (Nat → Prop) → State → Prop} (hxo : xok X) (l : Launch) (D : va_G) (q : Cq) {dm : List Nat} {kd ln adS : Nat → Nat} (V : Mv) (J : Mj) (R : Mr) (t e2 : Nat) (lst b n : Nat) (mi ci : Nat) (C : String) (T : u_T) (nn : Nat) (dm' : List Nat) (ln' : Nat → Nat) (R' : Mr) (hkt : t ∈ dm) (hdt : kd t = ci) (htb : t ≠ b) (ht19 : t ≠ 19) (hsz : V lst 2 = nI n) (hkl : lst ∈ dm) (hdl : kd lst = 0) (hl19 : lst ≠ 19) (hlb : lst ≠ b) (hb18 : b ≠ 18) (hKb : kd b = 13) (hn6 : n ≤ 60) (hrf : ∀ k ∈ dm, ∀ j, R k j = some b → k = lst ∧ j = 1) (hn19 : 19 ∉ dm) (hrc : rcl dm R) (hzb : b ∉ dm → zat V J R b) (hz19 : zat V J R 19) (hK19 : kd 19 = 13) (hN19 : ln 19 = n + n / 2) (hem : ∀ i, n ≤ i → R b i = none) (hel : ∀ i t, R b i = some t → t ∈ dm ∧ kd t = ci) (hstS : ∀ (A : Nat → Prop) (U : State), X A U → strX adS A U) (hci : ci < 10) (hc : vwCl[ci]? = some (C, T, nn)) (hca : ∀ (A : Nat → Prop) (U : State), X A U → va_Nw (.castable C "java/lang/Object") U) (hal : ∀ (A : Nat → Prop) (U : State), X A U → alX mi U) (ha : ast dm ln R lst b n dm' ln' R') (he2 : R lst 1 = some e2) (hl1 : ln b < 1000) : CtX X l yJx4a65c_add_72be8 wsJx4a65c_add_72be8 ({ frames := 7, cells := 1, slots := 100, locals := 220 }) D q dm kd ln adS V J R [.ref (adS lst), .ref (adS t), .ref (adS e2), .int (nI n)] (QGv (fun k => k = b ∨ k = 19) adS D q dm' kd ln' (u2 V lst 2 (nI n + 1)) J (u2 R' b n (some t))) 1 100 := by
  rcases ha with hg | ⟨h1, h2, h3, h4, h5, h6⟩
  · rcases id hg with ⟨h0, -, h2, -⟩ | ⟨h1, h2, h3, h4, -⟩
    · have e : e2 = 18 := Option.some.inj (he2.symm.trans h2)
      rw [e]
      exact c_add72E hxo l D q V J R t lst b n mi ci C T nn dm' ln' R' hkt hdt htb ht19 hsz hkl hdl hl19 hlb hb18 hKb hn6 hrf hn19 hrc hzb hz19 hK19 hN19 hem hel hstS hci hc hca hal hg h0
    · have e : e2 = b := Option.some.inj (he2.symm.trans h3)
      rw [e]
      exact c_add72F hxo l D q V J R t lst b n mi ci C T nn dm' ln' R' hkt hdt htb ht19 hsz hkl hdl hl19 hlb hb18 hKb hn6 hrf hn19 hrc hzb hz19 hK19 hN19 hem hel hstS hci hc hca hal hg h2 h4
  · have e : e2 = b := Option.some.inj (he2.symm.trans h3)
    rw [e]
    exact c_add72R hxo l D q V J R t lst b n mi ci C T nn dm' ln' R' hkt hdt htb ht19 hsz hkl hdl hl19 hlb hb18 hKb hn6 hrf hn19 hrc hzb hz19 hK19 hN19 hl1 hem hel hstS hci hc hca hal h2 h1 h4 h5 h6
set_option maxHeartbeats 4000000 in
set_option maxRecDepth 100000 in
theorem c_add {X : (Nat → Prop) → State → Prop} (hxo : xok X) (l : Launch) (D : va_G) (q : Cq) {dm : List Nat} {kd ln adS : Nat → Nat} (V : Mv) (J : Mj) (R : Mr) (t e2 : Nat) (lst b n : Nat) (mi ci : Nat) (C : String) (T : u_T) (nn : Nat) (dm' : List Nat) (ln' : Nat → Nat) (R' : Mr) (hkt : t ∈ dm) (hdt : kd t = ci) (htb : t ≠ b) (ht19 : t ≠ 19) (hsz : V lst 2 = nI n) (hkl : lst ∈ dm) (hdl : kd lst = 0) (hl19 : lst ≠ 19) (hlb : lst ≠ b) (hb18 : b ≠ 18) (hKb : kd b = 13) (hn6 : n ≤ 60) (hrf : ∀ k ∈ dm, ∀ j, R k j = some b → k = lst ∧ j = 1) (hn19 : 19 ∉ dm) (hrc : rcl dm R) (hzb : b ∉ dm → zat V J R b) (hz19 : zat V J R 19) (hK19 : kd 19 = 13) (hN19 : ln 19 = n + n / 2) (hem : ∀ i, n ≤ i → R b i = none) (hel : ∀ i t, R b i = some t → t ∈ dm ∧ kd t = ci) (hstS : ∀ (A : Nat → Prop) (U : State), X A U → strX adS A U) (hci : ci < 10) (hc : vwCl[ci]? = some (C, T, nn)) (hca : ∀ (A : Nat → Prop) (U : State), X A U → va_Nw (.castable C "java/lang/Object") U) (hal : ∀ (A : Nat → Prop) (U : State), X A U → alX mi U) (ha : ast dm ln R lst b n dm' ln' R') (he2 : R lst 1 = some e2) (hl1 : ln b < 1000) : CtX X l yJx4a65c_add_9ea2d wsJx4a65c_add_9ea2d ({ frames := 8, cells := 1, slots := 100, locals := 260 }) D q dm kd ln adS V J R [.ref (adS lst), .ref (adS t)] (QGi (1) (fun k => k = b ∨ k = 19) adS D q (dm') kd (ln') (u2 (u2 V lst 0 (V lst 0 + 1)) lst 2 (nI n + 1)) (J) (u2 R' b n (some t))) 1 100 := by
  refine CtX_of (cc := cJx4a65c_add_9ea2d) (maxL := 2) (ret := (some .boolean)) (by decide +kernel) rfl (Nat.le_of_ble_eq_true rfl) ?_
  intro p e s m args below meth c A hx hb hr hml hts hown hlk hmn hK hW hA hXs ls hl
  have hS : va_S A s.heap s.heap [] := va_S.rf
  obtain ⟨ad, had⟩ : ∃ a : Nat → Nat, a = adS := ⟨_, rfl⟩
  have hqa : ∀ k, ¬ (k = b ∨ k = 19) → ad k = adS k := fun k _ => by rw [had]
  rw [← had] at hW
  have hl : lv_has ls 2 [(0, .ref (ad lst)), (1, .ref (ad t))] := by rw [had]; exact hl
  have hin_TJx4a65c : ∀ w ∈ u_ws RJx4a65c TJx4a65c 3, w ∈ wsJx4a65c_add_9ea2d := by decide +kernel
  refine lv_aload_n hx hb dJx4a65c_add_9ea2d_0 rfl (lv_at hl 0 rfl) ?_
  refine lv_dup hx hb dJx4a65c_add_9ea2d_1 rfl ?_
  refine w_get (ci := 0) (T := TJx4a65c) hx hb hts hin_TJx4a65c hown hK hW hkl hdl (by decide) rfl 0 (by decide) (hts (.fieldLink RJx4a65c 63 "java/util/ArrayList" "modCount" "I") (by decide +kernel)) (u_same (hts (.sameField "java/util/ArrayList" "java/util/AbstractList" "modCount" "I") (by decide +kernel))) rfl dJx4a65c_add_9ea2d_2 ?_
  refine lv_iconst (v := 1) hx hb dJx4a65c_add_9ea2d_5 (by decide) ?_
  refine lv_iadd hx hb dJx4a65c_add_9ea2d_6 ?_
  refine w_puti (ci := 0) (T := TJx4a65c) (ty := .int) hx hb hts hin_TJx4a65c tyJx4a65c tyJx4a65c_ok nmJx4a65c hown hK hW hS hkl hdl (by decide) rfl 0 (by decide) (hts (.fieldLink RJx4a65c 63 "java/util/ArrayList" "modCount" "I") (by decide +kernel)) (u_same (hts (.sameField "java/util/ArrayList" "java/util/AbstractList" "modCount" "I") (by decide +kernel))) rfl (tyJx4a65c_ok 0 (by decide)) rfl rfl (Nat.le_of_ble_eq_true rfl) rfl dJx4a65c_add_9ea2d_7 (fun H locs hW hS => ?_)
  refine lv_aload_n hx hb dJx4a65c_add_9ea2d_10 rfl (lv_at hl 0 rfl) ?_
  refine lv_aload_n hx hb dJx4a65c_add_9ea2d_11 rfl (lv_at hl 1 rfl) ?_
  refine lv_aload_n hx hb dJx4a65c_add_9ea2d_12 rfl (lv_at hl 0 rfl) ?_
  refine w_getr (ci := 0) (T := TJx4a65c) hx hb hts hin_TJx4a65c hown hK hW hkl hdl (by decide) rfl 1 (by decide) (hts (.fieldLink RJx4a65c 9 "java/util/ArrayList" "elementData" "[Ljava/lang/Object;") (by decide +kernel)) (fun _ h9 => h9) rfl he2 dJx4a65c_add_9ea2d_13 ?_
  refine lv_aload_n hx hb dJx4a65c_add_9ea2d_16 rfl (lv_at hl 0 rfl) ?_
  refine w_get (ci := 0) (T := TJx4a65c) hx hb hts hin_TJx4a65c hown hK hW hkl hdl (by decide) rfl 2 (by decide) (hts (.fieldLink RJx4a65c 48 "java/util/ArrayList" "size" "I") (by decide +kernel)) (fun _ h9 => h9) rfl dJx4a65c_add_9ea2d_17 ?_
  refine w_i (by rw [u2_sn (by decide)]) ?_
  refine w_i (y := nI n) (hsz) ?_
  refine w_cgv (w_runV ⟨hx, hb, hml, hown, hts⟩ (c_add72 hxo l D q (u2 V lst 0 ((V lst 0) + 1)) J R t e2 lst b n mi ci C T nn dm' ln' R' hkt hdt htb ht19 (by rw [u2_sn (by decide)]; exact hsz) hkl hdl hl19 hlb hb18 hKb hn6 hrf hn19 hrc (fun h => ⟨(u2_ne (Ne.symm hlb)).trans (hzb h).1, (hzb h).2⟩) ⟨(u2_ne (Ne.symm hl19)).trans hz19.1, hz19.2⟩ hK19 hN19 hem hel (by rw [had]; exact hstS) hci hc hca hal ha he2 hl1) hxo (cwV 3 hts gJx4a65c_add_9ea2d_Jx4a65c_add_72be8 rfl rfl rfl (by decide +kernel) ⟨Nat.le_of_ble_eq_true rfl, Nat.le_of_ble_eq_true rfl⟩) hK hW hS hA hXs (w_rcv hK hW hkl hdl (by decide) rfl) rfl hl.1 rfl (Nat.le_of_ble_eq_true rfl) dJx4a65c_add_9ea2d_20 ⟨Nat.le_of_ble_eq_true rfl, Nat.le_of_ble_eq_true rfl⟩) hW hS hA (fun ad H locs hq hW hS => ?_)
  have hl : lv_has ls 2 [(0, .ref (ad lst)), (1, .ref (ad t))] := by rw [hq lst (fun e => e.elim hlb hl19), hq t (fun e => e.elim htb ht19)]; exact hl
  have hqa : ∀ k, ¬ (k = b ∨ k = 19) → ad k = adS k := fun k hk => (hq k (fun e => hk (e))).trans (hqa k hk)
  refine lv_iconst (v := 1) hx hb dJx4a65c_add_9ea2d_23 (by decide) ?_
  exact w_zretG hx hb hr hlk hW hS hqa dJx4a65c_add_9ea2d_24
