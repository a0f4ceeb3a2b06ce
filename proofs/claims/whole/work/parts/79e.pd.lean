def x_pipeR (nP : Nat) (x lo la : Int32) : Int32 := if x = -1000000 ∨ inx nP x then (if 0 ≤ lo ∧ lo ≤ 50 then (if 0 ≤ la ∧ la ≤ 20 then -1000003 else -1000001) else -1000001) else -1000001
def x_dialR (nP : Nat) (x lo la : Int32) : Int32 := if inx nP x then (if 1 ≤ lo ∧ lo ≤ 100 then (if 0 ≤ la ∧ la ≤ 2 then -1000003 else -1000001) else -1000001) else -1000001
theorem rf_new {dm : List Nat} {R : Mr} {k b lst jj : Nat} {o : Option Nat} (h : ∀ k' ∈ dm, ∀ j, R k' j = some b → k' = lst ∧ j = 1) (hz : R k = (fun _ => none)) (ho : o ≠ some b) : ∀ k' ∈ dm ++ [k], ∀ j, u2 R k jj o k' j = some b → k' = lst ∧ j = 1 := by
  intro k' hk' j e
  by_cases hkj : k' = k ∧ j = jj
  · obtain ⟨rfl, rfl⟩ := hkj
    rw [u2_ss] at e
    exact absurd e ho
  · rw [u2_un hkj] at e
    rcases List.mem_append.mp hk' with q | q
    · exact h k' q j e
    · rw [List.mem_singleton.mp q, hz] at e
      cases e
theorem el_new {dm : List Nat} {kd : Nat → Nat} {R : Mr} {k b ci jj : Nat} {o : Option Nat} (h : ∀ i t, R b i = some t → t ∈ dm ∧ kd t = ci) (hb : b ≠ k) : ∀ i t, u2 R k jj o b i = some t → t ∈ dm ++ [k] ∧ kd t = ci := by
  intro i t e
  rw [u2_ne hb] at e
  exact ⟨mem_l (h i t e).1, (h i t e).2⟩
set_option maxHeartbeats 4000000 in
set_option maxRecDepth 100000 in
theorem c_pipeB {X : (Nat → Prop) → State → Prop} (hxo : xok X) (l : Launch) (D : va_G) (q : Cq) {dm : List Nat} {kd ln ad : Nat → Nat} (V : Mv) (J : Mj) (R : Mr) (nP nD : Nat) (x lo la : Int32) (hX : okX dm kd ln R nP nD) (hp : V 1 2 = nI nP) (hq : V 2 2 = nI nD) (hrej : ¬ ((x = -1000000 ∨ inx nP x) ∧ (0 ≤ lo ∧ lo ≤ 50) ∧ (0 ≤ la ∧ la ≤ 20) ∧ nP < 30)) : CtI X l yX7_pipe wsX7_pipe ({ frames := 4, cells := 0, slots := 0, locals := 85 }) D q dm kd ln ad V J R [.ref (ad 0), .int x, .int lo, .int la] (x_pipeR nP x lo la) (V) (J) (R) := by
  refine CtI_of (cc := cX7_pipe) (maxL := 6) (ret := (some .int)) (by decide +kernel) rfl (Nat.le_of_ble_eq_true rfl) ?_
  intro p e s m below meth c A hx hb hr hml hts hown hlk hmn hK hW hA hXs ls hl
  have hS : va_S A s.heap s.heap [] := va_S.rf
  have hl : lv_has ls 6 [(0, .ref (ad 0)), (1, .int x), (2, .int lo), (3, .int la)] := hl
  have hin_TX7 : ∀ w ∈ u_ws RX7 TX7 8, w ∈ wsX7_pipe := by decide +kernel
  refine lv_aload_n hx hb dX7_pipe_0 rfl (lv_at hl 0 rfl) ?_
  refine lv_iload_n hx hb dX7_pipe_1 rfl (lv_at hl 1 rfl) ?_
  refine w_cq (w_runV ⟨hx, hb, hml, hown, hts⟩ (c_X7_pipeAt hxo l D q V J R nP nD x hX hp) hxo (cwV 1 hts gX7_pipe_X7_pipeAt rfl rfl rfl (by decide +kernel) ⟨Nat.le_of_ble_eq_true rfl, Nat.le_of_ble_eq_true rfl⟩) hK hW hS hA hXs (w_rcv hK hW (hX.1 0 (by decide)).1 (hX.1 0 (by decide)).2.1 (by decide) rfl) rfl hl.1 rfl (Nat.le_of_ble_eq_true rfl) dX7_pipe_2 ⟨Nat.zero_le _, Nat.zero_le _⟩) hW hS hA (fun H locs hW hS => ?_)
  by_cases hix : inx nP x
  · refine w_some (by rw [x_at, if_pos hix]) ?_
    refine lv_astore (lv' := [(4, .ref (ad (100 + x.toNatClampNeg))), (0, .ref (ad 0)), (1, .int x), (2, .int lo), (3, .int la)]) hx hb dX7_pipe_5 hl (by decide) rfl (fun ls hl => ?_)
    refine lv_aload hx hb dX7_pipe_7 (lv_at hl 0 rfl) ?_
    refine lv_ifnonnull (tgt := 21) hx hb dX7_pipe_9 (by decide) ?_
    refine lv_iload_n hx hb dX7_pipe_21 rfl (lv_at hl 3 rfl) ?_
    refine lv_iconst (v := 0) hx hb dX7_pipe_22 (by decide) ?_
    refine lv_bipush (v := 50) hx hb dX7_pipe_23 (by decide) ?_
    refine w_ci (w_runS ⟨hx, hb, hml, hown, hts⟩ (c_X7_within hxo l D q V J R lo 0 50 ) hxo (va_cwS 3 hts gX7_pipe_X7_within rfl rfl rfl (by decide +kernel) ⟨Nat.le_of_ble_eq_true rfl, Nat.le_of_ble_eq_true rfl⟩) hK hW hS hA hXs rfl hl.1 rfl (Nat.le_of_ble_eq_true rfl) dX7_pipe_25 ⟨Nat.zero_le _, Nat.zero_le _⟩) hW hS hA (fun H locs hW hS => ?_)
    refine w_ifz (tgt := 41) hx hb dX7_pipe_28 (by decide) (fun c_28 => ?_) (fun c_28 => ?_)
    · refine lv_ldc (v := -1000001) hx hb hown (hts (.constant RX7 57 (-1000001)) (by decide +kernel)) dX7_pipe_41 ?_
      exact w_iret hx hb hr hlk hW hS (by rw [x_pipeR, if_pos (Or.inr hix), if_neg c_28]) rfl rfl rfl dX7_pipe_43
    · refine lv_iload_n hx hb dX7_pipe_31 rfl (lv_at hl 4 rfl) ?_
      refine lv_iconst (v := 0) hx hb dX7_pipe_32 (by decide) ?_
      refine lv_bipush (v := 20) hx hb dX7_pipe_33 (by decide) ?_
      refine w_ci (w_runS ⟨hx, hb, hml, hown, hts⟩ (c_X7_within hxo l D q V J R la 0 20 ) hxo (va_cwS 3 hts gX7_pipe_X7_within rfl rfl rfl (by decide +kernel) ⟨Nat.le_of_ble_eq_true rfl, Nat.le_of_ble_eq_true rfl⟩) hK hW hS hA hXs rfl hl.1 rfl (Nat.le_of_ble_eq_true rfl) dX7_pipe_35 ⟨Nat.zero_le _, Nat.zero_le _⟩) hW hS hA (fun H locs hW hS => ?_)
      refine w_ifnz (tgt := 44) hx hb dX7_pipe_38 (by decide) (fun c_38 => ?_) (fun c_38 => ?_)
      · refine lv_aload_n hx hb dX7_pipe_44 rfl (lv_at hl 1 rfl) ?_
        refine w_getr (ci := 8) (T := TX7) hx hb hts hin_TX7 hown hK hW (hX.1 0 (by decide)).1 (hX.1 0 (by decide)).2.1 (by decide) rfl 0 (by decide) (hts (.fieldLink RX7 10 "TownClocks" "pipes" "Ljava/util/ArrayList;") (by decide +kernel)) (fun _ h9 => h9) rfl ((hX.1 0 (by decide)).2.2.2 0 1 rfl) dX7_pipe_45 ?_
        refine w_ci (w_runV ⟨hx, hb, hml, hown, hts⟩ (c_Jx4a65c_size_8abf5 hxo l D q V J R 1 (hX.1 1 (by decide)).1 (hX.1 1 (by decide)).2.1) hxo (cwV 0 hts gX7_pipe_Jx4a65c_size_8abf5 rfl rfl rfl (by decide +kernel) ⟨Nat.le_of_ble_eq_true rfl, Nat.le_of_ble_eq_true rfl⟩) hK hW hS hA hXs (w_rcv hK hW (hX.1 1 (by decide)).1 (hX.1 1 (by decide)).2.1 (by decide) rfl) rfl hl.1 rfl (Nat.le_of_ble_eq_true rfl) dX7_pipe_48 ⟨Nat.zero_le _, Nat.zero_le _⟩) hW hS hA (fun H locs hW hS => ?_)
        refine w_i (y := nI nP) (hp) ?_
        refine lv_istore (lv' := [(5, .int (nI nP)), (4, .ref (ad (100 + x.toNatClampNeg))), (0, .ref (ad 0)), (1, .int x), (2, .int lo), (3, .int la)]) hx hb dX7_pipe_51 hl (by decide) rfl (fun ls hl => ?_)
        refine lv_iload hx hb dX7_pipe_53 (lv_at hl 0 rfl) ?_
        refine lv_bipush (v := 30) hx hb dX7_pipe_55 (by decide) ?_
        refine lv_icmp_lt (tgt := 63) hx hb dX7_pipe_57 (by decide) (fun c_57 => ?_) (fun c_57 => ?_)
        · exact absurd ⟨Or.inr hix, c_28, c_38, (nI_ltI (b := 30) (by have := hX.2.1; omega) (by decide)).mp c_57⟩ hrej
        · refine lv_ldc (v := -1000003) hx hb hown (hts (.constant RX7 66 (-1000003)) (by decide +kernel)) dX7_pipe_60 ?_
          exact w_iret hx hb hr hlk hW hS (by rw [x_pipeR, if_pos (Or.inr hix), if_pos c_28, if_pos c_38]) rfl rfl rfl dX7_pipe_62
      · refine lv_ldc (v := -1000001) hx hb hown (hts (.constant RX7 57 (-1000001)) (by decide +kernel)) dX7_pipe_41 ?_
        exact w_iret hx hb hr hlk hW hS (by rw [x_pipeR, if_pos (Or.inr hix), if_pos c_28, if_neg c_38]) rfl rfl rfl dX7_pipe_43
  · refine w_none (by rw [x_at, if_neg hix]) ?_
    refine lv_astoreN (lv' := [(4, .null), (0, .ref (ad 0)), (1, .int x), (2, .int lo), (3, .int la)]) hx hb dX7_pipe_5 hl (by decide) rfl (fun ls hl => ?_)
    refine lv_aloadN hx hb dX7_pipe_7 (lv_at hl 0 rfl) ?_
    refine lv_ifnonnullN hx hb dX7_pipe_9 ?_
    refine lv_iload_n hx hb dX7_pipe_12 rfl (lv_at hl 2 rfl) ?_
    refine lv_ldc (v := -1000000) hx hb hown (hts (.constant RX7 56 (-1000000)) (by decide +kernel)) dX7_pipe_13 ?_
    refine lv_icmp_eq (tgt := 21) hx hb dX7_pipe_15 (by decide) (fun c_15 => ?_) (fun c_15 => ?_)
    · refine lv_iload_n hx hb dX7_pipe_21 rfl (lv_at hl 3 rfl) ?_
      refine lv_iconst (v := 0) hx hb dX7_pipe_22 (by decide) ?_
      refine lv_bipush (v := 50) hx hb dX7_pipe_23 (by decide) ?_
      refine w_ci (w_runS ⟨hx, hb, hml, hown, hts⟩ (c_X7_within hxo l D q V J R lo 0 50 ) hxo (va_cwS 3 hts gX7_pipe_X7_within rfl rfl rfl (by decide +kernel) ⟨Nat.le_of_ble_eq_true rfl, Nat.le_of_ble_eq_true rfl⟩) hK hW hS hA hXs rfl hl.1 rfl (Nat.le_of_ble_eq_true rfl) dX7_pipe_25 ⟨Nat.zero_le _, Nat.zero_le _⟩) hW hS hA (fun H locs hW hS => ?_)
      refine w_ifz (tgt := 41) hx hb dX7_pipe_28 (by decide) (fun c_28 => ?_) (fun c_28 => ?_)
      · refine lv_ldc (v := -1000001) hx hb hown (hts (.constant RX7 57 (-1000001)) (by decide +kernel)) dX7_pipe_41 ?_
        exact w_iret hx hb hr hlk hW hS (by rw [x_pipeR, if_pos (Or.inl c_15), if_neg c_28]) rfl rfl rfl dX7_pipe_43
      · refine lv_iload_n hx hb dX7_pipe_31 rfl (lv_at hl 4 rfl) ?_
        refine lv_iconst (v := 0) hx hb dX7_pipe_32 (by decide) ?_
        refine lv_bipush (v := 20) hx hb dX7_pipe_33 (by decide) ?_
        refine w_ci (w_runS ⟨hx, hb, hml, hown, hts⟩ (c_X7_within hxo l D q V J R la 0 20 ) hxo (va_cwS 3 hts gX7_pipe_X7_within rfl rfl rfl (by decide +kernel) ⟨Nat.le_of_ble_eq_true rfl, Nat.le_of_ble_eq_true rfl⟩) hK hW hS hA hXs rfl hl.1 rfl (Nat.le_of_ble_eq_true rfl) dX7_pipe_35 ⟨Nat.zero_le _, Nat.zero_le _⟩) hW hS hA (fun H locs hW hS => ?_)
        refine w_ifnz (tgt := 44) hx hb dX7_pipe_38 (by decide) (fun c_38 => ?_) (fun c_38 => ?_)
        · refine lv_aload_n hx hb dX7_pipe_44 rfl (lv_at hl 1 rfl) ?_
          refine w_getr (ci := 8) (T := TX7) hx hb hts hin_TX7 hown hK hW (hX.1 0 (by decide)).1 (hX.1 0 (by decide)).2.1 (by decide) rfl 0 (by decide) (hts (.fieldLink RX7 10 "TownClocks" "pipes" "Ljava/util/ArrayList;") (by decide +kernel)) (fun _ h9 => h9) rfl ((hX.1 0 (by decide)).2.2.2 0 1 rfl) dX7_pipe_45 ?_
          refine w_ci (w_runV ⟨hx, hb, hml, hown, hts⟩ (c_Jx4a65c_size_8abf5 hxo l D q V J R 1 (hX.1 1 (by decide)).1 (hX.1 1 (by decide)).2.1) hxo (cwV 0 hts gX7_pipe_Jx4a65c_size_8abf5 rfl rfl rfl (by decide +kernel) ⟨Nat.le_of_ble_eq_true rfl, Nat.le_of_ble_eq_true rfl⟩) hK hW hS hA hXs (w_rcv hK hW (hX.1 1 (by decide)).1 (hX.1 1 (by decide)).2.1 (by decide) rfl) rfl hl.1 rfl (Nat.le_of_ble_eq_true rfl) dX7_pipe_48 ⟨Nat.zero_le _, Nat.zero_le _⟩) hW hS hA (fun H locs hW hS => ?_)
          refine w_i (y := nI nP) (hp) ?_
          refine lv_istore (lv' := [(5, .int (nI nP)), (4, .null), (0, .ref (ad 0)), (1, .int x), (2, .int lo), (3, .int la)]) hx hb dX7_pipe_51 hl (by decide) rfl (fun ls hl => ?_)
          refine lv_iload hx hb dX7_pipe_53 (lv_at hl 0 rfl) ?_
          refine lv_bipush (v := 30) hx hb dX7_pipe_55 (by decide) ?_
          refine lv_icmp_lt (tgt := 63) hx hb dX7_pipe_57 (by decide) (fun c_57 => ?_) (fun c_57 => ?_)
          · exact absurd ⟨Or.inl c_15, c_28, c_38, (nI_ltI (b := 30) (by have := hX.2.1; omega) (by decide)).mp c_57⟩ hrej
          · refine lv_ldc (v := -1000003) hx hb hown (hts (.constant RX7 66 (-1000003)) (by decide +kernel)) dX7_pipe_60 ?_
            exact w_iret hx hb hr hlk hW hS (by rw [x_pipeR, if_pos (Or.inl c_15), if_pos c_28, if_pos c_38]) rfl rfl rfl dX7_pipe_62
        · refine lv_ldc (v := -1000001) hx hb hown (hts (.constant RX7 57 (-1000001)) (by decide +kernel)) dX7_pipe_41 ?_
          exact w_iret hx hb hr hlk hW hS (by rw [x_pipeR, if_pos (Or.inl c_15), if_pos c_28, if_neg c_38]) rfl rfl rfl dX7_pipe_43
    · refine lv_ldc (v := -1000001) hx hb hown (hts (.constant RX7 57 (-1000001)) (by decide +kernel)) dX7_pipe_18 ?_
      exact w_iret hx hb hr hlk hW hS (by rw [x_pipeR, if_neg (fun z => z.elim c_15 hix)]) rfl rfl rfl dX7_pipe_20
set_option maxHeartbeats 4000000 in
set_option maxRecDepth 100000 in
theorem c_pipeN {X : (Nat → Prop) → State → Prop} (hxo : xok X) (l : Launch) (D : va_G) (q : Cq) {dm : List Nat} {kd ln adS : Nat → Nat} (V : Mv) (J : Mj) (R : Mr) (nP nD e2 mi : Nat) (x lo la : Int32) (dm' : List Nat) (ln' : Nat → Nat) (R' : Mr) (hX : okX dm kd ln R nP nD) (hp : V 1 2 = nI nP) (hq : V 2 2 = nI nD) (hxn : x = -1000000) (hlo : 0 ≤ lo ∧ lo ≤ 50) (hla : 0 ≤ la ∧ la ≤ 20) (hnP : nP < 30) (hkn : 100 + nP ∉ dm) (hzn : zat V J R (100 + nP)) (hKn : kd (100 + nP) = 4) (hrc : rcl dm R) (hn19 : 19 ∉ dm) (hz19 : zat V J R 19) (hK19 : kd 19 = 13) (hN19 : ln 19 = nP + nP / 2) (hK16 : kd 16 = 13) (hz16 : 16 ∉ dm → zat V J R 16) (hrf : ∀ k ∈ dm, ∀ j, R k j = some 16 → k = 1 ∧ j = 1) (hem : ∀ i, nP ≤ i → R 16 i = none) (hel : ∀ i t, R 16 i = some t → t ∈ dm ∧ kd t = 4) (he2 : R 1 1 = some e2) (hl1 : ln 16 < 1000) (hstS : ∀ (A : Nat → Prop) (U : State), X A U → strX adS A U) (hal : ∀ (A : Nat → Prop) (U : State), X A U → alX mi U) (ha : ast (dm ++ [100 + nP]) ln (u2 R (100 + nP) 1 (none)) 1 16 nP dm' ln' R') : CtX X l yX7_pipe wsX7_pipe ({ frames := 9, cells := 2, slots := 106, locals := 281 }) D q dm kd ln adS V J R [.ref (adS 0), .int x, .int lo, .int la] (QGi (nI nP) (fun k => k = 100 + nP ∨ k = 16 ∨ k = 19) adS D q (dm') kd (ln') (u2 (u2 (u2 (u2 (u2 (u2 V (100 + nP) 0 (nI nP)) (100 + nP) 2 (lo + 0)) (100 + nP) 3 (la + 0)) (100 + nP) 4 (((1 : Int32) <<< (nI nP &&& 31)) ||| 0)) 1 0 ((u2 (u2 (u2 (u2 V (100 + nP) 0 (nI nP)) (100 + nP) 2 (lo + 0)) (100 + nP) 3 (la + 0)) (100 + nP) 4 (((1 : Int32) <<< (nI nP &&& 31)) ||| 0)) 1 0 + 1)) 1 2 (nI nP + 1)) (J) (u2 R' 16 nP (some (100 + nP)))) 2 106 := by
  refine CtX_of (cc := cX7_pipe) (maxL := 6) (ret := (some .int)) (by decide +kernel) rfl (Nat.le_of_ble_eq_true rfl) ?_
  intro p e s m args below meth c A hx hb hr hml hts hown hlk hmn hK hW hA hXs ls hl
  have hS : va_S A s.heap s.heap [] := va_S.rf
  obtain ⟨ad, had⟩ : ∃ a : Nat → Nat, a = adS := ⟨_, rfl⟩
  have hqa : ∀ k, ¬ (k = 100 + nP ∨ k = 16 ∨ k = 19) → ad k = adS k := fun k _ => by rw [had]
  rw [← had] at hW
  have hl : lv_has ls 6 [(0, .ref (ad 0)), (1, .int x), (2, .int lo), (3, .int la)] := by rw [had]; exact hl
  have hin_TX7 : ∀ w ∈ u_ws RX7 TX7 8, w ∈ wsX7_pipe := by decide +kernel
  have hin_TX3 : ∀ w ∈ u_ws RX3 TX3 6, w ∈ wsX7_pipe := by decide +kernel
  have h16 : 1 ∈ dm := (hX.1 1 (by decide)).1
  refine lv_aload_n hx hb dX7_pipe_0 rfl (lv_at hl 0 rfl) ?_
  refine lv_iload_n hx hb dX7_pipe_1 rfl (lv_at hl 1 rfl) ?_
  refine w_cq (w_runV ⟨hx, hb, hml, hown, hts⟩ (c_X7_pipeAt hxo l D q V J R nP nD x hX hp) hxo (cwV 1 hts gX7_pipe_X7_pipeAt rfl rfl rfl (by decide +kernel) ⟨Nat.le_of_ble_eq_true rfl, Nat.le_of_ble_eq_true rfl⟩) hK hW hS hA hXs (w_rcv hK hW (hX.1 0 (by decide)).1 (hX.1 0 (by decide)).2.1 (by decide) rfl) rfl hl.1 rfl (Nat.le_of_ble_eq_true rfl) dX7_pipe_2 ⟨Nat.zero_le _, Nat.zero_le _⟩) hW hS hA (fun H locs hW hS => ?_)
  by_cases hix : inx nP x
  · refine w_some (by rw [x_at, if_pos hix]) ?_
    exact absurd (show (0 : Int) ≤ (-1000000 : Int32).toInt by rw [← hxn]; exact hix.1) (by decide)
  · refine w_none (by rw [x_at, if_neg hix]) ?_
    refine lv_astoreN (lv' := [(4, .null), (0, .ref (ad 0)), (1, .int x), (2, .int lo), (3, .int la)]) hx hb dX7_pipe_5 hl (by decide) rfl (fun ls hl => ?_)
    refine lv_aloadN hx hb dX7_pipe_7 (lv_at hl 0 rfl) ?_
    refine lv_ifnonnullN hx hb dX7_pipe_9 ?_
    refine lv_iload_n hx hb dX7_pipe_12 rfl (lv_at hl 2 rfl) ?_
    refine lv_ldc (v := -1000000) hx hb hown (hts (.constant RX7 56 (-1000000)) (by decide +kernel)) dX7_pipe_13 ?_
    refine lv_icmp_eq (tgt := 21) hx hb dX7_pipe_15 (by decide) (fun c_15 => ?_) (fun c_15 => ?_)
    · refine lv_iload_n hx hb dX7_pipe_21 rfl (lv_at hl 3 rfl) ?_
      refine lv_iconst (v := 0) hx hb dX7_pipe_22 (by decide) ?_
      refine lv_bipush (v := 50) hx hb dX7_pipe_23 (by decide) ?_
      refine w_ci (w_runS ⟨hx, hb, hml, hown, hts⟩ (c_X7_within hxo l D q V J R lo 0 50 ) hxo (va_cwS 3 hts gX7_pipe_X7_within rfl rfl rfl (by decide +kernel) ⟨Nat.le_of_ble_eq_true rfl, Nat.le_of_ble_eq_true rfl⟩) hK hW hS hA hXs rfl hl.1 rfl (Nat.le_of_ble_eq_true rfl) dX7_pipe_25 ⟨Nat.zero_le _, Nat.zero_le _⟩) hW hS hA (fun H locs hW hS => ?_)
      refine w_ifz (tgt := 41) hx hb dX7_pipe_28 (by decide) (fun c_28 => ?_) (fun c_28 => ?_)
      · exact absurd hlo c_28
      · refine lv_iload_n hx hb dX7_pipe_31 rfl (lv_at hl 4 rfl) ?_
        refine lv_iconst (v := 0) hx hb dX7_pipe_32 (by decide) ?_
        refine lv_bipush (v := 20) hx hb dX7_pipe_33 (by decide) ?_
        refine w_ci (w_runS ⟨hx, hb, hml, hown, hts⟩ (c_X7_within hxo l D q V J R la 0 20 ) hxo (va_cwS 3 hts gX7_pipe_X7_within rfl rfl rfl (by decide +kernel) ⟨Nat.le_of_ble_eq_true rfl, Nat.le_of_ble_eq_true rfl⟩) hK hW hS hA hXs rfl hl.1 rfl (Nat.le_of_ble_eq_true rfl) dX7_pipe_35 ⟨Nat.zero_le _, Nat.zero_le _⟩) hW hS hA (fun H locs hW hS => ?_)
        refine w_ifnz (tgt := 44) hx hb dX7_pipe_38 (by decide) (fun c_38 => ?_) (fun c_38 => ?_)
        · refine lv_aload_n hx hb dX7_pipe_44 rfl (lv_at hl 1 rfl) ?_
          refine w_getr (ci := 8) (T := TX7) hx hb hts hin_TX7 hown hK hW (hX.1 0 (by decide)).1 (hX.1 0 (by decide)).2.1 (by decide) rfl 0 (by decide) (hts (.fieldLink RX7 10 "TownClocks" "pipes" "Ljava/util/ArrayList;") (by decide +kernel)) (fun _ h9 => h9) rfl ((hX.1 0 (by decide)).2.2.2 0 1 rfl) dX7_pipe_45 ?_
          refine w_ci (w_runV ⟨hx, hb, hml, hown, hts⟩ (c_Jx4a65c_size_8abf5 hxo l D q V J R 1 (hX.1 1 (by decide)).1 (hX.1 1 (by decide)).2.1) hxo (cwV 0 hts gX7_pipe_Jx4a65c_size_8abf5 rfl rfl rfl (by decide +kernel) ⟨Nat.le_of_ble_eq_true rfl, Nat.le_of_ble_eq_true rfl⟩) hK hW hS hA hXs (w_rcv hK hW (hX.1 1 (by decide)).1 (hX.1 1 (by decide)).2.1 (by decide) rfl) rfl hl.1 rfl (Nat.le_of_ble_eq_true rfl) dX7_pipe_48 ⟨Nat.zero_le _, Nat.zero_le _⟩) hW hS hA (fun H locs hW hS => ?_)
          refine w_i (y := nI nP) (hp) ?_
          refine lv_istore (lv' := [(5, .int (nI nP)), (4, .null), (0, .ref (ad 0)), (1, .int x), (2, .int lo), (3, .int la)]) hx hb dX7_pipe_51 hl (by decide) rfl (fun ls hl => ?_)
          refine lv_iload hx hb dX7_pipe_53 (lv_at hl 0 rfl) ?_
          refine lv_bipush (v := 30) hx hb dX7_pipe_55 (by decide) ?_
          refine lv_icmp_lt (tgt := 63) hx hb dX7_pipe_57 (by decide) (fun c_57 => ?_) (fun c_57 => ?_)
          · refine lv_aload_n hx hb dX7_pipe_63 rfl (lv_at hl 2 rfl) ?_
            refine w_getr (ci := 8) (T := TX7) hx hb hts hin_TX7 hown hK hW (hX.1 0 (by decide)).1 (hX.1 0 (by decide)).2.1 (by decide) rfl 0 (by decide) (hts (.fieldLink RX7 10 "TownClocks" "pipes" "Ljava/util/ArrayList;") (by decide +kernel)) (fun _ h9 => h9) rfl ((hX.1 0 (by decide)).2.2.2 0 1 rfl) dX7_pipe_64 ?_
            refine w_new (ci := 4) (T := TX3) (k := 100 + nP) hx hb hts hin_TX3 tyX3 tyX3_ok hown (hts (.classLink RX7 67 RX3) (by decide +kernel)) (hts (.instantiable RX3 6) (by decide +kernel)) (hts (.initialized RX3) (by decide +kernel)) hK hW hS hA hkn (rcl_rf hrc hkn (by omega)) hzn hKn (by decide) rfl nf_4 (Nat.le_of_ble_eq_true rfl) (Nat.le_of_ble_eq_true rfl) dX7_pipe_67 (fun ad H hq hW hS => ?_)
            have hl : lv_has ls 6 [(5, .int (nI nP)), (4, .null), (0, .ref (ad 0)), (1, .int x), (2, .int lo), (3, .int la)] := by rw [hq 0 (by omega)]; exact hl
            refine w_st (st' := [.ref (ad (100 + nP)), .ref (ad 1)]) (by rw [hq 1 (by omega)] <;> rfl) ?_
            have hqa : ∀ k, ¬ (k = 100 + nP ∨ k = 16 ∨ k = 19) → ad k = adS k := fun k hk => (hq k (fun e => hk (by omega))).trans (hqa k hk)
            have hk9 : 100 + nP ∈ dm ++ [100 + nP] := mem_r
            refine lv_dup hx hb dX7_pipe_70 rfl ?_
            refine lv_iload hx hb dX7_pipe_71 (lv_at hl 0 rfl) ?_
            refine lv_aloadN hx hb dX7_pipe_73 (lv_at hl 1 rfl) ?_
            refine lv_iload_n hx hb dX7_pipe_75 rfl (lv_at hl 4 rfl) ?_
            refine lv_iload_n hx hb dX7_pipe_76 rfl (lv_at hl 5 rfl) ?_
            refine w_cv (w_runI ⟨hx, hb, hml, hown, hts⟩ (c_X3_initN hxo l D q V J R (100 + nP) (nI nP) lo la hk9 hKn) hxo (cwI 4 hts gX7_pipe_X3_init rfl rfl rfl (hts (.initialized RX3) (by decide +kernel)) (hts (.methodLink RX7 69 yX3_init) (by decide +kernel)) (hts (.instanceMethod yX3_init) (by decide +kernel)) rfl (by decide +kernel) ⟨Nat.le_of_ble_eq_true rfl, Nat.le_of_ble_eq_true rfl⟩) hK hW hS hA hXs rfl hl.1 rfl (Nat.le_of_ble_eq_true rfl) dX7_pipe_77 ⟨Nat.le_of_ble_eq_true rfl, Nat.le_of_ble_eq_true rfl⟩) hW hS hA (fun H locs hW hS => ?_)
            refine w_cgi (w_runV ⟨hx, hb, hml, hown, hts⟩ (c_add hxo l D q (u2 (u2 (u2 (u2 V (100 + nP) 0 (nI nP)) (100 + nP) 2 (lo + 0)) (100 + nP) 3 (la + 0)) (100 + nP) 4 (((1 : Int32) <<< ((nI nP) &&& 31)) ||| 0)) J (u2 R (100 + nP) 1 none) (100 + nP) e2 1 16 nP mi 4 RX3 TX3 6 dm' ln' R' hk9 hKn (by omega) (by omega) (by rw [u2_ne (by omega), u2_ne (by omega), u2_ne (by omega), u2_ne (by omega)]; exact hp) (mem_l h16) (show kd 1 = 0 from (hX.1 1 (by decide)).2.1) (by decide) (by decide) (by decide) hK16 (by omega) (rf_new hrf hzn.2.2 (by simp <;> omega)) (nmem hn19 (by omega)) (rcl_put (rcl_new hrc hzn.2.2) (fun t h => by cases h)) (fun h => ⟨by rw [u2_ne (by omega), u2_ne (by omega), u2_ne (by omega), u2_ne (by omega)]; exact (hz16 (fun z => h (mem_l z))).1, (hz16 (fun z => h (mem_l z))).2.1, by rw [u2_ne (by omega)]; exact (hz16 (fun z => h (mem_l z))).2.2⟩) ⟨by rw [u2_ne (by omega), u2_ne (by omega), u2_ne (by omega), u2_ne (by omega)]; exact hz19.1, hz19.2.1, by rw [u2_ne (by omega)]; exact hz19.2.2⟩ hK19 hN19 (fun i h => by rw [u2_ne (by omega)]; exact hem i h) (el_new hel (by omega)) (fun A U h => strX_ag (hqa 18 (by omega)) (fun i hi => hqa _ (by omega)) (fun i hi => hqa _ (by omega)) (hstS A U h)) (by decide) rfl (fun A U h => (hal A U h).2.2.2.1) hal ha (by rw [u2_ne (by omega)]; exact he2) hl1) hxo (cwV 1 hts gX7_pipe_Jx4a65c_add_9ea2d rfl rfl rfl (by decide +kernel) ⟨Nat.le_of_ble_eq_true rfl, Nat.le_of_ble_eq_true rfl⟩) hK hW hS hA hXs (w_rcv hK hW (mem_l (hX.1 1 (by decide)).1) (hX.1 1 (by decide)).2.1 (by decide) rfl) rfl hl.1 rfl (Nat.le_of_ble_eq_true rfl) dX7_pipe_80 ⟨Nat.le_of_ble_eq_true rfl, Nat.le_of_ble_eq_true rfl⟩) hW hS hA (fun ad H locs hq hW hS => ?_)
            have hl : lv_has ls 6 [(5, .int (nI nP)), (4, .null), (0, .ref (ad 0)), (1, .int x), (2, .int lo), (3, .int la)] := by rw [hq 0 (show ¬ (0 = 16 ∨ 0 = 19) by omega)]; exact hl
            have hqa : ∀ k, ¬ (k = 100 + nP ∨ k = 16 ∨ k = 19) → ad k = adS k := fun k hk => (hq k (fun e => hk (Or.inr e))).trans (hqa k hk)
            refine lv_pop hx hb dX7_pipe_83 rfl ?_
            refine lv_iload hx hb dX7_pipe_84 (lv_at hl 0 rfl) ?_
            exact w_iretG hx hb hr hlk hW hS rfl hqa dX7_pipe_86
          · exact absurd ((nI_ltI (b := 30) (by omega) (by decide)).mpr hnP) c_57
        · exact absurd hla c_38
    · exact absurd hxn c_15
set_option maxHeartbeats 4000000 in
set_option maxRecDepth 100000 in
theorem c_pipeP {X : (Nat → Prop) → State → Prop} (hxo : xok X) (l : Launch) (D : va_G) (q : Cq) {dm : List Nat} {kd ln adS : Nat → Nat} (V : Mv) (J : Mj) (R : Mr) (nP nD e2 mi : Nat) (x lo la : Int32) (dm' : List Nat) (ln' : Nat → Nat) (R' : Mr) (hX : okX dm kd ln R nP nD) (hp : V 1 2 = nI nP) (hq : V 2 2 = nI nD) (hxp : inx nP x) (hlo : 0 ≤ lo ∧ lo ≤ 50) (hla : 0 ≤ la ∧ la ≤ 20) (hnP : nP < 30) (hkn : 100 + nP ∉ dm) (hzn : zat V J R (100 + nP)) (hKn : kd (100 + nP) = 4) (hrc : rcl dm R) (hn19 : 19 ∉ dm) (hz19 : zat V J R 19) (hK19 : kd 19 = 13) (hN19 : ln 19 = nP + nP / 2) (hK16 : kd 16 = 13) (hz16 : 16 ∉ dm → zat V J R 16) (hrf : ∀ k ∈ dm, ∀ j, R k j = some 16 → k = 1 ∧ j = 1) (hem : ∀ i, nP ≤ i → R 16 i = none) (hel : ∀ i t, R 16 i = some t → t ∈ dm ∧ kd t = 4) (he2 : R 1 1 = some e2) (hl1 : ln 16 < 1000) (hstS : ∀ (A : Nat → Prop) (U : State), X A U → strX adS A U) (hal : ∀ (A : Nat → Prop) (U : State), X A U → alX mi U) (ha : ast (dm ++ [100 + nP]) ln (u2 R (100 + nP) 1 (some (100 + x.toNatClampNeg))) 1 16 nP dm' ln' R') : CtX X l yX7_pipe wsX7_pipe ({ frames := 9, cells := 2, slots := 106, locals := 281 }) D q dm kd ln adS V J R [.ref (adS 0), .int x, .int lo, .int la] (QGi (nI nP) (fun k => k = 100 + nP ∨ k = 16 ∨ k = 19) adS D q (dm') kd (ln') (u2 (u2 (u2 (u2 (u2 (u2 V (100 + nP) 0 (nI nP)) (100 + nP) 2 (lo + V (100 + x.toNatClampNeg) 2)) (100 + nP) 3 (la + V (100 + x.toNatClampNeg) 3)) (100 + nP) 4 (((1 : Int32) <<< (nI nP &&& 31)) ||| V (100 + x.toNatClampNeg) 4)) 1 0 ((u2 (u2 (u2 (u2 V (100 + nP) 0 (nI nP)) (100 + nP) 2 (lo + V (100 + x.toNatClampNeg) 2)) (100 + nP) 3 (la + V (100 + x.toNatClampNeg) 3)) (100 + nP) 4 (((1 : Int32) <<< (nI nP &&& 31)) ||| V (100 + x.toNatClampNeg) 4)) 1 0 + 1)) 1 2 (nI nP + 1)) (J) (u2 R' 16 nP (some (100 + nP)))) 2 106 := by
  refine CtX_of (cc := cX7_pipe) (maxL := 6) (ret := (some .int)) (by decide +kernel) rfl (Nat.le_of_ble_eq_true rfl) ?_
  intro p e s m args below meth c A hx hb hr hml hts hown hlk hmn hK hW hA hXs ls hl
  have hS : va_S A s.heap s.heap [] := va_S.rf
  obtain ⟨ad, had⟩ : ∃ a : Nat → Nat, a = adS := ⟨_, rfl⟩
  have hqa : ∀ k, ¬ (k = 100 + nP ∨ k = 16 ∨ k = 19) → ad k = adS k := fun k _ => by rw [had]
  rw [← had] at hW
  have hl : lv_has ls 6 [(0, .ref (ad 0)), (1, .int x), (2, .int lo), (3, .int la)] := by rw [had]; exact hl
  have hin_TX7 : ∀ w ∈ u_ws RX7 TX7 8, w ∈ wsX7_pipe := by decide +kernel
  have hin_TX3 : ∀ w ∈ u_ws RX3 TX3 6, w ∈ wsX7_pipe := by decide +kernel
  have h16 : 1 ∈ dm := (hX.1 1 (by decide)).1
  refine lv_aload_n hx hb dX7_pipe_0 rfl (lv_at hl 0 rfl) ?_
  refine lv_iload_n hx hb dX7_pipe_1 rfl (lv_at hl 1 rfl) ?_
  refine w_cq (w_runV ⟨hx, hb, hml, hown, hts⟩ (c_X7_pipeAt hxo l D q V J R nP nD x hX hp) hxo (cwV 1 hts gX7_pipe_X7_pipeAt rfl rfl rfl (by decide +kernel) ⟨Nat.le_of_ble_eq_true rfl, Nat.le_of_ble_eq_true rfl⟩) hK hW hS hA hXs (w_rcv hK hW (hX.1 0 (by decide)).1 (hX.1 0 (by decide)).2.1 (by decide) rfl) rfl hl.1 rfl (Nat.le_of_ble_eq_true rfl) dX7_pipe_2 ⟨Nat.zero_le _, Nat.zero_le _⟩) hW hS hA (fun H locs hW hS => ?_)
  by_cases hix : inx nP x
  · refine w_some (by rw [x_at, if_pos hix]) ?_
    have hka0 := (hX.2.2.1 x.toNatClampNeg (inx_c hix).1).1
    have hka9 : 100 + x.toNatClampNeg ∈ dm ++ [100 + nP] := mem_l hka0
    have hda9 := (hX.2.2.1 x.toNatClampNeg (inx_c hix).1).2.1
    refine lv_astore (lv' := [(4, .ref (ad (100 + x.toNatClampNeg))), (0, .ref (ad 0)), (1, .int x), (2, .int lo), (3, .int la)]) hx hb dX7_pipe_5 hl (by decide) rfl (fun ls hl => ?_)
    refine lv_aload hx hb dX7_pipe_7 (lv_at hl 0 rfl) ?_
    refine lv_ifnonnull (tgt := 21) hx hb dX7_pipe_9 (by decide) ?_
    refine lv_iload_n hx hb dX7_pipe_21 rfl (lv_at hl 3 rfl) ?_
    refine lv_iconst (v := 0) hx hb dX7_pipe_22 (by decide) ?_
    refine lv_bipush (v := 50) hx hb dX7_pipe_23 (by decide) ?_
    refine w_ci (w_runS ⟨hx, hb, hml, hown, hts⟩ (c_X7_within hxo l D q V J R lo 0 50 ) hxo (va_cwS 3 hts gX7_pipe_X7_within rfl rfl rfl (by decide +kernel) ⟨Nat.le_of_ble_eq_true rfl, Nat.le_of_ble_eq_true rfl⟩) hK hW hS hA hXs rfl hl.1 rfl (Nat.le_of_ble_eq_true rfl) dX7_pipe_25 ⟨Nat.zero_le _, Nat.zero_le _⟩) hW hS hA (fun H locs hW hS => ?_)
    refine w_ifz (tgt := 41) hx hb dX7_pipe_28 (by decide) (fun c_28 => ?_) (fun c_28 => ?_)
    · exact absurd hlo c_28
    · refine lv_iload_n hx hb dX7_pipe_31 rfl (lv_at hl 4 rfl) ?_
      refine lv_iconst (v := 0) hx hb dX7_pipe_32 (by decide) ?_
      refine lv_bipush (v := 20) hx hb dX7_pipe_33 (by decide) ?_
      refine w_ci (w_runS ⟨hx, hb, hml, hown, hts⟩ (c_X7_within hxo l D q V J R la 0 20 ) hxo (va_cwS 3 hts gX7_pipe_X7_within rfl rfl rfl (by decide +kernel) ⟨Nat.le_of_ble_eq_true rfl, Nat.le_of_ble_eq_true rfl⟩) hK hW hS hA hXs rfl hl.1 rfl (Nat.le_of_ble_eq_true rfl) dX7_pipe_35 ⟨Nat.zero_le _, Nat.zero_le _⟩) hW hS hA (fun H locs hW hS => ?_)
      refine w_ifnz (tgt := 44) hx hb dX7_pipe_38 (by decide) (fun c_38 => ?_) (fun c_38 => ?_)
      · refine lv_aload_n hx hb dX7_pipe_44 rfl (lv_at hl 1 rfl) ?_
        refine w_getr (ci := 8) (T := TX7) hx hb hts hin_TX7 hown hK hW (hX.1 0 (by decide)).1 (hX.1 0 (by decide)).2.1 (by decide) rfl 0 (by decide) (hts (.fieldLink RX7 10 "TownClocks" "pipes" "Ljava/util/ArrayList;") (by decide +kernel)) (fun _ h9 => h9) rfl ((hX.1 0 (by decide)).2.2.2 0 1 rfl) dX7_pipe_45 ?_
        refine w_ci (w_runV ⟨hx, hb, hml, hown, hts⟩ (c_Jx4a65c_size_8abf5 hxo l D q V J R 1 (hX.1 1 (by decide)).1 (hX.1 1 (by decide)).2.1) hxo (cwV 0 hts gX7_pipe_Jx4a65c_size_8abf5 rfl rfl rfl (by decide +kernel) ⟨Nat.le_of_ble_eq_true rfl, Nat.le_of_ble_eq_true rfl⟩) hK hW hS hA hXs (w_rcv hK hW (hX.1 1 (by decide)).1 (hX.1 1 (by decide)).2.1 (by decide) rfl) rfl hl.1 rfl (Nat.le_of_ble_eq_true rfl) dX7_pipe_48 ⟨Nat.zero_le _, Nat.zero_le _⟩) hW hS hA (fun H locs hW hS => ?_)
        refine w_i (y := nI nP) (hp) ?_
        refine lv_istore (lv' := [(5, .int (nI nP)), (4, .ref (ad (100 + x.toNatClampNeg))), (0, .ref (ad 0)), (1, .int x), (2, .int lo), (3, .int la)]) hx hb dX7_pipe_51 hl (by decide) rfl (fun ls hl => ?_)
        refine lv_iload hx hb dX7_pipe_53 (lv_at hl 0 rfl) ?_
        refine lv_bipush (v := 30) hx hb dX7_pipe_55 (by decide) ?_
        refine lv_icmp_lt (tgt := 63) hx hb dX7_pipe_57 (by decide) (fun c_57 => ?_) (fun c_57 => ?_)
        · refine lv_aload_n hx hb dX7_pipe_63 rfl (lv_at hl 2 rfl) ?_
          refine w_getr (ci := 8) (T := TX7) hx hb hts hin_TX7 hown hK hW (hX.1 0 (by decide)).1 (hX.1 0 (by decide)).2.1 (by decide) rfl 0 (by decide) (hts (.fieldLink RX7 10 "TownClocks" "pipes" "Ljava/util/ArrayList;") (by decide +kernel)) (fun _ h9 => h9) rfl ((hX.1 0 (by decide)).2.2.2 0 1 rfl) dX7_pipe_64 ?_
          refine w_new (ci := 4) (T := TX3) (k := 100 + nP) hx hb hts hin_TX3 tyX3 tyX3_ok hown (hts (.classLink RX7 67 RX3) (by decide +kernel)) (hts (.instantiable RX3 6) (by decide +kernel)) (hts (.initialized RX3) (by decide +kernel)) hK hW hS hA hkn (rcl_rf hrc hkn (by omega)) hzn hKn (by decide) rfl nf_4 (Nat.le_of_ble_eq_true rfl) (Nat.le_of_ble_eq_true rfl) dX7_pipe_67 (fun ad H hq hW hS => ?_)
          have hl : lv_has ls 6 [(5, .int (nI nP)), (4, .ref (ad (100 + x.toNatClampNeg))), (0, .ref (ad 0)), (1, .int x), (2, .int lo), (3, .int la)] := by rw [hq (100 + x.toNatClampNeg) (by have := (inx_c hix).1; omega), hq 0 (by omega)]; exact hl
          refine w_st (st' := [.ref (ad (100 + nP)), .ref (ad 1)]) (by rw [hq 1 (by omega)] <;> rfl) ?_
          have hqa : ∀ k, ¬ (k = 100 + nP ∨ k = 16 ∨ k = 19) → ad k = adS k := fun k hk => (hq k (fun e => hk (by omega))).trans (hqa k hk)
          have hk9 : 100 + nP ∈ dm ++ [100 + nP] := mem_r
          refine lv_dup hx hb dX7_pipe_70 rfl ?_
          refine lv_iload hx hb dX7_pipe_71 (lv_at hl 0 rfl) ?_
          refine lv_aload hx hb dX7_pipe_73 (lv_at hl 1 rfl) ?_
          refine lv_iload_n hx hb dX7_pipe_75 rfl (lv_at hl 4 rfl) ?_
          refine lv_iload_n hx hb dX7_pipe_76 rfl (lv_at hl 5 rfl) ?_
          refine w_cv (w_runI ⟨hx, hb, hml, hown, hts⟩ (c_X3_init hxo l D q V J R (100 + nP) (100 + x.toNatClampNeg) (nI nP) lo la hk9 hKn hka9 hda9 (by have := (inx_c hix).1; omega)) hxo (cwI 4 hts gX7_pipe_X3_init rfl rfl rfl (hts (.initialized RX3) (by decide +kernel)) (hts (.methodLink RX7 69 yX3_init) (by decide +kernel)) (hts (.instanceMethod yX3_init) (by decide +kernel)) rfl (by decide +kernel) ⟨Nat.le_of_ble_eq_true rfl, Nat.le_of_ble_eq_true rfl⟩) hK hW hS hA hXs rfl hl.1 rfl (Nat.le_of_ble_eq_true rfl) dX7_pipe_77 ⟨Nat.le_of_ble_eq_true rfl, Nat.le_of_ble_eq_true rfl⟩) hW hS hA (fun H locs hW hS => ?_)
          refine w_cgi (w_runV ⟨hx, hb, hml, hown, hts⟩ (c_add hxo l D q (u2 (u2 (u2 (u2 V (100 + nP) 0 (nI nP)) (100 + nP) 2 (lo + V (100 + x.toNatClampNeg) 2)) (100 + nP) 3 (la + V (100 + x.toNatClampNeg) 3)) (100 + nP) 4 (((1 : Int32) <<< ((nI nP) &&& 31)) ||| V (100 + x.toNatClampNeg) 4)) J (u2 R (100 + nP) 1 (some (100 + x.toNatClampNeg))) (100 + nP) e2 1 16 nP mi 4 RX3 TX3 6 dm' ln' R' hk9 hKn (by omega) (by omega) (by rw [u2_ne (by omega), u2_ne (by omega), u2_ne (by omega), u2_ne (by omega)]; exact hp) (mem_l h16) (show kd 1 = 0 from (hX.1 1 (by decide)).2.1) (by decide) (by decide) (by decide) hK16 (by omega) (rf_new hrf hzn.2.2 (by simp <;> omega)) (nmem hn19 (by omega)) (rcl_put (rcl_new hrc hzn.2.2) (ho_m (mem_l hka0))) (fun h => ⟨by rw [u2_ne (by omega), u2_ne (by omega), u2_ne (by omega), u2_ne (by omega)]; exact (hz16 (fun z => h (mem_l z))).1, (hz16 (fun z => h (mem_l z))).2.1, by rw [u2_ne (by omega)]; exact (hz16 (fun z => h (mem_l z))).2.2⟩) ⟨by rw [u2_ne (by omega), u2_ne (by omega), u2_ne (by omega), u2_ne (by omega)]; exact hz19.1, hz19.2.1, by rw [u2_ne (by omega)]; exact hz19.2.2⟩ hK19 hN19 (fun i h => by rw [u2_ne (by omega)]; exact hem i h) (el_new hel (by omega)) (fun A U h => strX_ag (hqa 18 (by omega)) (fun i hi => hqa _ (by omega)) (fun i hi => hqa _ (by omega)) (hstS A U h)) (by decide) rfl (fun A U h => (hal A U h).2.2.2.1) hal ha (by rw [u2_ne (by omega)]; exact he2) hl1) hxo (cwV 1 hts gX7_pipe_Jx4a65c_add_9ea2d rfl rfl rfl (by decide +kernel) ⟨Nat.le_of_ble_eq_true rfl, Nat.le_of_ble_eq_true rfl⟩) hK hW hS hA hXs (w_rcv hK hW (mem_l (hX.1 1 (by decide)).1) (hX.1 1 (by decide)).2.1 (by decide) rfl) rfl hl.1 rfl (Nat.le_of_ble_eq_true rfl) dX7_pipe_80 ⟨Nat.le_of_ble_eq_true rfl, Nat.le_of_ble_eq_true rfl⟩) hW hS hA (fun ad H locs hq hW hS => ?_)
          have hl : lv_has ls 6 [(5, .int (nI nP)), (4, .ref (ad (100 + x.toNatClampNeg))), (0, .ref (ad 0)), (1, .int x), (2, .int lo), (3, .int la)] := by rw [hq (100 + x.toNatClampNeg) (show ¬ (100 + x.toNatClampNeg = 16 ∨ 100 + x.toNatClampNeg = 19) by omega), hq 0 (show ¬ (0 = 16 ∨ 0 = 19) by omega)]; exact hl
          have hqa : ∀ k, ¬ (k = 100 + nP ∨ k = 16 ∨ k = 19) → ad k = adS k := fun k hk => (hq k (fun e => hk (Or.inr e))).trans (hqa k hk)
          refine lv_pop hx hb dX7_pipe_83 rfl ?_
          refine lv_iload hx hb dX7_pipe_84 (lv_at hl 0 rfl) ?_
          exact w_iretG hx hb hr hlk hW hS rfl hqa dX7_pipe_86
        · exact absurd ((nI_ltI (b := 30) (by omega) (by decide)).mpr hnP) c_57
      · exact absurd hla c_38
  · refine w_none (by rw [x_at, if_neg hix]) ?_
    exact absurd hxp hix
set_option maxHeartbeats 4000000 in
set_option maxRecDepth 100000 in
theorem c_dialB {X : (Nat → Prop) → State → Prop} (hxo : xok X) (l : Launch) (D : va_G) (q : Cq) {dm : List Nat} {kd ln ad : Nat → Nat} (V : Mv) (J : Mj) (R : Mr) (nP nD : Nat) (x lo la : Int32) (hX : okX dm kd ln R nP nD) (hp : V 1 2 = nI nP) (hq : V 2 2 = nI nD) (hrej : ¬ (inx nP x ∧ (1 ≤ lo ∧ lo ≤ 100) ∧ (0 ≤ la ∧ la ≤ 2) ∧ nD < 40)) : CtI X l yX7_dial wsX7_dial ({ frames := 4, cells := 0, slots := 0, locals := 85 }) D q dm kd ln ad V J R [.ref (ad 0), .int x, .int lo, .int la] (x_dialR nP x lo la) (V) (J) (R) := by
  refine CtI_of (cc := cX7_dial) (maxL := 6) (ret := (some .int)) (by decide +kernel) rfl (Nat.le_of_ble_eq_true rfl) ?_
  intro p e s m below meth c A hx hb hr hml hts hown hlk hmn hK hW hA hXs ls hl
  have hS : va_S A s.heap s.heap [] := va_S.rf
  have hl : lv_has ls 6 [(0, .ref (ad 0)), (1, .int x), (2, .int lo), (3, .int la)] := hl
  have hin_TX7 : ∀ w ∈ u_ws RX7 TX7 8, w ∈ wsX7_dial := by decide +kernel
  refine lv_aload_n hx hb dX7_dial_0 rfl (lv_at hl 0 rfl) ?_
  refine lv_iload_n hx hb dX7_dial_1 rfl (lv_at hl 1 rfl) ?_
  refine w_cq (w_runV ⟨hx, hb, hml, hown, hts⟩ (c_X7_pipeAt hxo l D q V J R nP nD x hX hp) hxo (cwV 1 hts gX7_dial_X7_pipeAt rfl rfl rfl (by decide +kernel) ⟨Nat.le_of_ble_eq_true rfl, Nat.le_of_ble_eq_true rfl⟩) hK hW hS hA hXs (w_rcv hK hW (hX.1 0 (by decide)).1 (hX.1 0 (by decide)).2.1 (by decide) rfl) rfl hl.1 rfl (Nat.le_of_ble_eq_true rfl) dX7_dial_2 ⟨Nat.zero_le _, Nat.zero_le _⟩) hW hS hA (fun H locs hW hS => ?_)
  by_cases hix : inx nP x
  · refine w_some (by rw [x_at, if_pos hix]) ?_
    refine lv_astore (lv' := [(4, .ref (ad (100 + x.toNatClampNeg))), (0, .ref (ad 0)), (1, .int x), (2, .int lo), (3, .int la)]) hx hb dX7_dial_5 hl (by decide) rfl (fun ls hl => ?_)
    refine lv_aload hx hb dX7_dial_7 (lv_at hl 0 rfl) ?_
    refine lv_ifnull hx hb dX7_dial_9 ?_
    refine lv_iload_n hx hb dX7_dial_12 rfl (lv_at hl 3 rfl) ?_
    refine lv_iconst (v := 1) hx hb dX7_dial_13 (by decide) ?_
    refine lv_bipush (v := 100) hx hb dX7_dial_14 (by decide) ?_
    refine w_ci (w_runS ⟨hx, hb, hml, hown, hts⟩ (c_X7_within hxo l D q V J R lo 1 100 ) hxo (va_cwS 3 hts gX7_dial_X7_within rfl rfl rfl (by decide +kernel) ⟨Nat.le_of_ble_eq_true rfl, Nat.le_of_ble_eq_true rfl⟩) hK hW hS hA hXs rfl hl.1 rfl (Nat.le_of_ble_eq_true rfl) dX7_dial_16 ⟨Nat.zero_le _, Nat.zero_le _⟩) hW hS hA (fun H locs hW hS => ?_)
    refine w_ifz (tgt := 31) hx hb dX7_dial_19 (by decide) (fun c_19 => ?_) (fun c_19 => ?_)
    · refine lv_ldc (v := -1000001) hx hb hown (hts (.constant RX7 57 (-1000001)) (by decide +kernel)) dX7_dial_31 ?_
      exact w_iret hx hb hr hlk hW hS (by rw [x_dialR, if_pos hix, if_neg c_19]) rfl rfl rfl dX7_dial_33
    · refine lv_iload_n hx hb dX7_dial_22 rfl (lv_at hl 4 rfl) ?_
      refine lv_iconst (v := 0) hx hb dX7_dial_23 (by decide) ?_
      refine lv_iconst (v := 2) hx hb dX7_dial_24 (by decide) ?_
      refine w_ci (w_runS ⟨hx, hb, hml, hown, hts⟩ (c_X7_within hxo l D q V J R la 0 2 ) hxo (va_cwS 3 hts gX7_dial_X7_within rfl rfl rfl (by decide +kernel) ⟨Nat.le_of_ble_eq_true rfl, Nat.le_of_ble_eq_true rfl⟩) hK hW hS hA hXs rfl hl.1 rfl (Nat.le_of_ble_eq_true rfl) dX7_dial_25 ⟨Nat.zero_le _, Nat.zero_le _⟩) hW hS hA (fun H locs hW hS => ?_)
      refine w_ifnz (tgt := 34) hx hb dX7_dial_28 (by decide) (fun c_28 => ?_) (fun c_28 => ?_)
      · refine lv_aload_n hx hb dX7_dial_34 rfl (lv_at hl 1 rfl) ?_
        refine w_getr (ci := 8) (T := TX7) hx hb hts hin_TX7 hown hK hW (hX.1 0 (by decide)).1 (hX.1 0 (by decide)).2.1 (by decide) rfl 1 (by decide) (hts (.fieldLink RX7 16 "TownClocks" "dials" "Ljava/util/ArrayList;") (by decide +kernel)) (fun _ h9 => h9) rfl ((hX.1 0 (by decide)).2.2.2 1 2 rfl) dX7_dial_35 ?_
        refine w_ci (w_runV ⟨hx, hb, hml, hown, hts⟩ (c_Jx4a65c_size_8abf5 hxo l D q V J R 2 (hX.1 2 (by decide)).1 (hX.1 2 (by decide)).2.1) hxo (cwV 0 hts gX7_dial_Jx4a65c_size_8abf5 rfl rfl rfl (by decide +kernel) ⟨Nat.le_of_ble_eq_true rfl, Nat.le_of_ble_eq_true rfl⟩) hK hW hS hA hXs (w_rcv hK hW (hX.1 2 (by decide)).1 (hX.1 2 (by decide)).2.1 (by decide) rfl) rfl hl.1 rfl (Nat.le_of_ble_eq_true rfl) dX7_dial_38 ⟨Nat.zero_le _, Nat.zero_le _⟩) hW hS hA (fun H locs hW hS => ?_)
        refine w_i (y := nI nD) (hq) ?_
        refine lv_istore (lv' := [(5, .int (nI nD)), (4, .ref (ad (100 + x.toNatClampNeg))), (0, .ref (ad 0)), (1, .int x), (2, .int lo), (3, .int la)]) hx hb dX7_dial_41 hl (by decide) rfl (fun ls hl => ?_)
        refine lv_iload hx hb dX7_dial_43 (lv_at hl 0 rfl) ?_
        refine lv_bipush (v := 40) hx hb dX7_dial_45 (by decide) ?_
        refine lv_icmp_lt (tgt := 53) hx hb dX7_dial_47 (by decide) (fun c_47 => ?_) (fun c_47 => ?_)
        · exact absurd ⟨hix, c_19, c_28, (nI_ltI (b := 40) (by have := hX.2.1; omega) (by decide)).mp c_47⟩ hrej
        · refine lv_ldc (v := -1000003) hx hb hown (hts (.constant RX7 66 (-1000003)) (by decide +kernel)) dX7_dial_50 ?_
          exact w_iret hx hb hr hlk hW hS (by rw [x_dialR, if_pos hix, if_pos c_19, if_pos c_28]) rfl rfl rfl dX7_dial_52
      · refine lv_ldc (v := -1000001) hx hb hown (hts (.constant RX7 57 (-1000001)) (by decide +kernel)) dX7_dial_31 ?_
        exact w_iret hx hb hr hlk hW hS (by rw [x_dialR, if_pos hix, if_pos c_19, if_neg c_28]) rfl rfl rfl dX7_dial_33
  · refine w_none (by rw [x_at, if_neg hix]) ?_
    refine lv_astoreN (lv' := [(4, .null), (0, .ref (ad 0)), (1, .int x), (2, .int lo), (3, .int la)]) hx hb dX7_dial_5 hl (by decide) rfl (fun ls hl => ?_)
    refine lv_aloadN hx hb dX7_dial_7 (lv_at hl 0 rfl) ?_
    refine lv_ifnullN (tgt := 31) hx hb dX7_dial_9 (by decide) ?_
    refine lv_ldc (v := -1000001) hx hb hown (hts (.constant RX7 57 (-1000001)) (by decide +kernel)) dX7_dial_31 ?_
    exact w_iret hx hb hr hlk hW hS (by rw [x_dialR, if_neg hix]) rfl rfl rfl dX7_dial_33
set_option maxHeartbeats 4000000 in
set_option maxRecDepth 100000 in
theorem c_dialA {X : (Nat → Prop) → State → Prop} (hxo : xok X) (l : Launch) (D : va_G) (q : Cq) {dm : List Nat} {kd ln adS : Nat → Nat} (V : Mv) (J : Mj) (R : Mr) (nP nD e2 mi : Nat) (x lo la : Int32) (dm' : List Nat) (ln' : Nat → Nat) (R' : Mr) (hX : okX dm kd ln R nP nD) (hp : V 1 2 = nI nP) (hq : V 2 2 = nI nD) (hxp : inx nP x) (hlo : 1 ≤ lo ∧ lo ≤ 100) (hla : 0 ≤ la ∧ la ≤ 2) (hnD : nD < 40) (hkn : 200 + nD ∉ dm) (hzn : zat V J R (200 + nD)) (hKn : kd (200 + nD) = 1) (hrc : rcl dm R) (hn19 : 19 ∉ dm) (hz19 : zat V J R 19) (hK19 : kd 19 = 13) (hN19 : ln 19 = nD + nD / 2) (hK17 : kd 17 = 13) (hz17 : 17 ∉ dm → zat V J R 17) (hrf : ∀ k ∈ dm, ∀ j, R k j = some 17 → k = 2 ∧ j = 1) (hem : ∀ i, nD ≤ i → R 17 i = none) (hel : ∀ i t, R 17 i = some t → t ∈ dm ∧ kd t = 1) (he2 : R 2 1 = some e2) (hl1 : ln 17 < 1000) (hstS : ∀ (A : Nat → Prop) (U : State), X A U → strX adS A U) (hal : ∀ (A : Nat → Prop) (U : State), X A U → alX mi U) (ha : ast (dm ++ [200 + nD]) ln (u2 R (200 + nD) 0 (some (100 + x.toNatClampNeg))) 2 17 nD dm' ln' R') : CtX X l yX7_dial wsX7_dial ({ frames := 9, cells := 2, slots := 112, locals := 281 }) D q dm kd ln adS V J R [.ref (adS 0), .int x, .int lo, .int la] (QGi (nI nD) (fun k => k = 200 + nD ∨ k = 17 ∨ k = 19) adS D q (dm') kd (ln') (u2 (u2 (u2 (u2 V (200 + nD) 1 lo) (200 + nD) 2 la) 2 0 ((u2 (u2 V (200 + nD) 1 lo) (200 + nD) 2 la) 2 0 + 1)) 2 2 (nI nD + 1)) (J) (u2 R' 17 nD (some (200 + nD)))) 2 112 := by
  refine CtX_of (cc := cX7_dial) (maxL := 6) (ret := (some .int)) (by decide +kernel) rfl (Nat.le_of_ble_eq_true rfl) ?_
  intro p e s m args below meth c A hx hb hr hml hts hown hlk hmn hK hW hA hXs ls hl
  have hS : va_S A s.heap s.heap [] := va_S.rf
  obtain ⟨ad, had⟩ : ∃ a : Nat → Nat, a = adS := ⟨_, rfl⟩
  have hqa : ∀ k, ¬ (k = 200 + nD ∨ k = 17 ∨ k = 19) → ad k = adS k := fun k _ => by rw [had]
  rw [← had] at hW
  have hl : lv_has ls 6 [(0, .ref (ad 0)), (1, .int x), (2, .int lo), (3, .int la)] := by rw [had]; exact hl
  have hin_TX7 : ∀ w ∈ u_ws RX7 TX7 8, w ∈ wsX7_dial := by decide +kernel
  have hin_TX0 : ∀ w ∈ u_ws RX0 TX0 12, w ∈ wsX7_dial := by decide +kernel
  have h17 : 2 ∈ dm := (hX.1 2 (by decide)).1
  have h30 := hX.2.1
  have hq9 := hq
  refine lv_aload_n hx hb dX7_dial_0 rfl (lv_at hl 0 rfl) ?_
  refine lv_iload_n hx hb dX7_dial_1 rfl (lv_at hl 1 rfl) ?_
  refine w_cq (w_runV ⟨hx, hb, hml, hown, hts⟩ (c_X7_pipeAt hxo l D q V J R nP nD x hX hp) hxo (cwV 1 hts gX7_dial_X7_pipeAt rfl rfl rfl (by decide +kernel) ⟨Nat.le_of_ble_eq_true rfl, Nat.le_of_ble_eq_true rfl⟩) hK hW hS hA hXs (w_rcv hK hW (hX.1 0 (by decide)).1 (hX.1 0 (by decide)).2.1 (by decide) rfl) rfl hl.1 rfl (Nat.le_of_ble_eq_true rfl) dX7_dial_2 ⟨Nat.zero_le _, Nat.zero_le _⟩) hW hS hA (fun H locs hW hS => ?_)
  by_cases hix : inx nP x
  · refine w_some (by rw [x_at, if_pos hix]) ?_
    have hka0 := (hX.2.2.1 x.toNatClampNeg (inx_c hix).1).1
    refine lv_astore (lv' := [(4, .ref (ad (100 + x.toNatClampNeg))), (0, .ref (ad 0)), (1, .int x), (2, .int lo), (3, .int la)]) hx hb dX7_dial_5 hl (by decide) rfl (fun ls hl => ?_)
    refine lv_aload hx hb dX7_dial_7 (lv_at hl 0 rfl) ?_
    refine lv_ifnull hx hb dX7_dial_9 ?_
    refine lv_iload_n hx hb dX7_dial_12 rfl (lv_at hl 3 rfl) ?_
    refine lv_iconst (v := 1) hx hb dX7_dial_13 (by decide) ?_
    refine lv_bipush (v := 100) hx hb dX7_dial_14 (by decide) ?_
    refine w_ci (w_runS ⟨hx, hb, hml, hown, hts⟩ (c_X7_within hxo l D q V J R lo 1 100 ) hxo (va_cwS 3 hts gX7_dial_X7_within rfl rfl rfl (by decide +kernel) ⟨Nat.le_of_ble_eq_true rfl, Nat.le_of_ble_eq_true rfl⟩) hK hW hS hA hXs rfl hl.1 rfl (Nat.le_of_ble_eq_true rfl) dX7_dial_16 ⟨Nat.zero_le _, Nat.zero_le _⟩) hW hS hA (fun H locs hW hS => ?_)
    refine w_ifz (tgt := 31) hx hb dX7_dial_19 (by decide) (fun c_19 => ?_) (fun c_19 => ?_)
    · exact absurd hlo c_19
    · refine lv_iload_n hx hb dX7_dial_22 rfl (lv_at hl 4 rfl) ?_
      refine lv_iconst (v := 0) hx hb dX7_dial_23 (by decide) ?_
      refine lv_iconst (v := 2) hx hb dX7_dial_24 (by decide) ?_
      refine w_ci (w_runS ⟨hx, hb, hml, hown, hts⟩ (c_X7_within hxo l D q V J R la 0 2 ) hxo (va_cwS 3 hts gX7_dial_X7_within rfl rfl rfl (by decide +kernel) ⟨Nat.le_of_ble_eq_true rfl, Nat.le_of_ble_eq_true rfl⟩) hK hW hS hA hXs rfl hl.1 rfl (Nat.le_of_ble_eq_true rfl) dX7_dial_25 ⟨Nat.zero_le _, Nat.zero_le _⟩) hW hS hA (fun H locs hW hS => ?_)
      refine w_ifnz (tgt := 34) hx hb dX7_dial_28 (by decide) (fun c_28 => ?_) (fun c_28 => ?_)
      · refine lv_aload_n hx hb dX7_dial_34 rfl (lv_at hl 1 rfl) ?_
        refine w_getr (ci := 8) (T := TX7) hx hb hts hin_TX7 hown hK hW (hX.1 0 (by decide)).1 (hX.1 0 (by decide)).2.1 (by decide) rfl 1 (by decide) (hts (.fieldLink RX7 16 "TownClocks" "dials" "Ljava/util/ArrayList;") (by decide +kernel)) (fun _ h9 => h9) rfl ((hX.1 0 (by decide)).2.2.2 1 2 rfl) dX7_dial_35 ?_
        refine w_ci (w_runV ⟨hx, hb, hml, hown, hts⟩ (c_Jx4a65c_size_8abf5 hxo l D q V J R 2 (hX.1 2 (by decide)).1 (hX.1 2 (by decide)).2.1) hxo (cwV 0 hts gX7_dial_Jx4a65c_size_8abf5 rfl rfl rfl (by decide +kernel) ⟨Nat.le_of_ble_eq_true rfl, Nat.le_of_ble_eq_true rfl⟩) hK hW hS hA hXs (w_rcv hK hW (hX.1 2 (by decide)).1 (hX.1 2 (by decide)).2.1 (by decide) rfl) rfl hl.1 rfl (Nat.le_of_ble_eq_true rfl) dX7_dial_38 ⟨Nat.zero_le _, Nat.zero_le _⟩) hW hS hA (fun H locs hW hS => ?_)
        refine w_i (y := nI nD) (hq) ?_
        refine lv_istore (lv' := [(5, .int (nI nD)), (4, .ref (ad (100 + x.toNatClampNeg))), (0, .ref (ad 0)), (1, .int x), (2, .int lo), (3, .int la)]) hx hb dX7_dial_41 hl (by decide) rfl (fun ls hl => ?_)
        refine lv_iload hx hb dX7_dial_43 (lv_at hl 0 rfl) ?_
        refine lv_bipush (v := 40) hx hb dX7_dial_45 (by decide) ?_
        refine lv_icmp_lt (tgt := 53) hx hb dX7_dial_47 (by decide) (fun c_47 => ?_) (fun c_47 => ?_)
        · refine lv_aload_n hx hb dX7_dial_53 rfl (lv_at hl 2 rfl) ?_
          refine w_getr (ci := 8) (T := TX7) hx hb hts hin_TX7 hown hK hW (hX.1 0 (by decide)).1 (hX.1 0 (by decide)).2.1 (by decide) rfl 1 (by decide) (hts (.fieldLink RX7 16 "TownClocks" "dials" "Ljava/util/ArrayList;") (by decide +kernel)) (fun _ h9 => h9) rfl ((hX.1 0 (by decide)).2.2.2 1 2 rfl) dX7_dial_54 ?_
          refine w_new (ci := 1) (T := TX0) (k := 200 + nD) hx hb hts hin_TX0 tyX0 tyX0_ok hown (hts (.classLink RX7 86 RX0) (by decide +kernel)) (hts (.instantiable RX0 12) (by decide +kernel)) (hts (.initialized RX0) (by decide +kernel)) hK hW hS hA hkn (rcl_rf hrc hkn (by omega)) hzn hKn (by decide) rfl nf_1 (Nat.le_of_ble_eq_true rfl) (Nat.le_of_ble_eq_true rfl) dX7_dial_57 (fun ad H hq hW hS => ?_)
          have hl : lv_has ls 6 [(5, .int (nI nD)), (4, .ref (ad (100 + x.toNatClampNeg))), (0, .ref (ad 0)), (1, .int x), (2, .int lo), (3, .int la)] := by rw [hq (100 + x.toNatClampNeg) (by have := (inx_c hix).1; omega), hq 0 (by omega)]; exact hl
          refine w_st (st' := [.ref (ad (200 + nD)), .ref (ad 2)]) (by rw [hq 2 (by omega)] <;> rfl) ?_
          have hqa : ∀ k, ¬ (k = 200 + nD ∨ k = 17 ∨ k = 19) → ad k = adS k := fun k hk => (hq k (fun e => hk (by omega))).trans (hqa k hk)
          have hk9 : 200 + nD ∈ dm ++ [200 + nD] := mem_r
          refine lv_dup hx hb dX7_dial_60 rfl ?_
          refine lv_aload hx hb dX7_dial_61 (lv_at hl 1 rfl) ?_
          refine lv_iload_n hx hb dX7_dial_63 rfl (lv_at hl 4 rfl) ?_
          refine lv_iload_n hx hb dX7_dial_64 rfl (lv_at hl 5 rfl) ?_
          refine w_cv (w_runI ⟨hx, hb, hml, hown, hts⟩ (c_X0_init hxo l D q V J R (200 + nD) x.toNatClampNeg lo la hk9 hKn) hxo (cwI 3 hts gX7_dial_X0_init rfl rfl rfl (hts (.initialized RX0) (by decide +kernel)) (hts (.methodLink RX7 88 yX0_init) (by decide +kernel)) (hts (.instanceMethod yX0_init) (by decide +kernel)) rfl (by decide +kernel) ⟨Nat.le_of_ble_eq_true rfl, Nat.le_of_ble_eq_true rfl⟩) hK hW hS hA hXs rfl hl.1 rfl (Nat.le_of_ble_eq_true rfl) dX7_dial_65 ⟨Nat.le_of_ble_eq_true rfl, Nat.le_of_ble_eq_true rfl⟩) hW hS hA (fun H locs hW hS => ?_)
          refine w_cgi (w_runV ⟨hx, hb, hml, hown, hts⟩ (c_add hxo l D q (u2 (u2 V (200 + nD) 1 lo) (200 + nD) 2 la) J (u2 R (200 + nD) 0 (some (100 + x.toNatClampNeg))) (200 + nD) e2 2 17 nD mi 1 RX0 TX0 12 dm' ln' R' hk9 hKn (by omega) (by omega) (by rw [u2_ne (by omega), u2_ne (by omega)]; exact hq9) (mem_l h17) (show kd 2 = 0 from (hX.1 2 (by decide)).2.1) (by decide) (by decide) (by decide) hK17 (by omega) (rf_new hrf hzn.2.2 (by simp <;> omega)) (nmem hn19 (by omega)) (rcl_put (rcl_new hrc hzn.2.2) (ho_m (mem_l hka0))) (fun h => ⟨by rw [u2_ne (by omega), u2_ne (by omega)]; exact (hz17 (fun z => h (mem_l z))).1, (hz17 (fun z => h (mem_l z))).2.1, by rw [u2_ne (by omega)]; exact (hz17 (fun z => h (mem_l z))).2.2⟩) ⟨by rw [u2_ne (by omega), u2_ne (by omega)]; exact hz19.1, hz19.2.1, by rw [u2_ne (by omega)]; exact hz19.2.2⟩ hK19 hN19 (fun i h => by rw [u2_ne (by omega)]; exact hem i h) (el_new hel (by omega)) (fun A U h => strX_ag (hqa 18 (by omega)) (fun i hi => hqa _ (by omega)) (fun i hi => hqa _ (by omega)) (hstS A U h)) (by decide) rfl (fun A U h => (hal A U h).2.2.2.2) hal ha (by rw [u2_ne (by omega)]; exact he2) hl1) hxo (cwV 1 hts gX7_dial_Jx4a65c_add_9ea2d rfl rfl rfl (by decide +kernel) ⟨Nat.le_of_ble_eq_true rfl, Nat.le_of_ble_eq_true rfl⟩) hK hW hS hA hXs (w_rcv hK hW (mem_l (hX.1 2 (by decide)).1) (hX.1 2 (by decide)).2.1 (by decide) rfl) rfl hl.1 rfl (Nat.le_of_ble_eq_true rfl) dX7_dial_68 ⟨Nat.le_of_ble_eq_true rfl, Nat.le_of_ble_eq_true rfl⟩) hW hS hA (fun ad H locs hq hW hS => ?_)
          have hl : lv_has ls 6 [(5, .int (nI nD)), (4, .ref (ad (100 + x.toNatClampNeg))), (0, .ref (ad 0)), (1, .int x), (2, .int lo), (3, .int la)] := by rw [hq (100 + x.toNatClampNeg) (show ¬ (100 + x.toNatClampNeg = 17 ∨ 100 + x.toNatClampNeg = 19) by omega), hq 0 (show ¬ (0 = 17 ∨ 0 = 19) by omega)]; exact hl
          have hqa : ∀ k, ¬ (k = 200 + nD ∨ k = 17 ∨ k = 19) → ad k = adS k := fun k hk => (hq k (fun e => hk (Or.inr e))).trans (hqa k hk)
          refine lv_pop hx hb dX7_dial_71 rfl ?_
          refine lv_iload hx hb dX7_dial_72 (lv_at hl 0 rfl) ?_
          exact w_iretG hx hb hr hlk hW hS rfl hqa dX7_dial_74
        · exact absurd ((nI_ltI (b := 40) (by omega) (by decide)).mpr hnD) c_47
      · exact absurd hla c_28
  · refine w_none (by rw [x_at, if_neg hix]) ?_
    exact absurd hxp hix
