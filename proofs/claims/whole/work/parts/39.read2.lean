def x_ctR (F : Mv × Int32) (nD : Nat) : Int32 := if F.2 = 0 then -1000100 - F.1 10 6 else x_pf nD 0 (u2 F.1 8 1 0) 10 4
def x_ctV (F : Mv × Int32) (nD : Nat) : Mv := if F.2 = 0 then u2 F.1 8 1 0 else x_pf nD 0 (u2 F.1 8 1 0)
set_option maxHeartbeats 4000000 in
set_option maxRecDepth 100000 in
theorem c_X4_readTape {X : (Nat → Prop) → State → Prop} (hxo : xok X) (l : Launch) (D : va_G) (q : Cq) {dm : List Nat} {kd ln ad : Nat → Nat} (V : Mv) (J : Mj) (R : Mr) (nP nD L : Nat) (F : Mv × Int32) (hX : okX dm kd ln R nP nD) (hFe : F = x_tape V nD) (hL : V 8 1 = nI L) (hL3 : L ≤ 300) (hst : ∀ (A : Nat → Prop) (U : State), X A U → strX ad A U) : CtI X l yX4_readTape wsX4_readTape ({ frames := 7, cells := 0, slots := 0, locals := 152 }) D q dm kd ln ad V J R [.ref (ad 10), .int (nI nD)] (F.2) (F.1) (J) (R) := by
  refine CtI_of (cc := cX4_readTape) (maxL := 2) (ret := (some .boolean)) (by decide +kernel) rfl (Nat.le_of_ble_eq_true rfl) ?_
  intro p e s m below meth c A hx hb hr hml hts hown hlk hmn hK hW hA hXs ls hl
  have hS : va_S A s.heap s.heap [] := va_S.rf
  have hl : lv_has ls 2 [(0, .ref (ad 10)), (1, .int (nI nD))] := hl
  have hin_TX4 : ∀ w ∈ u_ws RX4 TX4 7, w ∈ wsX4_readTape := by decide +kernel
  have hin_TX5 : ∀ w ∈ u_ws RX5 TX5 5, w ∈ wsX4_readTape := by decide +kernel
  have hSt := hst A s hXs
  have hF0 : x_rt nD 301 (x_tokV (x_t0 V)) = F := by rw [hFe, x_tape]
  obtain ⟨N0, hN0⟩ : ∃ r, r = 301 := ⟨_, rfl⟩
  rw [← hN0] at hF0
  have J27 : ∀ n : Nat, ∀ (i : Nat) (Vw : Mv) (hn : i + n = 301) (ht : tkX Vw L) (hc4 : Vw 10 4 = nI i) (hF : x_rt nD n Vw = F) (H : Heap) (locs : List Loc) (ls : Array Slot), wok A D q dm kd ln ad Vw J R H → va_S A s.heap H locs → lv_has ls 2 [(0, .ref (ad 10)), (1, .int (nI nD))] → W p l e ({ frames := 7, cells := 0, slots := 0, locals := 152 }) s m ([.ref (ad 10), .int (nI nD)] : List Value).toArray below meth c H locs 0 0 (MQ below (QI (F.2) D q dm kd ln ad (F.1) (J) (R) A) ([.ref (ad 10), .int (nI nD)] : List Value).toArray s 0 0 A) (F0 m 27 ls []) := by
    intro n
    induction n with
    | zero =>
      intro i Vw hn ht hc4 hF H locs ls hW hS hl
      refine lv_aload_n hx hb dX4_readTape_27 rfl (lv_at hl 0 rfl) ?_
      refine w_getr (ci := 5) (T := TX4) hx hb hts hin_TX4 hown hK hW (hX.1 10 (by decide)).1 (hX.1 10 (by decide)).2.1 (by decide) rfl 0 (by decide) (hts (.fieldLink RX4 12 "TownClocks$Reading" "tape" "LTownClocks$Tape;") (by decide +kernel)) (fun _ h9 => h9) rfl ((hX.1 10 (by decide)).2.2.2 0 8 rfl) dX4_readTape_28 ?_
      refine w_get (ci := 6) (T := TX5) hx hb hts hin_TX5 hown hK hW (hX.1 8 (by decide)).1 (hX.1 8 (by decide)).2.1 (by decide) rfl 2 (by decide) (hts (.fieldLink RX4 44 "TownClocks$Tape" "sort" "I") (by decide +kernel)) (fun _ h9 => h9) rfl dX4_readTape_31 ?_
      refine lv_if_eq (tgt := 77) hx hb dX4_readTape_34 (by decide) (fun c_34 => ?_) (fun c_34 => ?_)
      · refine lv_iconst (v := 1) hx hb dX4_readTape_77 (by decide) ?_
        exact w_zret hx hb hr hlk hW hS (Or.inr rfl) (by rw [← hF, x_rt]) (by rw [← hF, x_rt]) rfl rfl dX4_readTape_78
      · refine lv_aload_n hx hb dX4_readTape_37 rfl (lv_at hl 0 rfl) ?_
        refine w_get (ci := 5) (T := TX4) hx hb hts hin_TX4 hown hK hW (hX.1 10 (by decide)).1 (hX.1 10 (by decide)).2.1 (by decide) rfl 4 (by decide) (hts (.fieldLink RX4 34 "TownClocks$Reading" "contractsTold" "I") (by decide +kernel)) (fun _ h9 => h9) rfl dX4_readTape_38 ?_
        refine lv_sipush (v := 300) hx hb dX4_readTape_41 (by decide) ?_
        refine lv_icmp_gt (tgt := 77) hx hb dX4_readTape_44 (by decide) (fun c_44 => ?_) (fun c_44 => ?_)
        · refine lv_iconst (v := 1) hx hb dX4_readTape_77 (by decide) ?_
          exact w_zret hx hb hr hlk hW hS (Or.inr rfl) (by rw [← hF, x_rt]) (by rw [← hF, x_rt]) rfl rfl dX4_readTape_78
        · exact absurd (by rw [hc4, show i = 301 by omega]; decide) c_44
    | succ n ih =>
      intro i Vw hn ht hc4 hF H locs ls hW hS hl
      refine lv_aload_n hx hb dX4_readTape_27 rfl (lv_at hl 0 rfl) ?_
      refine w_getr (ci := 5) (T := TX4) hx hb hts hin_TX4 hown hK hW (hX.1 10 (by decide)).1 (hX.1 10 (by decide)).2.1 (by decide) rfl 0 (by decide) (hts (.fieldLink RX4 12 "TownClocks$Reading" "tape" "LTownClocks$Tape;") (by decide +kernel)) (fun _ h9 => h9) rfl ((hX.1 10 (by decide)).2.2.2 0 8 rfl) dX4_readTape_28 ?_
      refine w_get (ci := 6) (T := TX5) hx hb hts hin_TX5 hown hK hW (hX.1 8 (by decide)).1 (hX.1 8 (by decide)).2.1 (by decide) rfl 2 (by decide) (hts (.fieldLink RX4 44 "TownClocks$Tape" "sort" "I") (by decide +kernel)) (fun _ h9 => h9) rfl dX4_readTape_31 ?_
      refine lv_if_eq (tgt := 77) hx hb dX4_readTape_34 (by decide) (fun c_34 => ?_) (fun c_34 => ?_)
      · refine lv_iconst (v := 1) hx hb dX4_readTape_77 (by decide) ?_
        exact w_zret hx hb hr hlk hW hS (Or.inr rfl) (by rw [← hF, x_rt, if_pos c_34]) (by rw [← hF, x_rt, if_pos c_34]) rfl rfl dX4_readTape_78
      · refine lv_aload_n hx hb dX4_readTape_37 rfl (lv_at hl 0 rfl) ?_
        refine w_get (ci := 5) (T := TX4) hx hb hts hin_TX4 hown hK hW (hX.1 10 (by decide)).1 (hX.1 10 (by decide)).2.1 (by decide) rfl 4 (by decide) (hts (.fieldLink RX4 34 "TownClocks$Reading" "contractsTold" "I") (by decide +kernel)) (fun _ h9 => h9) rfl dX4_readTape_38 ?_
        refine lv_sipush (v := 300) hx hb dX4_readTape_41 (by decide) ?_
        refine lv_icmp_gt (tgt := 77) hx hb dX4_readTape_44 (by decide) (fun c_44 => ?_) (fun c_44 => ?_)
        · exact absurd c_44 (by rw [hc4]; exact Int32.not_lt.mpr (nI_le (b := 300) (by omega) (by decide)))
        · refine lv_aload_n hx hb dX4_readTape_47 rfl (lv_at hl 0 rfl) ?_
          refine lv_iload_n hx hb dX4_readTape_48 rfl (lv_at hl 1 rfl) ?_
          refine w_ci (w_runV ⟨hx, hb, hml, hown, hts⟩ (c_X4_readContract hxo l D q Vw J R nP nD L hX ht hst) hxo (cwV 1 hts gX4_readTape_X4_readContract rfl rfl rfl (by decide +kernel) ⟨Nat.le_of_ble_eq_true rfl, Nat.le_of_ble_eq_true rfl⟩) hK hW hS hA hXs (w_rcv hK hW (hX.1 10 (by decide)).1 (hX.1 10 (by decide)).2.1 (by decide) rfl) rfl hl.1 rfl (Nat.le_of_ble_eq_true rfl) dX4_readTape_49 ⟨Nat.zero_le _, Nat.zero_le _⟩) hW hS hA (fun H locs hW hS => ?_)
          refine lv_if_ne (tgt := 57) hx hb dX4_readTape_52 (by decide) (fun c_52 => ?_) (fun c_52 => ?_)
          · refine lv_aload_n hx hb dX4_readTape_57 rfl (lv_at hl 0 rfl) ?_
            refine lv_dup hx hb dX4_readTape_58 rfl ?_
            refine w_get (ci := 5) (T := TX4) hx hb hts hin_TX4 hown hK hW (hX.1 10 (by decide)).1 (hX.1 10 (by decide)).2.1 (by decide) rfl 4 (by decide) (hts (.fieldLink RX4 34 "TownClocks$Reading" "contractsTold" "I") (by decide +kernel)) (fun _ h9 => h9) rfl dX4_readTape_59 ?_
            refine lv_iconst (v := 1) hx hb dX4_readTape_62 (by decide) ?_
            refine lv_iadd hx hb dX4_readTape_63 ?_
            refine w_puti (ci := 5) (T := TX4) (ty := .int) hx hb hts hin_TX4 tyX4 tyX4_ok nmX4 hown hK hW hS (hX.1 10 (by decide)).1 (hX.1 10 (by decide)).2.1 (by decide) rfl 4 (by decide) (hts (.fieldLink RX4 34 "TownClocks$Reading" "contractsTold" "I") (by decide +kernel)) (fun _ h9 => h9) rfl (tyX4_ok 4 (by decide)) rfl rfl (Nat.le_of_ble_eq_true rfl) rfl dX4_readTape_64 (fun H locs hW hS => ?_)
            refine lv_aload_n hx hb dX4_readTape_67 rfl (lv_at hl 0 rfl) ?_
            refine w_getr (ci := 5) (T := TX4) hx hb hts hin_TX4 hown hK hW (hX.1 10 (by decide)).1 (hX.1 10 (by decide)).2.1 (by decide) rfl 0 (by decide) (hts (.fieldLink RX4 12 "TownClocks$Reading" "tape" "LTownClocks$Tape;") (by decide +kernel)) (fun _ h9 => h9) rfl ((hX.1 10 (by decide)).2.2.2 0 8 rfl) dX4_readTape_68 ?_
            refine w_cv (w_runV ⟨hx, hb, hml, hown, hts⟩ (k_X5_readToken hxo l D q (u2 ((x_rA Vw nD).1) 10 4 ((((x_rA Vw nD).1) 10 4) + 1)) J R nP nD L hX (tkX_0 (tkX_10 (x_rA_tk ht)))) hxo (cwV 0 hts gX4_readTape_X5_readToken rfl rfl rfl (by decide +kernel) ⟨Nat.le_of_ble_eq_true rfl, Nat.le_of_ble_eq_true rfl⟩) hK hW hS hA hXs (w_rcv hK hW (hX.1 8 (by decide)).1 (hX.1 8 (by decide)).2.1 (by decide) rfl) rfl hl.1 rfl (Nat.le_of_ble_eq_true rfl) dX4_readTape_71 ⟨Nat.zero_le _, Nat.zero_le _⟩) hW hS hA (fun H locs hW hS => ?_)
            refine lv_goto (tgt := 27) hx hb dX4_readTape_74 (by decide) ?_
            exact ih (i + 1) _ (by omega) (tkX_tok (tkX_0 (tkX_10 (x_rA_tk ht)))) (by rw [x_tokV_ne (by decide), u2_ss, x_rA_c, hc4, nI_1]) (by have h := hF; simp only [x_rt, if_neg c_34, if_neg c_52] at h; exact h) _ _ _ hW hS (lv_sub hl [0, 1] rfl)
          · refine lv_iconst (v := 0) hx hb dX4_readTape_55 (by decide) ?_
            exact w_zret hx hb hr hlk hW hS (Or.inl rfl) (by rw [← hF, x_rt, if_neg c_34, if_pos c_52]) (by rw [← hF, x_rt, if_neg c_34, if_pos c_52]) rfl rfl dX4_readTape_56
  refine lv_aload_n hx hb dX4_readTape_0 rfl (lv_at hl 0 rfl) ?_
  refine w_getr (ci := 5) (T := TX4) hx hb hts hin_TX4 hown hK hW (hX.1 10 (by decide)).1 (hX.1 10 (by decide)).2.1 (by decide) rfl 1 (by decide) (hts (.fieldLink RX4 18 "TownClocks$Reading" "waitingTerms" "[I") (by decide +kernel)) (fun _ h9 => h9) rfl ((hX.1 10 (by decide)).2.2.2 1 11 rfl) dX4_readTape_1 ?_
  refine lv_iconst (v := 0) hx hb dX4_readTape_4 (by decide) ?_
  refine w_cv (w_runS ⟨hx, hb, hml, hown, hts⟩ (c_J7_fill_53178 hxo l D q V J R 11 0 (hX.1 11 (by decide)).1 (hX.1 11 (by decide)).2.1 (by rw [(show ln 11 = 40 from (hX.1 11 (by decide)).2.2.1)]; omega)) hxo (va_cwS 2 hts gX4_readTape_J7_fill_53178 rfl rfl rfl (by decide +kernel) ⟨Nat.le_of_ble_eq_true rfl, Nat.le_of_ble_eq_true rfl⟩) hK hW hS hA hXs rfl hl.1 rfl (Nat.le_of_ble_eq_true rfl) dX4_readTape_5 ⟨Nat.zero_le _, Nat.zero_le _⟩) hW hS hA (fun H locs hW hS => ?_)
  obtain ⟨Vf, hVf⟩ : ∃ r, r = x_fillL 11 0 40 0 V := ⟨_, rfl⟩
  rw [show ln 11 = 40 from (show ln 11 = 40 from (hX.1 11 (by decide)).2.2.1), ← hVf] at hW
  refine lv_aload_n hx hb dX4_readTape_8 rfl (lv_at hl 0 rfl) ?_
  refine lv_iconst (v := 0) hx hb dX4_readTape_9 (by decide) ?_
  refine w_puti (ci := 5) (T := TX4) (ty := .int) hx hb hts hin_TX4 tyX4 tyX4_ok nmX4 hown hK hW hS (hX.1 10 (by decide)).1 (hX.1 10 (by decide)).2.1 (by decide) rfl 4 (by decide) (hts (.fieldLink RX4 34 "TownClocks$Reading" "contractsTold" "I") (by decide +kernel)) (fun _ h9 => h9) rfl (tyX4_ok 4 (by decide)) rfl rfl (Nat.le_of_ble_eq_true rfl) rfl dX4_readTape_10 (fun H locs hW hS => ?_)
  refine lv_aload_n hx hb dX4_readTape_13 rfl (lv_at hl 0 rfl) ?_
  refine w_getr (ci := 5) (T := TX4) hx hb hts hin_TX4 hown hK hW (hX.1 10 (by decide)).1 (hX.1 10 (by decide)).2.1 (by decide) rfl 0 (by decide) (hts (.fieldLink RX4 12 "TownClocks$Reading" "tape" "LTownClocks$Tape;") (by decide +kernel)) (fun _ h9 => h9) rfl ((hX.1 10 (by decide)).2.2.2 0 8 rfl) dX4_readTape_14 ?_
  refine w_cv (w_runV ⟨hx, hb, hml, hown, hts⟩ (c_X5_rewind hxo l D q (u2 Vf 10 4 0) J R 8 (hX.1 8 (by decide)).1 (hX.1 8 (by decide)).2.1) hxo (cwV 0 hts gX4_readTape_X5_rewind rfl rfl rfl (by decide +kernel) ⟨Nat.le_of_ble_eq_true rfl, Nat.le_of_ble_eq_true rfl⟩) hK hW hS hA hXs (w_rcv hK hW (hX.1 8 (by decide)).1 (hX.1 8 (by decide)).2.1 (by decide) rfl) rfl hl.1 rfl (Nat.le_of_ble_eq_true rfl) dX4_readTape_17 ⟨Nat.zero_le _, Nat.zero_le _⟩) hW hS hA (fun H locs hW hS => ?_)
  have hW : wok A D q dm kd ln ad (x_t0 V) J R H := by rw [x_t0, ← hVf]; exact hW
  refine lv_aload_n hx hb dX4_readTape_20 rfl (lv_at hl 0 rfl) ?_
  refine w_getr (ci := 5) (T := TX4) hx hb hts hin_TX4 hown hK hW (hX.1 10 (by decide)).1 (hX.1 10 (by decide)).2.1 (by decide) rfl 0 (by decide) (hts (.fieldLink RX4 12 "TownClocks$Reading" "tape" "LTownClocks$Tape;") (by decide +kernel)) (fun _ h9 => h9) rfl ((hX.1 10 (by decide)).2.2.2 0 8 rfl) dX4_readTape_21 ?_
  refine w_cv (w_runV ⟨hx, hb, hml, hown, hts⟩ (k_X5_readToken hxo l D q (x_t0 V) J R nP nD L hX (x_t00 hL hL3)) hxo (cwV 0 hts gX4_readTape_X5_readToken rfl rfl rfl (by decide +kernel) ⟨Nat.le_of_ble_eq_true rfl, Nat.le_of_ble_eq_true rfl⟩) hK hW hS hA hXs (w_rcv hK hW (hX.1 8 (by decide)).1 (hX.1 8 (by decide)).2.1 (by decide) rfl) rfl hl.1 rfl (Nat.le_of_ble_eq_true rfl) dX4_readTape_24 ⟨Nat.zero_le _, Nat.zero_le _⟩) hW hS hA (fun H locs hW hS => ?_)
  exact J27 N0 0 (x_tokV (x_t0 V)) (by omega) (x_t0_tk hL hL3) x_t0_c hF0 _ _ _ hW hS (lv_sub hl [0, 1] rfl)
set_option maxHeartbeats 4000000 in
set_option maxRecDepth 100000 in
theorem c_X4_putInForce {X : (Nat → Prop) → State → Prop} (hxo : xok X) (l : Launch) (D : va_G) (q : Cq) {dm : List Nat} {kd ln ad : Nat → Nat} (V : Mv) (J : Mj) (R : Mr) (nP nD : Nat) (hX : okX dm kd ln R nP nD) (hq : V 2 2 = nI nD) : CtV X l yX4_putInForce wsX4_putInForce ({ frames := 3, cells := 0, slots := 0, locals := 64 }) D q dm kd ln ad V J R [.ref (ad 10), .ref (ad 2)] (x_pf nD 0 V) (J) (R) := by
  refine CtV_of (cc := cX4_putInForce) (maxL := 3) (ret := none) (by decide +kernel) rfl (Nat.le_of_ble_eq_true rfl) ?_
  intro p e s m below meth c A hx hb hr hml hts hown hlk hmn hK hW hA hXs ls hl
  have hS : va_S A s.heap s.heap [] := va_S.rf
  have hl : lv_has ls 3 [(0, .ref (ad 10)), (1, .ref (ad 2))] := hl
  have hin_TX4 : ∀ w ∈ u_ws RX4 TX4 7, w ∈ wsX4_putInForce := by decide +kernel
  obtain ⟨F, hFe⟩ : ∃ r, r = x_pf nD 0 V := ⟨_, rfl⟩
  have JL : ∀ n : Nat, ∀ (i : Nat) (Vw : Mv) (hn : i + n = nD) (hqW : Vw 2 2 = nI nD) (hF : x_pf n i Vw = F) (H : Heap) (locs : List Loc) (ls : Array Slot), wok A D q dm kd ln ad Vw J R H → va_S A s.heap H locs → lv_has ls 3 [(0, .ref (ad 10)), (1, .ref (ad 2)), (2, .int (nI i))] → W p l e ({ frames := 3, cells := 0, slots := 0, locals := 64 }) s m ([.ref (ad 10), .ref (ad 2)] : List Value).toArray below meth c H locs 0 0 (MQ below (QV D q dm kd ln ad (x_pf nD 0 V) (J) (R) A) ([.ref (ad 10), .ref (ad 2)] : List Value).toArray s 0 0 A) (F0 m 2 ls []) := by
    intro n
    induction n with
    | zero =>
      intro i Vw hn hqW hF H locs ls hW hS hl
      refine lv_iload_n hx hb dX4_putInForce_2 rfl (lv_at hl 2 rfl) ?_
      refine lv_aload_n hx hb dX4_putInForce_3 rfl (lv_at hl 1 rfl) ?_
      refine w_ci (w_runV ⟨hx, hb, hml, hown, hts⟩ (c_Jx4a65c_size_8abf5 hxo l D q Vw J R 2 (hX.1 2 (by decide)).1 (hX.1 2 (by decide)).2.1) hxo (cwV 0 hts gX4_putInForce_Jx4a65c_size_8abf5 rfl rfl rfl (by decide +kernel) ⟨Nat.le_of_ble_eq_true rfl, Nat.le_of_ble_eq_true rfl⟩) hK hW hS hA hXs (w_rcv hK hW (hX.1 2 (by decide)).1 (hX.1 2 (by decide)).2.1 (by decide) rfl) rfl hl.1 rfl (Nat.le_of_ble_eq_true rfl) dX4_putInForce_4 ⟨Nat.zero_le _, Nat.zero_le _⟩) hW hS hA (fun H locs hW hS => ?_)
      refine lv_icmp_ge (tgt := 60) hx hb dX4_putInForce_7 (by decide) (fun c_7 => ?_) (fun c_7 => ?_)
      · exact w_vret hx hb hr hlk hW hS (by rw [← hFe, ← hF]; rfl) rfl rfl dX4_putInForce_60
      · exact absurd (by rw [hqW]; exact nI_le (by omega) (by have := hX.2.1; omega)) c_7
    | succ n ih =>
      intro i Vw hn hqW hF H locs ls hW hS hl
      have hid : i < nD := by omega
      refine lv_iload_n hx hb dX4_putInForce_2 rfl (lv_at hl 2 rfl) ?_
      refine lv_aload_n hx hb dX4_putInForce_3 rfl (lv_at hl 1 rfl) ?_
      refine w_ci (w_runV ⟨hx, hb, hml, hown, hts⟩ (c_Jx4a65c_size_8abf5 hxo l D q Vw J R 2 (hX.1 2 (by decide)).1 (hX.1 2 (by decide)).2.1) hxo (cwV 0 hts gX4_putInForce_Jx4a65c_size_8abf5 rfl rfl rfl (by decide +kernel) ⟨Nat.le_of_ble_eq_true rfl, Nat.le_of_ble_eq_true rfl⟩) hK hW hS hA hXs (w_rcv hK hW (hX.1 2 (by decide)).1 (hX.1 2 (by decide)).2.1 (by decide) rfl) rfl hl.1 rfl (Nat.le_of_ble_eq_true rfl) dX4_putInForce_4 ⟨Nat.zero_le _, Nat.zero_le _⟩) hW hS hA (fun H locs hW hS => ?_)
      refine lv_icmp_ge (tgt := 60) hx hb dX4_putInForce_7 (by decide) (fun c_7 => ?_) (fun c_7 => ?_)
      · exact absurd c_7 (by rw [hqW]; exact nI_ge (by omega) (by have := hX.2.1; omega))
      · refine lv_iload_n hx hb dX4_putInForce_10 rfl (lv_at hl 2 rfl) ?_
        refine lv_bipush (v := 40) hx hb dX4_putInForce_11 (by decide) ?_
        refine lv_icmp_ge (tgt := 60) hx hb dX4_putInForce_13 (by decide) (fun c_13 => ?_) (fun c_13 => ?_)
        · exact absurd c_13 (nI_ge (b := 40) (by have := hX.2.1; omega) (by decide))
        · refine lv_aload_n hx hb dX4_putInForce_16 rfl (lv_at hl 0 rfl) ?_
          refine w_getr (ci := 5) (T := TX4) hx hb hts hin_TX4 hown hK hW (hX.1 10 (by decide)).1 (hX.1 10 (by decide)).2.1 (by decide) rfl 1 (by decide) (hts (.fieldLink RX4 18 "TownClocks$Reading" "waitingTerms" "[I") (by decide +kernel)) (fun _ h9 => h9) rfl ((hX.1 10 (by decide)).2.2.2 1 11 rfl) dX4_putInForce_17 ?_
          refine lv_iload_n hx hb dX4_putInForce_20 rfl (lv_at hl 2 rfl) ?_
          refine w_ialdN (t := i) hx hb hK hW (hX.1 11 (by decide)).1 (hX.1 11 (by decide)).2.1 ⟨by rw [(show ln 11 = 40 from (hX.1 11 (by decide)).2.2.1)]; have := hX.2.1; omega, by have := hX.2.1; omega⟩ dX4_putInForce_21 ?_
          refine lv_if_eq (tgt := 54) hx hb dX4_putInForce_22 (by decide) (fun c_22 => ?_) (fun c_22 => ?_)
          · refine lv_iinc (v := nI (i + 1)) (lv' := [(2, .int (nI (i + 1))), (0, .ref (ad 10)), (1, .ref (ad 2))]) hx hb dX4_putInForce_54 hl (k := 2) rfl (by rw [show Int32.ofInt 1 = 1 from by decide]; exact nI_1 _) (by decide) rfl (fun ls hl => ?_)
            refine lv_goto (tgt := 2) hx hb dX4_putInForce_57 (by decide) ?_
            exact ih (i + 1) Vw (by omega) hqW (by have h := hF; simp only [x_pf, if_pos c_22] at h; exact h) _ _ _ hW hS (lv_sub hl [1, 2, 0] rfl)
          · refine lv_aload_n hx hb dX4_putInForce_25 rfl (lv_at hl 1 rfl) ?_
            refine lv_iload_n hx hb dX4_putInForce_26 rfl (lv_at hl 2 rfl) ?_
            refine w_cq (w_runV ⟨hx, hb, hml, hown, hts⟩ (c_Jx4a65c_get_915e3 hxo l D q Vw J R 2 17 i nD (hX.1 2 (by decide)).1 (hX.1 2 (by decide)).2.1 (hX.2.2.2.2.2 (by omega)).2.2.2.2 (hX.2.2.2.2.2 (by omega)).1 (hX.2.2.2.2.2 (by omega)).2.1 ⟨Nat.lt_of_lt_of_le hid (hX.2.2.2.2.2 (by omega)).2.2.1, by have := hX.2.1; omega⟩ hqW hid (by have := hX.2.1; omega)) hxo (cwV 1 hts gX4_putInForce_Jx4a65c_get_915e3 rfl rfl rfl (by decide +kernel) ⟨Nat.le_of_ble_eq_true rfl, Nat.le_of_ble_eq_true rfl⟩) hK hW hS hA hXs (w_rcv hK hW (hX.1 2 (by decide)).1 (hX.1 2 (by decide)).2.1 (by decide) rfl) rfl hl.1 rfl (Nat.le_of_ble_eq_true rfl) dX4_putInForce_27 ⟨Nat.zero_le _, Nat.zero_le _⟩) hW hS hA (fun H locs hW hS => ?_)
            refine w_some (hX.2.2.2.1 i hid).2.2.1 ?_
            refine w_cast hx hb hown (hts (.classLink RX4 102 "TownClocks$Dial") (by decide +kernel)) hK hW (hX.2.2.2.1 i hid).1 (hX.2.2.2.1 i hid).2.1 (by decide) rfl dX4_putInForce_30 ?_
            refine lv_aload_n hx hb dX4_putInForce_33 rfl (lv_at hl 0 rfl) ?_
            refine w_getr (ci := 5) (T := TX4) hx hb hts hin_TX4 hown hK hW (hX.1 10 (by decide)).1 (hX.1 10 (by decide)).2.1 (by decide) rfl 1 (by decide) (hts (.fieldLink RX4 18 "TownClocks$Reading" "waitingTerms" "[I") (by decide +kernel)) (fun _ h9 => h9) rfl ((hX.1 10 (by decide)).2.2.2 1 11 rfl) dX4_putInForce_34 ?_
            refine lv_iload_n hx hb dX4_putInForce_37 rfl (lv_at hl 2 rfl) ?_
            refine w_ialdN (t := i) hx hb hK hW (hX.1 11 (by decide)).1 (hX.1 11 (by decide)).2.1 ⟨by rw [(show ln 11 = 40 from (hX.1 11 (by decide)).2.2.1)]; have := hX.2.1; omega, by have := hX.2.1; omega⟩ dX4_putInForce_38 ?_
            refine lv_aload_n hx hb dX4_putInForce_39 rfl (lv_at hl 0 rfl) ?_
            refine w_getr (ci := 5) (T := TX4) hx hb hts hin_TX4 hown hK hW (hX.1 10 (by decide)).1 (hX.1 10 (by decide)).2.1 (by decide) rfl 2 (by decide) (hts (.fieldLink RX4 22 "TownClocks$Reading" "waitingBelow" "[I") (by decide +kernel)) (fun _ h9 => h9) rfl ((hX.1 10 (by decide)).2.2.2 2 12 rfl) dX4_putInForce_40 ?_
            refine lv_iload_n hx hb dX4_putInForce_43 rfl (lv_at hl 2 rfl) ?_
            refine w_ialdN (t := i) hx hb hK hW (hX.1 12 (by decide)).1 (hX.1 12 (by decide)).2.1 ⟨by rw [(show ln 12 = 40 from (hX.1 12 (by decide)).2.2.1)]; have := hX.2.1; omega, by have := hX.2.1; omega⟩ dX4_putInForce_44 ?_
            refine lv_aload_n hx hb dX4_putInForce_45 rfl (lv_at hl 0 rfl) ?_
            refine w_getr (ci := 5) (T := TX4) hx hb hts hin_TX4 hown hK hW (hX.1 10 (by decide)).1 (hX.1 10 (by decide)).2.1 (by decide) rfl 3 (by decide) (hts (.fieldLink RX4 25 "TownClocks$Reading" "waitingPays" "[I") (by decide +kernel)) (fun _ h9 => h9) rfl ((hX.1 10 (by decide)).2.2.2 3 13 rfl) dX4_putInForce_46 ?_
            refine lv_iload_n hx hb dX4_putInForce_49 rfl (lv_at hl 2 rfl) ?_
            refine w_ialdN (t := i) hx hb hK hW (hX.1 13 (by decide)).1 (hX.1 13 (by decide)).2.1 ⟨by rw [(show ln 13 = 40 from (hX.1 13 (by decide)).2.2.1)]; have := hX.2.1; omega, by have := hX.2.1; omega⟩ dX4_putInForce_50 ?_
            refine w_cv (w_runV ⟨hx, hb, hml, hown, hts⟩ (c_X0_begin hxo l D q Vw J R (200 + i) (Vw 11 i) (Vw 12 i) (Vw 13 i) (hX.2.2.2.1 i hid).1 (hX.2.2.2.1 i hid).2.1) hxo (cwV 3 hts gX4_putInForce_X0_begin rfl rfl rfl (by decide +kernel) ⟨Nat.le_of_ble_eq_true rfl, Nat.le_of_ble_eq_true rfl⟩) hK hW hS hA hXs (w_rcv hK hW (hX.2.2.2.1 i hid).1 (hX.2.2.2.1 i hid).2.1 (by decide) rfl) rfl hl.1 rfl (Nat.le_of_ble_eq_true rfl) dX4_putInForce_51 ⟨Nat.zero_le _, Nat.zero_le _⟩) hW hS hA (fun H locs hW hS => ?_)
            refine lv_iinc (v := nI (i + 1)) (lv' := [(2, .int (nI (i + 1))), (0, .ref (ad 10)), (1, .ref (ad 2))]) hx hb dX4_putInForce_54 hl (k := 2) rfl (by rw [show Int32.ofInt 1 = 1 from by decide]; exact nI_1 _) (by decide) rfl (fun ls hl => ?_)
            refine lv_goto (tgt := 2) hx hb dX4_putInForce_57 (by decide) ?_
            exact ih (i + 1) _ (by omega) (by rw [x_begin_ne (by omega)]; exact hqW) (by have h := hF; simp only [x_pf, if_neg c_22] at h; exact h) _ _ _ hW hS (lv_sub hl [1, 2, 0] rfl)
  refine lv_iconst (v := 0) hx hb dX4_putInForce_0 (by decide) ?_
  refine lv_istore_n (lv' := [(2, .int 0), (0, .ref (ad 10)), (1, .ref (ad 2))]) hx hb dX4_putInForce_1 rfl hl (by decide) rfl (fun ls hl => ?_)
  exact JL nD 0 V (by omega) hq hFe.symm _ _ _ hW hS (lv_sub hl [1, 2, 0] rfl)
set_option maxHeartbeats 4000000 in
set_option maxRecDepth 100000 in
theorem c_X7_contracts {X : (Nat → Prop) → State → Prop} (hxo : xok X) (l : Launch) (D : va_G) (q : Cq) {dm : List Nat} {kd ln ad : Nat → Nat} (V : Mv) (J : Mj) (R : Mr) (nP nD : Nat) (L : Nat) (F : Mv × Int32) (hX : okX dm kd ln R nP nD) (hp : V 1 2 = nI nP) (hq : V 2 2 = nI nD) (hFe : F = x_tape V nD) (hL : V 8 1 = nI L) (hL3 : L ≤ 300) (hst : ∀ (A : Nat → Prop) (U : State), X A U → strX ad A U) : CtI X l yX7_contracts wsX7_contracts ({ frames := 8, cells := 0, slots := 0, locals := 173 }) D q dm kd ln ad V J R [.ref (ad 0)] (x_ctR F nD) (x_ctV F nD) (J) (R) := by
  refine CtI_of (cc := cX7_contracts) (maxL := 2) (ret := (some .int)) (by decide +kernel) rfl (Nat.le_of_ble_eq_true rfl) ?_
  intro p e s m below meth c A hx hb hr hml hts hown hlk hmn hK hW hA hXs ls hl
  have hS : va_S A s.heap s.heap [] := va_S.rf
  have hl : lv_has ls 2 [(0, .ref (ad 0))] := hl
  have hin_TX7 : ∀ w ∈ u_ws RX7 TX7 8, w ∈ wsX7_contracts := by decide +kernel
  have hin_TX4 : ∀ w ∈ u_ws RX4 TX4 7, w ∈ wsX7_contracts := by decide +kernel
  have hin_TX5 : ∀ w ∈ u_ws RX5 TX5 5, w ∈ wsX7_contracts := by decide +kernel
  refine lv_aload_n hx hb dX7_contracts_0 rfl (lv_at hl 0 rfl) ?_
  refine w_getr (ci := 8) (T := TX7) hx hb hts hin_TX7 hown hK hW (hX.1 0 (by decide)).1 (hX.1 0 (by decide)).2.1 (by decide) rfl 4 (by decide) (hts (.fieldLink RX7 36 "TownClocks" "reading" "LTownClocks$Reading;") (by decide +kernel)) (fun _ h9 => h9) rfl ((hX.1 0 (by decide)).2.2.2 4 10 rfl) dX7_contracts_1 ?_
  refine lv_aload_n hx hb dX7_contracts_4 rfl (lv_at hl 0 rfl) ?_
  refine w_getr (ci := 8) (T := TX7) hx hb hts hin_TX7 hown hK hW (hX.1 0 (by decide)).1 (hX.1 0 (by decide)).2.1 (by decide) rfl 1 (by decide) (hts (.fieldLink RX7 16 "TownClocks" "dials" "Ljava/util/ArrayList;") (by decide +kernel)) (fun _ h9 => h9) rfl ((hX.1 0 (by decide)).2.2.2 1 2 rfl) dX7_contracts_5 ?_
  refine w_ci (w_runV ⟨hx, hb, hml, hown, hts⟩ (c_Jx4a65c_size_8abf5 hxo l D q V J R 2 (hX.1 2 (by decide)).1 (hX.1 2 (by decide)).2.1) hxo (cwV 0 hts gX7_contracts_Jx4a65c_size_8abf5 rfl rfl rfl (by decide +kernel) ⟨Nat.le_of_ble_eq_true rfl, Nat.le_of_ble_eq_true rfl⟩) hK hW hS hA hXs (w_rcv hK hW (hX.1 2 (by decide)).1 (hX.1 2 (by decide)).2.1 (by decide) rfl) rfl hl.1 rfl (Nat.le_of_ble_eq_true rfl) dX7_contracts_8 ⟨Nat.zero_le _, Nat.zero_le _⟩) hW hS hA (fun H locs hW hS => ?_)
  refine w_i hq ?_
  refine w_ci (w_runV ⟨hx, hb, hml, hown, hts⟩ (c_X4_readTape hxo l D q V J R nP nD L F hX hFe hL hL3 hst) hxo (cwV 1 hts gX7_contracts_X4_readTape rfl rfl rfl (by decide +kernel) ⟨Nat.le_of_ble_eq_true rfl, Nat.le_of_ble_eq_true rfl⟩) hK hW hS hA hXs (w_rcv hK hW (hX.1 10 (by decide)).1 (hX.1 10 (by decide)).2.1 (by decide) rfl) rfl hl.1 rfl (Nat.le_of_ble_eq_true rfl) dX7_contracts_11 ⟨Nat.zero_le _, Nat.zero_le _⟩) hW hS hA (fun H locs hW hS => ?_)
  refine lv_istore_n (lv' := [(1, .int (F.2)), (0, .ref (ad 0))]) hx hb dX7_contracts_14 rfl hl (by decide) rfl (fun ls hl => ?_)
  refine lv_aload_n hx hb dX7_contracts_15 rfl (lv_at hl 1 rfl) ?_
  refine w_getr (ci := 8) (T := TX7) hx hb hts hin_TX7 hown hK hW (hX.1 0 (by decide)).1 (hX.1 0 (by decide)).2.1 (by decide) rfl 5 (by decide) (hts (.fieldLink RX7 44 "TownClocks" "tape" "LTownClocks$Tape;") (by decide +kernel)) (fun _ h9 => h9) rfl ((hX.1 0 (by decide)).2.2.2 5 8 rfl) dX7_contracts_16 ?_
  refine lv_iconst (v := 0) hx hb dX7_contracts_19 (by decide) ?_
  refine w_puti (ci := 6) (T := TX5) (ty := .int) hx hb hts hin_TX5 tyX5 tyX5_ok nmX5 hown hK hW hS (hX.1 8 (by decide)).1 (hX.1 8 (by decide)).2.1 (by decide) rfl 1 (by decide) (hts (.fieldLink RX7 202 "TownClocks$Tape" "length" "I") (by decide +kernel)) (fun _ h9 => h9) rfl (tyX5_ok 1 (by decide)) rfl rfl (Nat.le_of_ble_eq_true rfl) rfl dX7_contracts_20 (fun H locs hW hS => ?_)
  refine lv_iload_n hx hb dX7_contracts_23 rfl (lv_at hl 0 rfl) ?_
  refine lv_if_ne (tgt := 38) hx hb dX7_contracts_24 (by decide) (fun c_24 => ?_) (fun c_24 => ?_)
  · refine lv_aload_n hx hb dX7_contracts_38 rfl (lv_at hl 1 rfl) ?_
    refine w_getr (ci := 8) (T := TX7) hx hb hts hin_TX7 hown hK hW (hX.1 0 (by decide)).1 (hX.1 0 (by decide)).2.1 (by decide) rfl 4 (by decide) (hts (.fieldLink RX7 36 "TownClocks" "reading" "LTownClocks$Reading;") (by decide +kernel)) (fun _ h9 => h9) rfl ((hX.1 0 (by decide)).2.2.2 4 10 rfl) dX7_contracts_39 ?_
    refine lv_aload_n hx hb dX7_contracts_42 rfl (lv_at hl 1 rfl) ?_
    refine w_getr (ci := 8) (T := TX7) hx hb hts hin_TX7 hown hK hW (hX.1 0 (by decide)).1 (hX.1 0 (by decide)).2.1 (by decide) rfl 1 (by decide) (hts (.fieldLink RX7 16 "TownClocks" "dials" "Ljava/util/ArrayList;") (by decide +kernel)) (fun _ h9 => h9) rfl ((hX.1 0 (by decide)).2.2.2 1 2 rfl) dX7_contracts_43 ?_
    refine w_cv (w_runV ⟨hx, hb, hml, hown, hts⟩ (c_X4_putInForce hxo l D q (u2 F.1 8 1 0) J R nP nD hX (by rw [u2_ne (by decide), hFe, x_tape_ne (by decide) (by decide) (by decide) (by decide) (by decide)]; exact hq)) hxo (cwV 1 hts gX7_contracts_X4_putInForce rfl rfl rfl (by decide +kernel) ⟨Nat.le_of_ble_eq_true rfl, Nat.le_of_ble_eq_true rfl⟩) hK hW hS hA hXs (w_rcv hK hW (hX.1 10 (by decide)).1 (hX.1 10 (by decide)).2.1 (by decide) rfl) rfl hl.1 rfl (Nat.le_of_ble_eq_true rfl) dX7_contracts_46 ⟨Nat.zero_le _, Nat.zero_le _⟩) hW hS hA (fun H locs hW hS => ?_)
    refine lv_aload_n hx hb dX7_contracts_49 rfl (lv_at hl 1 rfl) ?_
    refine w_getr (ci := 8) (T := TX7) hx hb hts hin_TX7 hown hK hW (hX.1 0 (by decide)).1 (hX.1 0 (by decide)).2.1 (by decide) rfl 4 (by decide) (hts (.fieldLink RX7 36 "TownClocks" "reading" "LTownClocks$Reading;") (by decide +kernel)) (fun _ h9 => h9) rfl ((hX.1 0 (by decide)).2.2.2 4 10 rfl) dX7_contracts_50 ?_
    refine w_get (ci := 5) (T := TX4) hx hb hts hin_TX4 hown hK hW (hX.1 10 (by decide)).1 (hX.1 10 (by decide)).2.1 (by decide) rfl 4 (by decide) (hts (.fieldLink RX7 223 "TownClocks$Reading" "contractsTold" "I") (by decide +kernel)) (fun _ h9 => h9) rfl dX7_contracts_53 ?_
    exact w_iret hx hb hr hlk hW hS (by rw [x_ctR, if_neg c_24]) (by rw [x_ctV, if_neg c_24]) rfl rfl dX7_contracts_56
  · refine lv_ldc (v := -1000100) hx hb hown (hts (.constant RX7 215 (-1000100)) (by decide +kernel)) dX7_contracts_27 ?_
    refine lv_aload_n hx hb dX7_contracts_29 rfl (lv_at hl 1 rfl) ?_
    refine w_getr (ci := 8) (T := TX7) hx hb hts hin_TX7 hown hK hW (hX.1 0 (by decide)).1 (hX.1 0 (by decide)).2.1 (by decide) rfl 4 (by decide) (hts (.fieldLink RX7 36 "TownClocks" "reading" "LTownClocks$Reading;") (by decide +kernel)) (fun _ h9 => h9) rfl ((hX.1 0 (by decide)).2.2.2 4 10 rfl) dX7_contracts_30 ?_
    refine w_get (ci := 5) (T := TX4) hx hb hts hin_TX4 hown hK hW (hX.1 10 (by decide)).1 (hX.1 10 (by decide)).2.1 (by decide) rfl 6 (by decide) (hts (.fieldLink RX7 216 "TownClocks$Reading" "faultPlace" "I") (by decide +kernel)) (fun _ h9 => h9) rfl dX7_contracts_33 ?_
    refine w_i (by rw [u2_ne (by decide)]) ?_
    refine lv_isub hx hb dX7_contracts_36 ?_
    exact w_iret hx hb hr hlk hW hS (by rw [x_ctR, if_pos c_24]) (by rw [x_ctV, if_pos c_24]) rfl rfl dX7_contracts_37
