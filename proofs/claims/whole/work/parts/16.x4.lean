def x_fillL (k : Nat) (a : Int32) : Nat → Nat → Mv → Mv
  | 0, _, V => V
  | n + 1, i, V => x_fillL k a n (i + 1) (u2 V k i a)
theorem x_fillL_ne {k k' : Nat} {a : Int32} (h : k' ≠ k) : ∀ (n i : Nat) (V : Mv), x_fillL k a n i V k' = V k'
  | 0, _, _ => rfl
  | n + 1, i, V => by rw [x_fillL, x_fillL_ne h n, u2_ne h]
def x_ll (V : Mv) (R : Mr) (pp : Int32) : Nat → Nat → Int32 → Int32 → Int32
  | 0, _, lo, hi => if hi < lo then -1000000 else lo
  | n + 1, i, lo, hi => if 0 ≤ x_air0 V (x_pl R (200 + i)) 0 - V (200 + i) 1 then (if V (200 + i) 7 = 0 then (if x_fed V (x_pl R (200 + i)) pp then x_ll V R pp n (i + 1) lo (if x_air0 V (x_pl R (200 + i)) 0 - V (200 + i) 1 < hi then x_air0 V (x_pl R (200 + i)) 0 - V (200 + i) 1 else hi) else x_ll V R pp n (i + 1) lo hi) else (if x_fed V (x_pl R (200 + i)) pp then x_ll V R pp n (i + 1) (if lo < x_air0 V (x_pl R (200 + i)) 0 - V (200 + i) 1 + 1 then x_air0 V (x_pl R (200 + i)) 0 - V (200 + i) 1 + 1 else lo) hi else -1000000)) else x_ll V R pp n (i + 1) lo hi
def x_fadd (V : Mv) (i l : Int32) : Mv := u2 (u2 (u2 V 5 (V 4 3).toNatClampNeg i) 6 (V 4 3).toNatClampNeg l) 4 3 (V 4 3 + 1)
def x_find (R : Mr) (nD : Nat) : Nat → Nat → Mv → Mv
  | 0, _, V => V
  | n + 1, i, V => x_find R nD n (i + 1) (if x_ll V R (nI i) nD 0 1 60 = -1000000 then V else x_fadd V (nI i) (x_ll V R (nI i) nD 0 1 60))
theorem x_fadd_ne {V : Mv} {i l : Int32} {k : Nat} (h4 : k ≠ 4) (h5 : k ≠ 5) (h6 : k ≠ 6) : x_fadd V i l k = V k := by
  rw [x_fadd, u2_ne h4, u2_ne h6, u2_ne h5]
theorem x_find_ne {R : Mr} {nD k : Nat} (h4 : k ≠ 4) (h5 : k ≠ 5) (h6 : k ≠ 6) : ∀ {n i : Nat} {V : Mv}, x_find R nD n i V k = V k
  | 0, _, _ => rfl
  | n + 1, i, V => by
    rw [x_find, x_find_ne h4 h5 h6]
    split
    · rfl
    · exact x_fadd_ne h4 h5 h6
theorem x_find_f (R : Mr) (nD : Nat) : ∀ (n i : Nat) (V : Mv) (f : Nat), V 4 3 = nI f → f ≤ i → ∃ f', f' ≤ i + n ∧ x_find R nD n i V 4 3 = nI f'
  | 0, i, V, f, h, hf => ⟨f, by omega, h⟩
  | n + 1, i, V, f, h, hf => by
    rw [x_find]
    split
    · obtain ⟨f', h1, h2⟩ := x_find_f R nD n (i + 1) V f h (by omega)
      exact ⟨f', by omega, h2⟩
    · obtain ⟨f', h1, h2⟩ := x_find_f R nD n (i + 1) (x_fadd V (nI i) (x_ll V R (nI i) nD 0 1 60)) (f + 1) (by rw [x_fadd, u2_ss, h, nI_1]) (by omega)
      exact ⟨f', by omega, h2⟩
def x_airE (V : Mv) (k e : Nat) : Int32 := x_air0 V k (if x_fed V k (V 5 e) then V 6 e else 0)
theorem x_airE_ag {V V' : Mv} {k e : Nat} (h : ∀ k, k ≠ 7 → V' k = V k) (hk : k ≠ 7) : x_airE V' k e = x_airE V k e := by
  simp only [x_airE, x_air0, x_fed, h k hk, h 5 (by decide), h 6 (by decide)]
def x_unl (k : Nat) : Nat → Nat → Mv → Int32 → Mv × Int32
  | 0, _, V, u => (V, u)
  | n + 1, e, V, u => x_unl k n (e + 1) (u2 V 7 (x_airE V k e).toNatClampNeg (V 7 (x_airE V k e).toNatClampNeg + 1)) (u + (nI e - V 7 (x_airE V k e).toNatClampNeg))
def x_un (V : Mv) (k f : Nat) : Mv × Int32 := x_unl k f 0 (x_fillL 7 0 101 0 V) 0
theorem x_unl_ne {k k' : Nat} (h : k' ≠ 7) : ∀ (n e : Nat) (V : Mv) (u : Int32), (x_unl k n e V u).1 k' = V k'
  | 0, _, _, _ => rfl
  | n + 1, e, V, u => by rw [x_unl, x_unl_ne h n, u2_ne h]
theorem x_un_ne {V : Mv} {k f k' : Nat} (h : k' ≠ 7) : (x_un V k f).1 k' = V k' := by
  rw [x_un, x_unl_ne h, x_fillL_ne h]
def x_expl (V : Mv) (R : Mr) (nP nD : Nat) (x v : Int32) : Int32 := if 0 ≤ v ∧ v ≤ 1 then (if 0 ≤ x ∧ x ≤ x_find R nD nP 0 (u2 V 4 3 0) 4 3 - 1 then (if v = 0 then x_find R nD nP 0 (u2 V 4 3 0) 5 x.toNatClampNeg else x_find R nD nP 0 (u2 V 4 3 0) 6 x.toNatClampNeg) else -1000000) else -1000001
def x_explV (V : Mv) (R : Mr) (nP nD : Nat) (v : Int32) : Mv := if 0 ≤ v ∧ v ≤ 1 then x_find R nD nP 0 (u2 V 4 3 0) else V
def x_nextL (R : Mr) (f : Nat) : Nat → Nat → Mv → Int32 → Int32 → Mv × Int32
  | 0, _, V, b, _ => (V, b)
  | n + 1, i, V, b, mo => if (x_un V (x_pl R (200 + i)) f).2 ≤ mo then x_nextL R f n (i + 1) (x_un V (x_pl R (200 + i)) f).1 b mo else x_nextL R f n (i + 1) (x_un V (x_pl R (200 + i)) f).1 (nI i) (x_un V (x_pl R (200 + i)) f).2
def x_next (V : Mv) (R : Mr) (nP nD : Nat) : Int32 := if 2 ≤ x_find R nD nP 0 (u2 V 4 3 0) 4 3 then (x_nextL R (x_find R nD nP 0 (u2 V 4 3 0) 4 3).toNatClampNeg nD 0 (x_find R nD nP 0 (u2 V 4 3 0)) (-1000000) (-1)).2 else -1000000
def x_nextV (V : Mv) (R : Mr) (nP nD : Nat) : Mv := if 2 ≤ x_find R nD nP 0 (u2 V 4 3 0) 4 3 then (x_nextL R (x_find R nD nP 0 (u2 V 4 3 0) 4 3).toNatClampNeg nD 0 (x_find R nD nP 0 (u2 V 4 3 0)) (-1000000) (-1)).1 else x_find R nD nP 0 (u2 V 4 3 0)
set_option maxHeartbeats 4000000 in
set_option maxRecDepth 100000 in
theorem c_J7_fill_53178 {X : (Nat → Prop) → State → Prop} (hxo : xok X) (l : Launch) (D : va_G) (q : Cq) {dm : List Nat} {kd ln ad : Nat → Nat} (V : Mv) (J : Mj) (R : Mr) (k : Nat) (a : Int32) (hk : k ∈ dm) (hd : kd k = 10) (hlk2 : ln k < 2147483648) : CtV X l yJ7_fill_53178 wsJ7_fill_53178 ({ frames := 0, cells := 0, slots := 0, locals := 0 }) D q dm kd ln ad V J R [.ref (ad k), .int a] (x_fillL k a (ln k) 0 V) (J) (R) := by
  refine CtV_of (cc := cJ7_fill_53178) (maxL := 4) (ret := none) (by decide +kernel) rfl (Nat.le_of_ble_eq_true rfl) ?_
  intro p e s m below meth c A hx hb hr hml hts hown hlk hmn hK hW hA hXs ls hl
  have hS : va_S A s.heap s.heap [] := va_S.rf
  have hl : lv_has ls 4 [(0, .ref (ad k)), (1, .int a)] := hl
  obtain ⟨F, hFe⟩ : ∃ r, r = x_fillL k a (ln k) 0 V := ⟨_, rfl⟩
  have JL : ∀ n : Nat, ∀ (i : Nat) (Vw : Mv) (hn : i + n = ln k) (hF : x_fillL k a n i Vw = F) (H : Heap) (locs : List Loc) (ls : Array Slot), wok A D q dm kd ln ad Vw J R H → va_S A s.heap H locs → lv_has ls 4 [(0, .ref (ad k)), (1, .int a), (2, .int (nI i)), (3, .int (nI (ln k)))] → W p l e ({ frames := 0, cells := 0, slots := 0, locals := 0 }) s m ([.ref (ad k), .int a] : List Value).toArray below meth c H locs 0 0 (MQ below (QV D q dm kd ln ad (x_fillL k a (ln k) 0 V) (J) (R) A) ([.ref (ad k), .int a] : List Value).toArray s 0 0 A) (F0 m 5 ls []) := by
    intro n
    induction n with
    | zero =>
      intro i Vw hn hF H locs ls hW hS hl
      refine lv_iload_n hx hb dJ7_fill_53178_5 rfl (lv_at hl 2 rfl) ?_
      refine lv_iload_n hx hb dJ7_fill_53178_6 rfl (lv_at hl 3 rfl) ?_
      refine lv_icmp_ge (tgt := 20) hx hb dJ7_fill_53178_7 (by decide) (fun c_7 => ?_) (fun c_7 => ?_)
      · exact w_vret hx hb hr hlk hW hS (by rw [← hFe, ← hF]; rfl) rfl rfl dJ7_fill_53178_20
      · exact absurd (nI_le (by omega) (by omega)) c_7
    | succ n ih =>
      intro i Vw hn hF H locs ls hW hS hl
      refine lv_iload_n hx hb dJ7_fill_53178_5 rfl (lv_at hl 2 rfl) ?_
      refine lv_iload_n hx hb dJ7_fill_53178_6 rfl (lv_at hl 3 rfl) ?_
      refine lv_icmp_ge (tgt := 20) hx hb dJ7_fill_53178_7 (by decide) (fun c_7 => ?_) (fun c_7 => ?_)
      · exact absurd c_7 (nI_ge (by omega) (by omega))
      · refine lv_aload_n hx hb dJ7_fill_53178_10 rfl (lv_at hl 0 rfl) ?_
        refine lv_iload_n hx hb dJ7_fill_53178_11 rfl (lv_at hl 2 rfl) ?_
        refine lv_iload_n hx hb dJ7_fill_53178_12 rfl (lv_at hl 1 rfl) ?_
        refine w_iastN (t := i) hx hb hK hW hS hk hd ⟨by omega, by omega⟩ dJ7_fill_53178_13 (fun H locs hW hS => ?_)
        refine lv_iinc (v := nI (i + 1)) (lv' := [(2, .int (nI (i + 1))), (0, .ref (ad k)), (1, .int a), (3, .int (nI (ln k)))]) hx hb dJ7_fill_53178_14 hl (k := 2) rfl (by rw [show Int32.ofInt 1 = 1 from by decide]; exact nI_1 _) (by decide) rfl (fun ls hl => ?_)
        refine lv_goto (tgt := 5) hx hb dJ7_fill_53178_17 (by decide) ?_
        exact ih (i + 1) (u2 Vw k i a) (by omega) hF _ _ _ hW hS (lv_sub hl [1, 2, 0, 3] rfl)
  refine lv_iconst (v := 0) hx hb dJ7_fill_53178_0 (by decide) ?_
  refine lv_istore_n (lv' := [(2, .int 0), (0, .ref (ad k)), (1, .int a)]) hx hb dJ7_fill_53178_1 rfl hl (by decide) rfl (fun ls hl => ?_)
  refine lv_aload_n hx hb dJ7_fill_53178_2 rfl (lv_at hl 1 rfl) ?_
  refine w_alen hx hb hK hW hk hd rfl dJ7_fill_53178_3 ?_
  refine lv_istore_n (lv' := [(3, .int (nI (ln k))), (2, .int 0), (0, .ref (ad k)), (1, .int a)]) hx hb dJ7_fill_53178_4 rfl hl (by decide) rfl (fun ls hl => ?_)
  exact JL (ln k) 0 V (by omega) hFe.symm _ _ _ hW hS (lv_sub hl [2, 3, 1, 0] rfl)
set_option maxHeartbeats 4000000 in
set_option maxRecDepth 100000 in
theorem c_X1_leastLeakAt {X : (Nat → Prop) → State → Prop} (hxo : xok X) (l : Launch) (D : va_G) (q : Cq) {dm : List Nat} {kd ln ad : Nat → Nat} (V : Mv) (J : Mj) (R : Mr) (nP nD : Nat) (pp : Int32) (hX : okX dm kd ln R nP nD) (hq : V 2 2 = nI nD) : CtI X l yX1_leastLeakAt wsX1_leastLeakAt ({ frames := 3, cells := 0, slots := 0, locals := 64 }) D q dm kd ln ad V J R [.int pp, .ref (ad 2)] (x_ll V R pp nD 0 1 60) (V) (J) (R) := by
  refine CtI_of (cc := cX1_leastLeakAt) (maxL := 8) (ret := (some .int)) (by decide +kernel) rfl (Nat.le_of_ble_eq_true rfl) ?_
  intro p e s m below meth c A hx hb hr hml hts hown hlk hmn hK hW hA hXs ls hl
  have hS : va_S A s.heap s.heap [] := va_S.rf
  have hl : lv_has ls 8 [(0, .int pp), (1, .ref (ad 2))] := hl
  have hin_TX0 : ∀ w ∈ u_ws RX0 TX0 12, w ∈ wsX1_leastLeakAt := by decide +kernel
  obtain ⟨RV, hRV⟩ : ∃ r, r = x_ll V R pp nD 0 1 60 := ⟨_, rfl⟩
  have JL : ∀ n : Nat, ∀ (i : Nat) (lo hi : Int32) (hn : i + n = nD) (hF : x_ll V R pp n i lo hi = RV) (H : Heap) (locs : List Loc) (ls : Array Slot), wok A D q dm kd ln ad V J R H → va_S A s.heap H locs → lv_has ls 8 [(0, .int pp), (1, .ref (ad 2)), (2, .int lo), (3, .int hi), (4, .int (nI i))] → W p l e ({ frames := 3, cells := 0, slots := 0, locals := 64 }) s m ([.int pp, .ref (ad 2)] : List Value).toArray below meth c H locs 0 0 (MQ below (QI (x_ll V R pp nD 0 1 60) D q dm kd ln ad (V) (J) (R) A) ([.int pp, .ref (ad 2)] : List Value).toArray s 0 0 A) (F0 m 8 ls []) := by
    intro n
    induction n with
    | zero =>
      intro i lo hi hn hF H locs ls hW hS hl
      refine lv_iload hx hb dX1_leastLeakAt_8 (lv_at hl 4 rfl) ?_
      refine lv_aload_n hx hb dX1_leastLeakAt_10 rfl (lv_at hl 1 rfl) ?_
      refine w_ci (w_runV ⟨hx, hb, hml, hown, hts⟩ (c_Jx4a65c_size_8abf5 hxo l D q V J R 2 (hX.1 2 (by decide)).1 (hX.1 2 (by decide)).2.1) hxo (cwV 0 hts gX1_leastLeakAt_Jx4a65c_size_8abf5 rfl rfl rfl (by decide +kernel) ⟨Nat.le_of_ble_eq_true rfl, Nat.le_of_ble_eq_true rfl⟩) hK hW hS hA hXs (w_rcv hK hW (hX.1 2 (by decide)).1 (hX.1 2 (by decide)).2.1 (by decide) rfl) rfl hl.1 rfl (Nat.le_of_ble_eq_true rfl) dX1_leastLeakAt_11 ⟨Nat.zero_le _, Nat.zero_le _⟩) hW hS hA (fun H locs hW hS => ?_)
      refine lv_icmp_ge (tgt := 118) hx hb dX1_leastLeakAt_14 (by decide) (fun c_14 => ?_) (fun c_14 => ?_)
      · refine lv_iload_n hx hb dX1_leastLeakAt_118 rfl (lv_at hl 2 rfl) ?_
        refine lv_iload_n hx hb dX1_leastLeakAt_119 rfl (lv_at hl 3 rfl) ?_
        refine lv_icmp_gt (tgt := 127) hx hb dX1_leastLeakAt_120 (by decide) (fun c_120 => ?_) (fun c_120 => ?_)
        · refine lv_ldc (v := -1000000) hx hb hown (hts (.constant RX1 35 (-1000000)) (by decide +kernel)) dX1_leastLeakAt_127 ?_
          exact w_iret hx hb hr hlk hW hS (by rw [← hRV, ← hF]; simp only [x_ll, if_pos c_14, if_pos c_120]) rfl rfl rfl dX1_leastLeakAt_129
        · refine lv_iload_n hx hb dX1_leastLeakAt_123 rfl (lv_at hl 2 rfl) ?_
          refine lv_goto (tgt := 129) hx hb dX1_leastLeakAt_124 (by decide) ?_
          exact w_iret hx hb hr hlk hW hS (by rw [← hRV, ← hF]; simp only [x_ll, if_pos c_14, if_neg c_120]) rfl rfl rfl dX1_leastLeakAt_129
      · exact absurd (by rw [hq]; exact nI_le (by omega) (by have := hX.2.1; omega)) c_14
    | succ n ih =>
      intro i lo hi hn hF H locs ls hW hS hl
      have hid : i < nD := by omega
      refine lv_iload hx hb dX1_leastLeakAt_8 (lv_at hl 4 rfl) ?_
      refine lv_aload_n hx hb dX1_leastLeakAt_10 rfl (lv_at hl 1 rfl) ?_
      refine w_ci (w_runV ⟨hx, hb, hml, hown, hts⟩ (c_Jx4a65c_size_8abf5 hxo l D q V J R 2 (hX.1 2 (by decide)).1 (hX.1 2 (by decide)).2.1) hxo (cwV 0 hts gX1_leastLeakAt_Jx4a65c_size_8abf5 rfl rfl rfl (by decide +kernel) ⟨Nat.le_of_ble_eq_true rfl, Nat.le_of_ble_eq_true rfl⟩) hK hW hS hA hXs (w_rcv hK hW (hX.1 2 (by decide)).1 (hX.1 2 (by decide)).2.1 (by decide) rfl) rfl hl.1 rfl (Nat.le_of_ble_eq_true rfl) dX1_leastLeakAt_11 ⟨Nat.zero_le _, Nat.zero_le _⟩) hW hS hA (fun H locs hW hS => ?_)
      refine lv_icmp_ge (tgt := 118) hx hb dX1_leastLeakAt_14 (by decide) (fun c_14 => ?_) (fun c_14 => ?_)
      · exact absurd c_14 (by rw [hq]; exact nI_ge (by omega) (by have := hX.2.1; omega))
      · refine lv_aload_n hx hb dX1_leastLeakAt_17 rfl (lv_at hl 1 rfl) ?_
        refine lv_iload hx hb dX1_leastLeakAt_18 (lv_at hl 4 rfl) ?_
        refine w_cq (w_runV ⟨hx, hb, hml, hown, hts⟩ (c_Jx4a65c_get_915e3 hxo l D q V J R 2 17 i nD (hX.1 2 (by decide)).1 (hX.1 2 (by decide)).2.1 (hX.2.2.2.2.2 (by omega)).2.2.2.2 (hX.2.2.2.2.2 (by omega)).1 (hX.2.2.2.2.2 (by omega)).2.1 ⟨Nat.lt_of_lt_of_le hid (hX.2.2.2.2.2 (by omega)).2.2.1, by have := hX.2.1; omega⟩ hq hid (by have := hX.2.1; omega)) hxo (cwV 1 hts gX1_leastLeakAt_Jx4a65c_get_915e3 rfl rfl rfl (by decide +kernel) ⟨Nat.le_of_ble_eq_true rfl, Nat.le_of_ble_eq_true rfl⟩) hK hW hS hA hXs (w_rcv hK hW (hX.1 2 (by decide)).1 (hX.1 2 (by decide)).2.1 (by decide) rfl) rfl hl.1 rfl (Nat.le_of_ble_eq_true rfl) dX1_leastLeakAt_20 ⟨Nat.zero_le _, Nat.zero_le _⟩) hW hS hA (fun H locs hW hS => ?_)
        refine w_some (hX.2.2.2.1 i hid).2.2.1 ?_
        refine w_cast hx hb hown (hts (.classLink RX1 40 "TownClocks$Dial") (by decide +kernel)) hK hW (hX.2.2.2.1 i hid).1 (hX.2.2.2.1 i hid).2.1 (by decide) rfl dX1_leastLeakAt_23 ?_
        obtain ⟨pi, hpi, hRi⟩ := (hX.2.2.2.1 i hid).2.2.2
        have hpl : x_pl R (200 + i) = 100 + pi := by rw [x_pl, hRi]; rfl
        refine lv_astore (lv' := [(5, .ref (ad (200 + i))), (0, .int pp), (1, .ref (ad 2)), (2, .int lo), (3, .int hi), (4, .int (nI i))]) hx hb dX1_leastLeakAt_26 hl (by decide) rfl (fun ls hl => ?_)
        refine lv_aload hx hb dX1_leastLeakAt_28 (lv_at hl 0 rfl) ?_
        refine w_getr (ci := 1) (T := TX0) hx hb hts hin_TX0 hown hK hW (hX.2.2.2.1 i hid).1 (hX.2.2.2.1 i hid).2.1 (by decide) rfl 0 (by decide) (hts (.fieldLink RX1 42 "TownClocks$Dial" "pipe" "LTownClocks$Pipe;") (by decide +kernel)) (fun _ h9 => h9) rfl hRi dX1_leastLeakAt_30 ?_
        refine lv_iconst (v := 0) hx hb dX1_leastLeakAt_33 (by decide) ?_
        refine w_ci (w_runV ⟨hx, hb, hml, hown, hts⟩ (c_X3_airBehindLeaks hxo l D q V J R (100 + pi) 0 (hX.2.2.1 pi hpi).1 (hX.2.2.1 pi hpi).2.1) hxo (cwV 1 hts gX1_leastLeakAt_X3_airBehindLeaks rfl rfl rfl (by decide +kernel) ⟨Nat.le_of_ble_eq_true rfl, Nat.le_of_ble_eq_true rfl⟩) hK hW hS hA hXs (w_rcv hK hW (hX.2.2.1 pi hpi).1 (hX.2.2.1 pi hpi).2.1 (by decide) rfl) rfl hl.1 rfl (Nat.le_of_ble_eq_true rfl) dX1_leastLeakAt_34 ⟨Nat.zero_le _, Nat.zero_le _⟩) hW hS hA (fun H locs hW hS => ?_)
        refine lv_aload hx hb dX1_leastLeakAt_37 (lv_at hl 0 rfl) ?_
        refine w_get (ci := 1) (T := TX0) hx hb hts hin_TX0 hown hK hW (hX.2.2.2.1 i hid).1 (hX.2.2.2.1 i hid).2.1 (by decide) rfl 1 (by decide) (hts (.fieldLink RX1 51 "TownClocks$Dial" "need" "I") (by decide +kernel)) (fun _ h9 => h9) rfl dX1_leastLeakAt_39 ?_
        refine lv_isub hx hb dX1_leastLeakAt_42 ?_
        refine lv_istore (lv' := [(6, .int ((x_air0 V (100 + pi) 0) - (V (200 + i) 1))), (5, .ref (ad (200 + i))), (0, .int pp), (1, .ref (ad 2)), (2, .int lo), (3, .int hi), (4, .int (nI i))]) hx hb dX1_leastLeakAt_43 hl (by decide) rfl (fun ls hl => ?_)
        refine lv_iload hx hb dX1_leastLeakAt_45 (lv_at hl 0 rfl) ?_
        refine lv_if_ge (tgt := 53) hx hb dX1_leastLeakAt_47 (by decide) (fun c_47 => ?_) (fun c_47 => ?_)
        · refine lv_aload hx hb dX1_leastLeakAt_53 (lv_at hl 1 rfl) ?_
          refine w_getr (ci := 1) (T := TX0) hx hb hts hin_TX0 hown hK hW (hX.2.2.2.1 i hid).1 (hX.2.2.2.1 i hid).2.1 (by decide) rfl 0 (by decide) (hts (.fieldLink RX1 42 "TownClocks$Dial" "pipe" "LTownClocks$Pipe;") (by decide +kernel)) (fun _ h9 => h9) rfl hRi dX1_leastLeakAt_55 ?_
          refine lv_iload_n hx hb dX1_leastLeakAt_58 rfl (lv_at hl 2 rfl) ?_
          refine w_ci (w_runV ⟨hx, hb, hml, hown, hts⟩ (c_X3_isFedThrough hxo l D q V J R (100 + pi) pp (hX.2.2.1 pi hpi).1 (hX.2.2.1 pi hpi).2.1) hxo (cwV 1 hts gX1_leastLeakAt_X3_isFedThrough rfl rfl rfl (by decide +kernel) ⟨Nat.le_of_ble_eq_true rfl, Nat.le_of_ble_eq_true rfl⟩) hK hW hS hA hXs (w_rcv hK hW (hX.2.2.1 pi hpi).1 (hX.2.2.1 pi hpi).2.1 (by decide) rfl) rfl hl.1 rfl (Nat.le_of_ble_eq_true rfl) dX1_leastLeakAt_59 ⟨Nat.zero_le _, Nat.zero_le _⟩) hW hS hA (fun H locs hW hS => ?_)
          refine lv_istore (lv' := [(7, .int (bz (x_fed V (100 + pi) pp))), (6, .int ((x_air0 V (100 + pi) 0) - (V (200 + i) 1))), (5, .ref (ad (200 + i))), (0, .int pp), (1, .ref (ad 2)), (2, .int lo), (3, .int hi), (4, .int (nI i))]) hx hb dX1_leastLeakAt_62 hl (by decide) rfl (fun ls hl => ?_)
          refine lv_aload hx hb dX1_leastLeakAt_64 (lv_at hl 2 rfl) ?_
          refine w_get (ci := 1) (T := TX0) hx hb hts hin_TX0 hown hK hW (hX.2.2.2.1 i hid).1 (hX.2.2.2.1 i hid).2.1 (by decide) rfl 7 (by decide) (hts (.fieldLink RX1 58 "TownClocks$Dial" "marked" "Z") (by decide +kernel)) (fun _ h9 => h9) rfl dX1_leastLeakAt_66 ?_
          refine lv_if_eq (tgt := 80) hx hb dX1_leastLeakAt_69 (by decide) (fun c_69 => ?_) (fun c_69 => ?_)
          · refine lv_aload hx hb dX1_leastLeakAt_80 (lv_at hl 2 rfl) ?_
            refine w_get (ci := 1) (T := TX0) hx hb hts hin_TX0 hown hK hW (hX.2.2.2.1 i hid).1 (hX.2.2.2.1 i hid).2.1 (by decide) rfl 7 (by decide) (hts (.fieldLink RX1 58 "TownClocks$Dial" "marked" "Z") (by decide +kernel)) (fun _ h9 => h9) rfl dX1_leastLeakAt_82 ?_
            refine lv_if_eq (tgt := 100) hx hb dX1_leastLeakAt_85 (by decide) (fun c_85 => ?_) (fun c_85 => ?_)
            · refine lv_iload hx hb dX1_leastLeakAt_100 (lv_at hl 0 rfl) ?_
              refine w_ifz (tgt := 112) hx hb dX1_leastLeakAt_102 (by decide) (fun c_102 => ?_) (fun c_102 => ?_)
              · refine lv_iinc (v := nI (i + 1)) (lv' := [(4, .int (nI (i + 1))), (7, .int (bz (x_fed V (100 + pi) pp))), (6, .int ((x_air0 V (100 + pi) 0) - (V (200 + i) 1))), (5, .ref (ad (200 + i))), (0, .int pp), (1, .ref (ad 2)), (2, .int lo), (3, .int hi)]) hx hb dX1_leastLeakAt_112 hl (k := 7) rfl (by rw [show Int32.ofInt 1 = 1 from by decide]; exact nI_1 _) (by decide) rfl (fun ls hl => ?_)
                refine lv_goto (tgt := 8) hx hb dX1_leastLeakAt_115 (by decide) ?_
                exact ih (i + 1) (lo) (hi) (by omega) (by have h := hF; simp only [x_ll, hpl, if_neg c_14, if_pos c_47, if_pos c_69, if_neg c_102] at h; exact h) _ _ _ hW hS (lv_sub hl [4, 5, 6, 7, 0] rfl)
              · refine lv_iload_n hx hb dX1_leastLeakAt_105 rfl (lv_at hl 6 rfl) ?_
                refine lv_iload hx hb dX1_leastLeakAt_106 (lv_at hl 1 rfl) ?_
                refine va_mmin hx hb (by rw [hml]; exact hl.1.symm) hown (hts (.methodLink RX1 68 Lib.Math.min.name) (by decide +kernel)) (hts (.static Lib.Math.min.name) (by decide +kernel)) (hts (.initialized "java/lang/Math") (by decide +kernel)) (hts (.code Lib.Math.min.name Lib.Math.min.code 2 (some .int)) (by decide +kernel)) (Nat.le_of_ble_eq_true rfl) (Nat.le_of_ble_eq_true rfl) (Nat.zero_le _) (Nat.zero_le _) dX1_leastLeakAt_108 ?_
                refine lv_istore_n (lv' := [(3, .int (if ((x_air0 V (100 + pi) 0) - (V (200 + i) 1)) < hi then ((x_air0 V (100 + pi) 0) - (V (200 + i) 1)) else hi)), (7, .int (bz (x_fed V (100 + pi) pp))), (6, .int ((x_air0 V (100 + pi) 0) - (V (200 + i) 1))), (5, .ref (ad (200 + i))), (0, .int pp), (1, .ref (ad 2)), (2, .int lo), (4, .int (nI i))]) hx hb dX1_leastLeakAt_111 rfl hl (by decide) rfl (fun ls hl => ?_)
                refine lv_iinc (v := nI (i + 1)) (lv' := [(4, .int (nI (i + 1))), (3, .int (if ((x_air0 V (100 + pi) 0) - (V (200 + i) 1)) < hi then ((x_air0 V (100 + pi) 0) - (V (200 + i) 1)) else hi)), (7, .int (bz (x_fed V (100 + pi) pp))), (6, .int ((x_air0 V (100 + pi) 0) - (V (200 + i) 1))), (5, .ref (ad (200 + i))), (0, .int pp), (1, .ref (ad 2)), (2, .int lo)]) hx hb dX1_leastLeakAt_112 hl (k := 7) rfl (by rw [show Int32.ofInt 1 = 1 from by decide]; exact nI_1 _) (by decide) rfl (fun ls hl => ?_)
                refine lv_goto (tgt := 8) hx hb dX1_leastLeakAt_115 (by decide) ?_
                exact ih (i + 1) (lo) (if ((x_air0 V (100 + pi) 0) - (V (200 + i) 1)) < hi then ((x_air0 V (100 + pi) 0) - (V (200 + i) 1)) else hi) (by omega) (by have h := hF; simp only [x_ll, hpl, if_neg c_14, if_pos c_47, if_pos c_69, if_pos c_102] at h; exact h) _ _ _ hW hS (lv_sub hl [5, 6, 7, 1, 0] rfl)
            · exact absurd c_69 c_85
          · refine lv_iload hx hb dX1_leastLeakAt_72 (lv_at hl 0 rfl) ?_
            refine w_ifnz (tgt := 80) hx hb dX1_leastLeakAt_74 (by decide) (fun c_74 => ?_) (fun c_74 => ?_)
            · refine lv_aload hx hb dX1_leastLeakAt_80 (lv_at hl 2 rfl) ?_
              refine w_get (ci := 1) (T := TX0) hx hb hts hin_TX0 hown hK hW (hX.2.2.2.1 i hid).1 (hX.2.2.2.1 i hid).2.1 (by decide) rfl 7 (by decide) (hts (.fieldLink RX1 58 "TownClocks$Dial" "marked" "Z") (by decide +kernel)) (fun _ h9 => h9) rfl dX1_leastLeakAt_82 ?_
              refine lv_if_eq (tgt := 100) hx hb dX1_leastLeakAt_85 (by decide) (fun c_85 => ?_) (fun c_85 => ?_)
              · exact absurd c_85 c_69
              · refine lv_iload_n hx hb dX1_leastLeakAt_88 rfl (lv_at hl 5 rfl) ?_
                refine lv_iload hx hb dX1_leastLeakAt_89 (lv_at hl 1 rfl) ?_
                refine lv_iconst (v := 1) hx hb dX1_leastLeakAt_91 (by decide) ?_
                refine lv_iadd hx hb dX1_leastLeakAt_92 ?_
                refine va_mmax hx hb (by rw [hml]; exact hl.1.symm) hown (hts (.methodLink RX1 62 Lib.Math.max.name) (by decide +kernel)) (hts (.static Lib.Math.max.name) (by decide +kernel)) (hts (.initialized "java/lang/Math") (by decide +kernel)) (hts (.code Lib.Math.max.name Lib.Math.max.code 2 (some .int)) (by decide +kernel)) (Nat.le_of_ble_eq_true rfl) (Nat.le_of_ble_eq_true rfl) (Nat.zero_le _) (Nat.zero_le _) dX1_leastLeakAt_93 ?_
                refine lv_istore_n (lv' := [(2, .int (if lo < (((x_air0 V (100 + pi) 0) - (V (200 + i) 1)) + 1) then (((x_air0 V (100 + pi) 0) - (V (200 + i) 1)) + 1) else lo)), (7, .int (bz (x_fed V (100 + pi) pp))), (6, .int ((x_air0 V (100 + pi) 0) - (V (200 + i) 1))), (5, .ref (ad (200 + i))), (0, .int pp), (1, .ref (ad 2)), (3, .int hi), (4, .int (nI i))]) hx hb dX1_leastLeakAt_96 rfl hl (by decide) rfl (fun ls hl => ?_)
                refine lv_goto (tgt := 112) hx hb dX1_leastLeakAt_97 (by decide) ?_
                refine lv_iinc (v := nI (i + 1)) (lv' := [(4, .int (nI (i + 1))), (2, .int (if lo < (((x_air0 V (100 + pi) 0) - (V (200 + i) 1)) + 1) then (((x_air0 V (100 + pi) 0) - (V (200 + i) 1)) + 1) else lo)), (7, .int (bz (x_fed V (100 + pi) pp))), (6, .int ((x_air0 V (100 + pi) 0) - (V (200 + i) 1))), (5, .ref (ad (200 + i))), (0, .int pp), (1, .ref (ad 2)), (3, .int hi)]) hx hb dX1_leastLeakAt_112 hl (k := 7) rfl (by rw [show Int32.ofInt 1 = 1 from by decide]; exact nI_1 _) (by decide) rfl (fun ls hl => ?_)
                refine lv_goto (tgt := 8) hx hb dX1_leastLeakAt_115 (by decide) ?_
                exact ih (i + 1) (if lo < (((x_air0 V (100 + pi) 0) - (V (200 + i) 1)) + 1) then (((x_air0 V (100 + pi) 0) - (V (200 + i) 1)) + 1) else lo) (hi) (by omega) (by have h := hF; simp only [x_ll, hpl, if_neg c_14, if_pos c_47, if_neg c_69, if_pos c_74] at h; exact h) _ _ _ hW hS (lv_sub hl [5, 6, 1, 7, 0] rfl)
            · refine lv_ldc (v := -1000000) hx hb hown (hts (.constant RX1 35 (-1000000)) (by decide +kernel)) dX1_leastLeakAt_77 ?_
              exact w_iret hx hb hr hlk hW hS (by have h := hF; simp only [x_ll, hpl, if_neg c_14, if_pos c_47, if_neg c_69, if_neg c_74] at h; rw [← hRV, ← h]) rfl rfl rfl dX1_leastLeakAt_79
        · refine lv_goto (tgt := 112) hx hb dX1_leastLeakAt_50 (by decide) ?_
          refine lv_iinc (v := nI (i + 1)) (lv' := [(4, .int (nI (i + 1))), (6, .int ((x_air0 V (100 + pi) 0) - (V (200 + i) 1))), (5, .ref (ad (200 + i))), (0, .int pp), (1, .ref (ad 2)), (2, .int lo), (3, .int hi)]) hx hb dX1_leastLeakAt_112 hl (k := 6) rfl (by rw [show Int32.ofInt 1 = 1 from by decide]; exact nI_1 _) (by decide) rfl (fun ls hl => ?_)
          refine lv_goto (tgt := 8) hx hb dX1_leastLeakAt_115 (by decide) ?_
          exact ih (i + 1) (lo) (hi) (by omega) (by have h := hF; simp only [x_ll, hpl, if_neg c_14, if_neg c_47] at h; exact h) _ _ _ hW hS (lv_sub hl [3, 4, 5, 6, 0] rfl)
  refine lv_iconst (v := 1) hx hb dX1_leastLeakAt_0 (by decide) ?_
  refine lv_istore_n (lv' := [(2, .int 1), (0, .int pp), (1, .ref (ad 2))]) hx hb dX1_leastLeakAt_1 rfl hl (by decide) rfl (fun ls hl => ?_)
  refine lv_bipush (v := 60) hx hb dX1_leastLeakAt_2 (by decide) ?_
  refine lv_istore_n (lv' := [(3, .int 60), (2, .int 1), (0, .int pp), (1, .ref (ad 2))]) hx hb dX1_leastLeakAt_4 rfl hl (by decide) rfl (fun ls hl => ?_)
  refine lv_iconst (v := 0) hx hb dX1_leastLeakAt_5 (by decide) ?_
  refine lv_istore (lv' := [(4, .int 0), (3, .int 60), (2, .int 1), (0, .int pp), (1, .ref (ad 2))]) hx hb dX1_leastLeakAt_6 hl (by decide) rfl (fun ls hl => ?_)
  exact JL nD 0 1 60 (by omega) hRV.symm _ _ _ hW hS (lv_sub hl [3, 4, 2, 1, 0] rfl)
set_option maxHeartbeats 4000000 in
set_option maxRecDepth 100000 in
theorem c_X1_find {X : (Nat → Prop) → State → Prop} (hxo : xok X) (l : Launch) (D : va_G) (q : Cq) {dm : List Nat} {kd ln ad : Nat → Nat} (V : Mv) (J : Mj) (R : Mr) (nP nD : Nat) (hX : okX dm kd ln R nP nD) (hp : V 1 2 = nI nP) (hq : V 2 2 = nI nD) : CtV X l yX1_find wsX1_find ({ frames := 4, cells := 0, slots := 0, locals := 91 }) D q dm kd ln ad V J R [.ref (ad 4), .ref (ad 1), .ref (ad 2)] (x_find R nD nP 0 (u2 V 4 3 0)) (J) (R) := by
  refine CtV_of (cc := cX1_find) (maxL := 5) (ret := none) (by decide +kernel) rfl (Nat.le_of_ble_eq_true rfl) ?_
  intro p e s m below meth c A hx hb hr hml hts hown hlk hmn hK hW hA hXs ls hl
  have hS : va_S A s.heap s.heap [] := va_S.rf
  have hl : lv_has ls 5 [(0, .ref (ad 4)), (1, .ref (ad 1)), (2, .ref (ad 2))] := hl
  have hin_TX1 : ∀ w ∈ u_ws RX1 TX1 4, w ∈ wsX1_find := by decide +kernel
  obtain ⟨F, hFe⟩ : ∃ r, r = x_find R nD nP 0 (u2 V 4 3 0) := ⟨_, rfl⟩
  have JL : ∀ n : Nat, ∀ (i f : Nat) (Vw : Mv) (hn : i + n = nP) (hf : Vw 4 3 = nI f) (hfi : f ≤ i) (hpW : Vw 1 2 = nI nP) (hqW : Vw 2 2 = nI nD) (hF : x_find R nD n i Vw = F) (H : Heap) (locs : List Loc) (ls : Array Slot), wok A D q dm kd ln ad Vw J R H → va_S A s.heap H locs → lv_has ls 5 [(0, .ref (ad 4)), (1, .ref (ad 1)), (2, .ref (ad 2)), (3, .int (nI i))] → W p l e ({ frames := 4, cells := 0, slots := 0, locals := 91 }) s m ([.ref (ad 4), .ref (ad 1), .ref (ad 2)] : List Value).toArray below meth c H locs 0 0 (MQ below (QV D q dm kd ln ad (x_find R nD nP 0 (u2 V 4 3 0)) (J) (R) A) ([.ref (ad 4), .ref (ad 1), .ref (ad 2)] : List Value).toArray s 0 0 A) (F0 m 7 ls []) := by
    intro n
    induction n with
    | zero =>
      intro i f Vw hn hf hfi hpW hqW hF H locs ls hW hS hl
      refine lv_iload_n hx hb dX1_find_7 rfl (lv_at hl 3 rfl) ?_
      refine lv_aload_n hx hb dX1_find_8 rfl (lv_at hl 1 rfl) ?_
      refine w_ci (w_runV ⟨hx, hb, hml, hown, hts⟩ (c_Jx4a65c_size_8abf5 hxo l D q Vw J R 1 (hX.1 1 (by decide)).1 (hX.1 1 (by decide)).2.1) hxo (cwV 0 hts gX1_find_Jx4a65c_size_8abf5 rfl rfl rfl (by decide +kernel) ⟨Nat.le_of_ble_eq_true rfl, Nat.le_of_ble_eq_true rfl⟩) hK hW hS hA hXs (w_rcv hK hW (hX.1 1 (by decide)).1 (hX.1 1 (by decide)).2.1 (by decide) rfl) rfl hl.1 rfl (Nat.le_of_ble_eq_true rfl) dX1_find_9 ⟨Nat.zero_le _, Nat.zero_le _⟩) hW hS hA (fun H locs hW hS => ?_)
      refine lv_icmp_ge (tgt := 72) hx hb dX1_find_12 (by decide) (fun c_12 => ?_) (fun c_12 => ?_)
      · exact w_vret hx hb hr hlk hW hS (by rw [← hFe, ← hF]; rfl) rfl rfl dX1_find_72
      · exact absurd (by rw [hpW]; exact nI_le (by omega) (by have := hX.2.1; omega)) c_12
    | succ n ih =>
      intro i f Vw hn hf hfi hpW hqW hF H locs ls hW hS hl
      refine lv_iload_n hx hb dX1_find_7 rfl (lv_at hl 3 rfl) ?_
      refine lv_aload_n hx hb dX1_find_8 rfl (lv_at hl 1 rfl) ?_
      refine w_ci (w_runV ⟨hx, hb, hml, hown, hts⟩ (c_Jx4a65c_size_8abf5 hxo l D q Vw J R 1 (hX.1 1 (by decide)).1 (hX.1 1 (by decide)).2.1) hxo (cwV 0 hts gX1_find_Jx4a65c_size_8abf5 rfl rfl rfl (by decide +kernel) ⟨Nat.le_of_ble_eq_true rfl, Nat.le_of_ble_eq_true rfl⟩) hK hW hS hA hXs (w_rcv hK hW (hX.1 1 (by decide)).1 (hX.1 1 (by decide)).2.1 (by decide) rfl) rfl hl.1 rfl (Nat.le_of_ble_eq_true rfl) dX1_find_9 ⟨Nat.zero_le _, Nat.zero_le _⟩) hW hS hA (fun H locs hW hS => ?_)
      refine lv_icmp_ge (tgt := 72) hx hb dX1_find_12 (by decide) (fun c_12 => ?_) (fun c_12 => ?_)
      · exact absurd c_12 (by rw [hpW]; exact nI_ge (by omega) (by have := hX.2.1; omega))
      · refine lv_iload_n hx hb dX1_find_15 rfl (lv_at hl 3 rfl) ?_
        refine lv_bipush (v := 30) hx hb dX1_find_16 (by decide) ?_
        refine lv_icmp_ge (tgt := 72) hx hb dX1_find_18 (by decide) (fun c_18 => ?_) (fun c_18 => ?_)
        · exact absurd c_18 (nI_ge (b := 30) (by have := hX.2.1; omega) (by decide))
        · refine lv_iload_n hx hb dX1_find_21 rfl (lv_at hl 3 rfl) ?_
          refine lv_aload_n hx hb dX1_find_22 rfl (lv_at hl 2 rfl) ?_
          refine w_ci (w_runS ⟨hx, hb, hml, hown, hts⟩ (c_X1_leastLeakAt hxo l D q Vw J R nP nD (nI i) hX hqW) hxo (va_cwS 2 hts gX1_find_X1_leastLeakAt rfl rfl rfl (by decide +kernel) ⟨Nat.le_of_ble_eq_true rfl, Nat.le_of_ble_eq_true rfl⟩) hK hW hS hA hXs rfl hl.1 rfl (Nat.le_of_ble_eq_true rfl) dX1_find_23 ⟨Nat.zero_le _, Nat.zero_le _⟩) hW hS hA (fun H locs hW hS => ?_)
          refine lv_istore (lv' := [(4, .int (x_ll Vw R (nI i) nD 0 1 60)), (0, .ref (ad 4)), (1, .ref (ad 1)), (2, .ref (ad 2)), (3, .int (nI i))]) hx hb dX1_find_26 hl (by decide) rfl (fun ls hl => ?_)
          refine lv_iload hx hb dX1_find_28 (lv_at hl 0 rfl) ?_
          refine lv_ldc (v := -1000000) hx hb hown (hts (.constant RX1 35 (-1000000)) (by decide +kernel)) dX1_find_30 ?_
          refine lv_icmp_eq (tgt := 66) hx hb dX1_find_32 (by decide) (fun c_32 => ?_) (fun c_32 => ?_)
          · refine lv_iinc (v := nI (i + 1)) (lv' := [(3, .int (nI (i + 1))), (4, .int (x_ll Vw R (nI i) nD 0 1 60)), (0, .ref (ad 4)), (1, .ref (ad 1)), (2, .ref (ad 2))]) hx hb dX1_find_66 hl (k := 4) rfl (by rw [show Int32.ofInt 1 = 1 from by decide]; exact nI_1 _) (by decide) rfl (fun ls hl => ?_)
            refine lv_goto (tgt := 7) hx hb dX1_find_69 (by decide) ?_
            exact ih (i + 1) f Vw (by omega) hf (by omega) hpW hqW (by have h := hF; simp only [x_find, if_pos c_32] at h; exact h) _ _ _ hW hS (lv_sub hl [2, 3, 4, 0] rfl)
          · refine lv_aload_n hx hb dX1_find_35 rfl (lv_at hl 1 rfl) ?_
            refine w_getr (ci := 2) (T := TX1) hx hb hts hin_TX1 hown hK hW (hX.1 4 (by decide)).1 (hX.1 4 (by decide)).2.1 (by decide) rfl 0 (by decide) (hts (.fieldLink RX1 9 "TownClocks$Explanations" "pipe" "[I") (by decide +kernel)) (fun _ h9 => h9) rfl ((hX.1 4 (by decide)).2.2.2 0 5 rfl) dX1_find_36 ?_
            refine lv_aload_n hx hb dX1_find_39 rfl (lv_at hl 1 rfl) ?_
            refine w_get (ci := 2) (T := TX1) hx hb hts hin_TX1 hown hK hW (hX.1 4 (by decide)).1 (hX.1 4 (by decide)).2.1 (by decide) rfl 3 (by decide) (hts (.fieldLink RX1 21 "TownClocks$Explanations" "found" "I") (by decide +kernel)) (fun _ h9 => h9) rfl dX1_find_40 ?_
            refine lv_iload_n hx hb dX1_find_43 rfl (lv_at hl 4 rfl) ?_
            refine w_iast hx hb hK hW hS (hX.1 5 (by decide)).1 (hX.1 5 (by decide)).2.1 (by rw [(show ln 5 = 30 from (hX.1 5 (by decide)).2.2.1), hf]; exact inx_v.mpr (inx_n (by have := hX.2.1; omega) (by omega))) dX1_find_44 (fun H locs hW hS => ?_)
            refine lv_aload_n hx hb dX1_find_45 rfl (lv_at hl 1 rfl) ?_
            refine w_getr (ci := 2) (T := TX1) hx hb hts hin_TX1 hown hK hW (hX.1 4 (by decide)).1 (hX.1 4 (by decide)).2.1 (by decide) rfl 1 (by decide) (hts (.fieldLink RX1 15 "TownClocks$Explanations" "leastLeak" "[I") (by decide +kernel)) (fun _ h9 => h9) rfl ((hX.1 4 (by decide)).2.2.2 1 6 rfl) dX1_find_46 ?_
            refine lv_aload_n hx hb dX1_find_49 rfl (lv_at hl 1 rfl) ?_
            refine w_get (ci := 2) (T := TX1) hx hb hts hin_TX1 hown hK hW (hX.1 4 (by decide)).1 (hX.1 4 (by decide)).2.1 (by decide) rfl 3 (by decide) (hts (.fieldLink RX1 21 "TownClocks$Explanations" "found" "I") (by decide +kernel)) (fun _ h9 => h9) rfl dX1_find_50 ?_
            refine w_i (by rw [u2_ne (by decide)]) ?_
            refine lv_iload hx hb dX1_find_53 (lv_at hl 0 rfl) ?_
            refine w_iast hx hb hK hW hS (hX.1 6 (by decide)).1 (hX.1 6 (by decide)).2.1 (by rw [(show ln 6 = 30 from (hX.1 6 (by decide)).2.2.1), hf]; exact inx_v.mpr (inx_n (by have := hX.2.1; omega) (by omega))) dX1_find_55 (fun H locs hW hS => ?_)
            refine lv_aload_n hx hb dX1_find_56 rfl (lv_at hl 1 rfl) ?_
            refine lv_dup hx hb dX1_find_57 rfl ?_
            refine w_get (ci := 2) (T := TX1) hx hb hts hin_TX1 hown hK hW (hX.1 4 (by decide)).1 (hX.1 4 (by decide)).2.1 (by decide) rfl 3 (by decide) (hts (.fieldLink RX1 21 "TownClocks$Explanations" "found" "I") (by decide +kernel)) (fun _ h9 => h9) rfl dX1_find_58 ?_
            refine w_i (by rw [u2_ne (by decide), u2_ne (by decide)]) ?_
            refine lv_iconst (v := 1) hx hb dX1_find_61 (by decide) ?_
            refine lv_iadd hx hb dX1_find_62 ?_
            refine w_puti (ci := 2) (T := TX1) (ty := .int) hx hb hts hin_TX1 tyX1 tyX1_ok nmX1 hown hK hW hS (hX.1 4 (by decide)).1 (hX.1 4 (by decide)).2.1 (by decide) rfl 3 (by decide) (hts (.fieldLink RX1 21 "TownClocks$Explanations" "found" "I") (by decide +kernel)) (fun _ h9 => h9) rfl (tyX1_ok 3 (by decide)) rfl rfl (Nat.le_of_ble_eq_true rfl) rfl dX1_find_63 (fun H locs hW hS => ?_)
            refine lv_iinc (v := nI (i + 1)) (lv' := [(3, .int (nI (i + 1))), (4, .int (x_ll Vw R (nI i) nD 0 1 60)), (0, .ref (ad 4)), (1, .ref (ad 1)), (2, .ref (ad 2))]) hx hb dX1_find_66 hl (k := 4) rfl (by rw [show Int32.ofInt 1 = 1 from by decide]; exact nI_1 _) (by decide) rfl (fun ls hl => ?_)
            refine lv_goto (tgt := 7) hx hb dX1_find_69 (by decide) ?_
            exact ih (i + 1) (f + 1) _ (by omega) (by rw [u2_ss, hf, nI_1]) (by omega) (by rw [u2_ne (by decide), u2_ne (by decide), u2_ne (by decide)]; exact hpW) (by rw [u2_ne (by decide), u2_ne (by decide), u2_ne (by decide)]; exact hqW) (by have h := hF; simp only [x_find, x_fadd, if_neg c_32] at h; exact h) _ _ _ hW hS (lv_sub hl [2, 3, 4, 0] rfl)
  refine lv_aload_n hx hb dX1_find_0 rfl (lv_at hl 0 rfl) ?_
  refine lv_iconst (v := 0) hx hb dX1_find_1 (by decide) ?_
  refine w_puti (ci := 2) (T := TX1) (ty := .int) hx hb hts hin_TX1 tyX1 tyX1_ok nmX1 hown hK hW hS (hX.1 4 (by decide)).1 (hX.1 4 (by decide)).2.1 (by decide) rfl 3 (by decide) (hts (.fieldLink RX1 21 "TownClocks$Explanations" "found" "I") (by decide +kernel)) (fun _ h9 => h9) rfl (tyX1_ok 3 (by decide)) rfl rfl (Nat.le_of_ble_eq_true rfl) rfl dX1_find_2 (fun H locs hW hS => ?_)
  refine lv_iconst (v := 0) hx hb dX1_find_5 (by decide) ?_
  refine lv_istore_n (lv' := [(3, .int 0), (0, .ref (ad 4)), (1, .ref (ad 1)), (2, .ref (ad 2))]) hx hb dX1_find_6 rfl hl (by decide) rfl (fun ls hl => ?_)
  exact JL nP 0 0 (u2 V 4 3 0) (by omega) (by rw [u2_ss]; rfl) (by omega) (by rw [u2_ne (by decide)]; exact hp) (by rw [u2_ne (by decide)]; exact hq) hFe.symm _ _ _ hW hS (lv_sub hl [1, 2, 3, 0] rfl)
set_option maxHeartbeats 4000000 in
set_option maxRecDepth 100000 in
theorem c_X1_unlikePairs {X : (Nat → Prop) → State → Prop} (hxo : xok X) (l : Launch) (D : va_G) (q : Cq) {dm : List Nat} {kd ln ad : Nat → Nat} (V : Mv) (J : Mj) (R : Mr) (nP nD i f : Nat) (hX : okX dm kd ln R nP nD) (hi : i < nP) (hf : V 4 3 = nI f) (hf30 : f ≤ 30) (hair : ∀ e, e < f → inx 101 (x_airE V (100 + i) e)) : CtI X l yX1_unlikePairs wsX1_unlikePairs ({ frames := 2, cells := 0, slots := 0, locals := 44 }) D q dm kd ln ad V J R [.ref (ad 4), .ref (ad (100 + i))] ((x_un V (100 + i) f).2) ((x_un V (100 + i) f).1) (J) (R) := by
  refine CtI_of (cc := cX1_unlikePairs) (maxL := 5) (ret := (some .int)) (by decide +kernel) rfl (Nat.le_of_ble_eq_true rfl) ?_
  intro p e s m below meth c A hx hb hr hml hts hown hlk hmn hK hW hA hXs ls hl
  have hS : va_S A s.heap s.heap [] := va_S.rf
  have hl : lv_has ls 5 [(0, .ref (ad 4)), (1, .ref (ad (100 + i)))] := hl
  have hin_TX1 : ∀ w ∈ u_ws RX1 TX1 4, w ∈ wsX1_unlikePairs := by decide +kernel
  obtain ⟨F, hFe⟩ : ∃ r, r = x_unl (100 + i) f 0 (x_fillL 7 0 101 0 V) 0 := ⟨_, rfl⟩
  have JL : ∀ n : Nat, ∀ (ee : Nat) (Vw : Mv) (un : Int32) (hn : ee + n = f) (hag : ∀ k, k ≠ 7 → Vw k = V k) (hF : x_unl (100 + i) n ee Vw un = F) (H : Heap) (locs : List Loc) (ls : Array Slot), wok A D q dm kd ln ad Vw J R H → va_S A s.heap H locs → lv_has ls 5 [(0, .ref (ad 4)), (1, .ref (ad (100 + i))), (2, .int un), (3, .int (nI ee))] → W p l e ({ frames := 2, cells := 0, slots := 0, locals := 44 }) s m ([.ref (ad 4), .ref (ad (100 + i))] : List Value).toArray below meth c H locs 0 0 (MQ below (QI ((x_un V (100 + i) f).2) D q dm kd ln ad ((x_un V (100 + i) f).1) (J) (R) A) ([.ref (ad 4), .ref (ad (100 + i))] : List Value).toArray s 0 0 A) (F0 m 12 ls []) := by
    intro n
    induction n with
    | zero =>
      intro ee Vw un hn hag hF H locs ls hW hS hl
      refine lv_iload_n hx hb dX1_unlikePairs_12 rfl (lv_at hl 3 rfl) ?_
      refine lv_aload_n hx hb dX1_unlikePairs_13 rfl (lv_at hl 0 rfl) ?_
      refine w_get (ci := 2) (T := TX1) hx hb hts hin_TX1 hown hK hW (hX.1 4 (by decide)).1 (hX.1 4 (by decide)).2.1 (by decide) rfl 3 (by decide) (hts (.fieldLink RX1 21 "TownClocks$Explanations" "found" "I") (by decide +kernel)) (fun _ h9 => h9) rfl dX1_unlikePairs_14 ?_
      refine lv_icmp_ge (tgt := 78) hx hb dX1_unlikePairs_17 (by decide) (fun c_17 => ?_) (fun c_17 => ?_)
      · refine lv_iload_n hx hb dX1_unlikePairs_78 rfl (lv_at hl 2 rfl) ?_
        exact w_iret hx hb hr hlk hW hS (by rw [x_un, ← hFe, ← hF]; rfl) (by rw [x_un, ← hFe, ← hF]; rfl) rfl rfl dX1_unlikePairs_79
      · exact absurd (by rw [hag 4 (by decide), hf]; exact nI_le (by omega) (by omega)) c_17
    | succ n ih =>
      intro ee Vw un hn hag hF H locs ls hW hS hl
      refine lv_iload_n hx hb dX1_unlikePairs_12 rfl (lv_at hl 3 rfl) ?_
      refine lv_aload_n hx hb dX1_unlikePairs_13 rfl (lv_at hl 0 rfl) ?_
      refine w_get (ci := 2) (T := TX1) hx hb hts hin_TX1 hown hK hW (hX.1 4 (by decide)).1 (hX.1 4 (by decide)).2.1 (by decide) rfl 3 (by decide) (hts (.fieldLink RX1 21 "TownClocks$Explanations" "found" "I") (by decide +kernel)) (fun _ h9 => h9) rfl dX1_unlikePairs_14 ?_
      refine lv_icmp_ge (tgt := 78) hx hb dX1_unlikePairs_17 (by decide) (fun c_17 => ?_) (fun c_17 => ?_)
      · exact absurd c_17 (by rw [hag 4 (by decide), hf]; exact nI_ge (by omega) (by omega))
      · refine lv_aload_n hx hb dX1_unlikePairs_20 rfl (lv_at hl 1 rfl) ?_
        refine lv_aload_n hx hb dX1_unlikePairs_21 rfl (lv_at hl 1 rfl) ?_
        refine lv_aload_n hx hb dX1_unlikePairs_22 rfl (lv_at hl 0 rfl) ?_
        refine w_getr (ci := 2) (T := TX1) hx hb hts hin_TX1 hown hK hW (hX.1 4 (by decide)).1 (hX.1 4 (by decide)).2.1 (by decide) rfl 0 (by decide) (hts (.fieldLink RX1 9 "TownClocks$Explanations" "pipe" "[I") (by decide +kernel)) (fun _ h9 => h9) rfl ((hX.1 4 (by decide)).2.2.2 0 5 rfl) dX1_unlikePairs_23 ?_
        refine lv_iload_n hx hb dX1_unlikePairs_26 rfl (lv_at hl 3 rfl) ?_
        refine w_ialdN (t := ee) hx hb hK hW (hX.1 5 (by decide)).1 (hX.1 5 (by decide)).2.1 ⟨by rw [(show ln 5 = 30 from (hX.1 5 (by decide)).2.2.1)]; omega, by omega⟩ dX1_unlikePairs_27 ?_
        refine w_ci (w_runV ⟨hx, hb, hml, hown, hts⟩ (c_X3_isFedThrough hxo l D q Vw J R (100 + i) (Vw 5 ee) (hX.2.2.1 i hi).1 (hX.2.2.1 i hi).2.1) hxo (cwV 1 hts gX1_unlikePairs_X3_isFedThrough rfl rfl rfl (by decide +kernel) ⟨Nat.le_of_ble_eq_true rfl, Nat.le_of_ble_eq_true rfl⟩) hK hW hS hA hXs (w_rcv hK hW (hX.2.2.1 i hi).1 (hX.2.2.1 i hi).2.1 (by decide) rfl) rfl hl.1 rfl (Nat.le_of_ble_eq_true rfl) dX1_unlikePairs_28 ⟨Nat.zero_le _, Nat.zero_le _⟩) hW hS hA (fun H locs hW hS => ?_)
        refine w_ifz (tgt := 43) hx hb dX1_unlikePairs_31 (by decide) (fun c_31 => ?_) (fun c_31 => ?_)
        · refine lv_iconst (v := 0) hx hb dX1_unlikePairs_43 (by decide) ?_
          refine w_ci (w_runV ⟨hx, hb, hml, hown, hts⟩ (c_X3_airBehindLeaks hxo l D q Vw J R (100 + i) 0 (hX.2.2.1 i hi).1 (hX.2.2.1 i hi).2.1) hxo (cwV 1 hts gX1_unlikePairs_X3_airBehindLeaks rfl rfl rfl (by decide +kernel) ⟨Nat.le_of_ble_eq_true rfl, Nat.le_of_ble_eq_true rfl⟩) hK hW hS hA hXs (w_rcv hK hW (hX.2.2.1 i hi).1 (hX.2.2.1 i hi).2.1 (by decide) rfl) rfl hl.1 rfl (Nat.le_of_ble_eq_true rfl) dX1_unlikePairs_44 ⟨Nat.zero_le _, Nat.zero_le _⟩) hW hS hA (fun H locs hW hS => ?_)
          refine lv_istore (lv' := [(4, .int (x_air0 Vw (100 + i) 0)), (0, .ref (ad 4)), (1, .ref (ad (100 + i))), (2, .int un), (3, .int (nI ee))]) hx hb dX1_unlikePairs_47 hl (by decide) rfl (fun ls hl => ?_)
          refine lv_iload_n hx hb dX1_unlikePairs_49 rfl (lv_at hl 3 rfl) ?_
          refine lv_iload_n hx hb dX1_unlikePairs_50 rfl (lv_at hl 4 rfl) ?_
          refine lv_aload_n hx hb dX1_unlikePairs_51 rfl (lv_at hl 1 rfl) ?_
          refine w_getr (ci := 2) (T := TX1) hx hb hts hin_TX1 hown hK hW (hX.1 4 (by decide)).1 (hX.1 4 (by decide)).2.1 (by decide) rfl 2 (by decide) (hts (.fieldLink RX1 18 "TownClocks$Explanations" "likeAir" "[I") (by decide +kernel)) (fun _ h9 => h9) rfl ((hX.1 4 (by decide)).2.2.2 2 7 rfl) dX1_unlikePairs_52 ?_
          refine lv_iload hx hb dX1_unlikePairs_55 (lv_at hl 0 rfl) ?_
          refine w_iald hx hb hK hW (hX.1 7 (by decide)).1 (hX.1 7 (by decide)).2.1 (by rw [(show ln 7 = 101 from (hX.1 7 (by decide)).2.2.1)]; have h := hair ee (by omega); rw [← x_airE_ag hag (show 100 + i ≠ 7 by omega)] at h; simp only [x_airE, if_neg c_17, if_neg c_31] at h; exact inx_v.mpr h) dX1_unlikePairs_57 ?_
          refine lv_isub hx hb dX1_unlikePairs_58 ?_
          refine lv_iadd hx hb dX1_unlikePairs_59 ?_
          refine lv_istore_n (lv' := [(2, .int (un + ((nI ee) - (Vw 7 ((x_air0 Vw (100 + i) 0).toNatClampNeg))))), (4, .int (x_air0 Vw (100 + i) 0)), (0, .ref (ad 4)), (1, .ref (ad (100 + i))), (3, .int (nI ee))]) hx hb dX1_unlikePairs_60 rfl hl (by decide) rfl (fun ls hl => ?_)
          refine lv_aload_n hx hb dX1_unlikePairs_61 rfl (lv_at hl 2 rfl) ?_
          refine w_getr (ci := 2) (T := TX1) hx hb hts hin_TX1 hown hK hW (hX.1 4 (by decide)).1 (hX.1 4 (by decide)).2.1 (by decide) rfl 2 (by decide) (hts (.fieldLink RX1 18 "TownClocks$Explanations" "likeAir" "[I") (by decide +kernel)) (fun _ h9 => h9) rfl ((hX.1 4 (by decide)).2.2.2 2 7 rfl) dX1_unlikePairs_62 ?_
          refine lv_iload hx hb dX1_unlikePairs_65 (lv_at hl 1 rfl) ?_
          refine lv_dup2_11 hx hb dX1_unlikePairs_67 rfl rfl ?_
          refine w_iald hx hb hK hW (hX.1 7 (by decide)).1 (hX.1 7 (by decide)).2.1 (by rw [(show ln 7 = 101 from (hX.1 7 (by decide)).2.2.1)]; have h := hair ee (by omega); rw [← x_airE_ag hag (show 100 + i ≠ 7 by omega)] at h; simp only [x_airE, if_neg c_17, if_neg c_31] at h; exact inx_v.mpr h) dX1_unlikePairs_68 ?_
          refine lv_iconst (v := 1) hx hb dX1_unlikePairs_69 (by decide) ?_
          refine lv_iadd hx hb dX1_unlikePairs_70 ?_
          refine w_iast hx hb hK hW hS (hX.1 7 (by decide)).1 (hX.1 7 (by decide)).2.1 (by rw [(show ln 7 = 101 from (hX.1 7 (by decide)).2.2.1)]; have h := hair ee (by omega); rw [← x_airE_ag hag (show 100 + i ≠ 7 by omega)] at h; simp only [x_airE, if_neg c_17, if_neg c_31] at h; exact inx_v.mpr h) dX1_unlikePairs_71 (fun H locs hW hS => ?_)
          refine lv_iinc (v := nI (ee + 1)) (lv' := [(3, .int (nI (ee + 1))), (2, .int (un + ((nI ee) - (Vw 7 ((x_air0 Vw (100 + i) 0).toNatClampNeg))))), (4, .int (x_air0 Vw (100 + i) 0)), (0, .ref (ad 4)), (1, .ref (ad (100 + i)))]) hx hb dX1_unlikePairs_72 hl (k := 4) rfl (by rw [show Int32.ofInt 1 = 1 from by decide]; exact nI_1 _) (by decide) rfl (fun ls hl => ?_)
          refine lv_goto (tgt := 12) hx hb dX1_unlikePairs_75 (by decide) ?_
          exact ih (ee + 1) _ _ (by omega) (fun k hk => by rw [u2_ne hk]; exact hag k hk) (by have h := hF; simp only [x_unl, x_airE, if_neg c_17, if_neg c_31] at h; exact h) _ _ _ hW hS (lv_sub hl [3, 4, 1, 0] rfl)
        · refine lv_aload_n hx hb dX1_unlikePairs_34 rfl (lv_at hl 0 rfl) ?_
          refine w_getr (ci := 2) (T := TX1) hx hb hts hin_TX1 hown hK hW (hX.1 4 (by decide)).1 (hX.1 4 (by decide)).2.1 (by decide) rfl 1 (by decide) (hts (.fieldLink RX1 15 "TownClocks$Explanations" "leastLeak" "[I") (by decide +kernel)) (fun _ h9 => h9) rfl ((hX.1 4 (by decide)).2.2.2 1 6 rfl) dX1_unlikePairs_35 ?_
          refine lv_iload_n hx hb dX1_unlikePairs_38 rfl (lv_at hl 3 rfl) ?_
          refine w_ialdN (t := ee) hx hb hK hW (hX.1 6 (by decide)).1 (hX.1 6 (by decide)).2.1 ⟨by rw [(show ln 6 = 30 from (hX.1 6 (by decide)).2.2.1)]; omega, by omega⟩ dX1_unlikePairs_39 ?_
          refine lv_goto (tgt := 44) hx hb dX1_unlikePairs_40 (by decide) ?_
          refine w_ci (w_runV ⟨hx, hb, hml, hown, hts⟩ (c_X3_airBehindLeaks hxo l D q Vw J R (100 + i) (Vw 6 ee) (hX.2.2.1 i hi).1 (hX.2.2.1 i hi).2.1) hxo (cwV 1 hts gX1_unlikePairs_X3_airBehindLeaks rfl rfl rfl (by decide +kernel) ⟨Nat.le_of_ble_eq_true rfl, Nat.le_of_ble_eq_true rfl⟩) hK hW hS hA hXs (w_rcv hK hW (hX.2.2.1 i hi).1 (hX.2.2.1 i hi).2.1 (by decide) rfl) rfl hl.1 rfl (Nat.le_of_ble_eq_true rfl) dX1_unlikePairs_44 ⟨Nat.zero_le _, Nat.zero_le _⟩) hW hS hA (fun H locs hW hS => ?_)
          refine lv_istore (lv' := [(4, .int (x_air0 Vw (100 + i) (Vw 6 ee))), (0, .ref (ad 4)), (1, .ref (ad (100 + i))), (2, .int un), (3, .int (nI ee))]) hx hb dX1_unlikePairs_47 hl (by decide) rfl (fun ls hl => ?_)
          refine lv_iload_n hx hb dX1_unlikePairs_49 rfl (lv_at hl 3 rfl) ?_
          refine lv_iload_n hx hb dX1_unlikePairs_50 rfl (lv_at hl 4 rfl) ?_
          refine lv_aload_n hx hb dX1_unlikePairs_51 rfl (lv_at hl 1 rfl) ?_
          refine w_getr (ci := 2) (T := TX1) hx hb hts hin_TX1 hown hK hW (hX.1 4 (by decide)).1 (hX.1 4 (by decide)).2.1 (by decide) rfl 2 (by decide) (hts (.fieldLink RX1 18 "TownClocks$Explanations" "likeAir" "[I") (by decide +kernel)) (fun _ h9 => h9) rfl ((hX.1 4 (by decide)).2.2.2 2 7 rfl) dX1_unlikePairs_52 ?_
          refine lv_iload hx hb dX1_unlikePairs_55 (lv_at hl 0 rfl) ?_
          refine w_iald hx hb hK hW (hX.1 7 (by decide)).1 (hX.1 7 (by decide)).2.1 (by rw [(show ln 7 = 101 from (hX.1 7 (by decide)).2.2.1)]; have h := hair ee (by omega); rw [← x_airE_ag hag (show 100 + i ≠ 7 by omega)] at h; simp only [x_airE, if_neg c_17, if_pos c_31] at h; exact inx_v.mpr h) dX1_unlikePairs_57 ?_
          refine lv_isub hx hb dX1_unlikePairs_58 ?_
          refine lv_iadd hx hb dX1_unlikePairs_59 ?_
          refine lv_istore_n (lv' := [(2, .int (un + ((nI ee) - (Vw 7 ((x_air0 Vw (100 + i) (Vw 6 ee)).toNatClampNeg))))), (4, .int (x_air0 Vw (100 + i) (Vw 6 ee))), (0, .ref (ad 4)), (1, .ref (ad (100 + i))), (3, .int (nI ee))]) hx hb dX1_unlikePairs_60 rfl hl (by decide) rfl (fun ls hl => ?_)
          refine lv_aload_n hx hb dX1_unlikePairs_61 rfl (lv_at hl 2 rfl) ?_
          refine w_getr (ci := 2) (T := TX1) hx hb hts hin_TX1 hown hK hW (hX.1 4 (by decide)).1 (hX.1 4 (by decide)).2.1 (by decide) rfl 2 (by decide) (hts (.fieldLink RX1 18 "TownClocks$Explanations" "likeAir" "[I") (by decide +kernel)) (fun _ h9 => h9) rfl ((hX.1 4 (by decide)).2.2.2 2 7 rfl) dX1_unlikePairs_62 ?_
          refine lv_iload hx hb dX1_unlikePairs_65 (lv_at hl 1 rfl) ?_
          refine lv_dup2_11 hx hb dX1_unlikePairs_67 rfl rfl ?_
          refine w_iald hx hb hK hW (hX.1 7 (by decide)).1 (hX.1 7 (by decide)).2.1 (by rw [(show ln 7 = 101 from (hX.1 7 (by decide)).2.2.1)]; have h := hair ee (by omega); rw [← x_airE_ag hag (show 100 + i ≠ 7 by omega)] at h; simp only [x_airE, if_neg c_17, if_pos c_31] at h; exact inx_v.mpr h) dX1_unlikePairs_68 ?_
          refine lv_iconst (v := 1) hx hb dX1_unlikePairs_69 (by decide) ?_
          refine lv_iadd hx hb dX1_unlikePairs_70 ?_
          refine w_iast hx hb hK hW hS (hX.1 7 (by decide)).1 (hX.1 7 (by decide)).2.1 (by rw [(show ln 7 = 101 from (hX.1 7 (by decide)).2.2.1)]; have h := hair ee (by omega); rw [← x_airE_ag hag (show 100 + i ≠ 7 by omega)] at h; simp only [x_airE, if_neg c_17, if_pos c_31] at h; exact inx_v.mpr h) dX1_unlikePairs_71 (fun H locs hW hS => ?_)
          refine lv_iinc (v := nI (ee + 1)) (lv' := [(3, .int (nI (ee + 1))), (2, .int (un + ((nI ee) - (Vw 7 ((x_air0 Vw (100 + i) (Vw 6 ee)).toNatClampNeg))))), (4, .int (x_air0 Vw (100 + i) (Vw 6 ee))), (0, .ref (ad 4)), (1, .ref (ad (100 + i)))]) hx hb dX1_unlikePairs_72 hl (k := 4) rfl (by rw [show Int32.ofInt 1 = 1 from by decide]; exact nI_1 _) (by decide) rfl (fun ls hl => ?_)
          refine lv_goto (tgt := 12) hx hb dX1_unlikePairs_75 (by decide) ?_
          exact ih (ee + 1) _ _ (by omega) (fun k hk => by rw [u2_ne hk]; exact hag k hk) (by have h := hF; simp only [x_unl, x_airE, if_neg c_17, if_pos c_31] at h; exact h) _ _ _ hW hS (lv_sub hl [3, 4, 1, 0] rfl)
  refine lv_aload_n hx hb dX1_unlikePairs_0 rfl (lv_at hl 0 rfl) ?_
  refine w_getr (ci := 2) (T := TX1) hx hb hts hin_TX1 hown hK hW (hX.1 4 (by decide)).1 (hX.1 4 (by decide)).2.1 (by decide) rfl 2 (by decide) (hts (.fieldLink RX1 18 "TownClocks$Explanations" "likeAir" "[I") (by decide +kernel)) (fun _ h9 => h9) rfl ((hX.1 4 (by decide)).2.2.2 2 7 rfl) dX1_unlikePairs_1 ?_
  refine lv_iconst (v := 0) hx hb dX1_unlikePairs_4 (by decide) ?_
  refine w_cv (w_runS ⟨hx, hb, hml, hown, hts⟩ (c_J7_fill_53178 hxo l D q V J R 7 0 (hX.1 7 (by decide)).1 (hX.1 7 (by decide)).2.1 (by rw [(show ln 7 = 101 from (hX.1 7 (by decide)).2.2.1)]; decide)) hxo (va_cwS 2 hts gX1_unlikePairs_J7_fill_53178 rfl rfl rfl (by decide +kernel) ⟨Nat.le_of_ble_eq_true rfl, Nat.le_of_ble_eq_true rfl⟩) hK hW hS hA hXs rfl hl.1 rfl (Nat.le_of_ble_eq_true rfl) dX1_unlikePairs_5 ⟨Nat.zero_le _, Nat.zero_le _⟩) hW hS hA (fun H locs hW hS => ?_)
  rw [show ln 7 = 101 from (show ln 7 = 101 from (hX.1 7 (by decide)).2.2.1)] at hW
  refine lv_iconst (v := 0) hx hb dX1_unlikePairs_8 (by decide) ?_
  refine lv_istore_n (lv' := [(2, .int 0), (0, .ref (ad 4)), (1, .ref (ad (100 + i)))]) hx hb dX1_unlikePairs_9 rfl hl (by decide) rfl (fun ls hl => ?_)
  refine lv_iconst (v := 0) hx hb dX1_unlikePairs_10 (by decide) ?_
  refine lv_istore_n (lv' := [(3, .int 0), (2, .int 0), (0, .ref (ad 4)), (1, .ref (ad (100 + i)))]) hx hb dX1_unlikePairs_11 rfl hl (by decide) rfl (fun ls hl => ?_)
  exact JL f 0 (x_fillL 7 0 101 0 V) 0 (by omega) (fun k hk => x_fillL_ne hk _ _ _) hFe.symm _ _ _ hW hS (lv_sub hl [2, 3, 1, 0] rfl)
set_option maxHeartbeats 4000000 in
set_option maxRecDepth 100000 in
theorem c_X7_explains {X : (Nat → Prop) → State → Prop} (hxo : xok X) (l : Launch) (D : va_G) (q : Cq) {dm : List Nat} {kd ln ad : Nat → Nat} (V : Mv) (J : Mj) (R : Mr) (nP nD : Nat) (x v : Int32) (hX : okX dm kd ln R nP nD) (hp : V 1 2 = nI nP) (hq : V 2 2 = nI nD)  : CtI X l yX7_explains wsX7_explains ({ frames := 5, cells := 0, slots := 0, locals := 115 }) D q dm kd ln ad V J R [.ref (ad 0), .int x, .int v] (x_expl V R nP nD x v) (x_explV V R nP nD v) (J) (R) := by
  refine CtI_of (cc := cX7_explains) (maxL := 3) (ret := (some .int)) (by decide +kernel) rfl (Nat.le_of_ble_eq_true rfl) ?_
  intro p e s m below meth c A hx hb hr hml hts hown hlk hmn hK hW hA hXs ls hl
  have hS : va_S A s.heap s.heap [] := va_S.rf
  have hl : lv_has ls 3 [(0, .ref (ad 0)), (1, .int x), (2, .int v)] := hl
  have hin_TX7 : ∀ w ∈ u_ws RX7 TX7 8, w ∈ wsX7_explains := by decide +kernel
  have hin_TX1 : ∀ w ∈ u_ws RX1 TX1 4, w ∈ wsX7_explains := by decide +kernel
  obtain ⟨f, hf1, hf2⟩ := x_find_f R nD nP 0 (u2 V 4 3 0) 0 (by rw [u2_ss]; rfl) (by omega)
  have hf30 : f ≤ 30 := by have := hX.2.1; omega
  refine lv_iload_n hx hb dX7_explains_0 rfl (lv_at hl 2 rfl) ?_
  refine lv_iconst (v := 0) hx hb dX7_explains_1 (by decide) ?_
  refine lv_iconst (v := 1) hx hb dX7_explains_2 (by decide) ?_
  refine w_ci (w_runS ⟨hx, hb, hml, hown, hts⟩ (c_X7_within hxo l D q V J R v 0 1 ) hxo (va_cwS 3 hts gX7_explains_X7_within rfl rfl rfl (by decide +kernel) ⟨Nat.le_of_ble_eq_true rfl, Nat.le_of_ble_eq_true rfl⟩) hK hW hS hA hXs rfl hl.1 rfl (Nat.le_of_ble_eq_true rfl) dX7_explains_3 ⟨Nat.zero_le _, Nat.zero_le _⟩) hW hS hA (fun H locs hW hS => ?_)
  refine w_ifnz (tgt := 12) hx hb dX7_explains_6 (by decide) (fun c_6 => ?_) (fun c_6 => ?_)
  · refine lv_aload_n hx hb dX7_explains_12 rfl (lv_at hl 0 rfl) ?_
    refine w_getr (ci := 8) (T := TX7) hx hb hts hin_TX7 hown hK hW (hX.1 0 (by decide)).1 (hX.1 0 (by decide)).2.1 (by decide) rfl 3 (by decide) (hts (.fieldLink RX7 29 "TownClocks" "explanations" "LTownClocks$Explanations;") (by decide +kernel)) (fun _ h9 => h9) rfl ((hX.1 0 (by decide)).2.2.2 3 4 rfl) dX7_explains_13 ?_
    refine lv_aload_n hx hb dX7_explains_16 rfl (lv_at hl 0 rfl) ?_
    refine w_getr (ci := 8) (T := TX7) hx hb hts hin_TX7 hown hK hW (hX.1 0 (by decide)).1 (hX.1 0 (by decide)).2.1 (by decide) rfl 0 (by decide) (hts (.fieldLink RX7 10 "TownClocks" "pipes" "Ljava/util/ArrayList;") (by decide +kernel)) (fun _ h9 => h9) rfl ((hX.1 0 (by decide)).2.2.2 0 1 rfl) dX7_explains_17 ?_
    refine lv_aload_n hx hb dX7_explains_20 rfl (lv_at hl 0 rfl) ?_
    refine w_getr (ci := 8) (T := TX7) hx hb hts hin_TX7 hown hK hW (hX.1 0 (by decide)).1 (hX.1 0 (by decide)).2.1 (by decide) rfl 1 (by decide) (hts (.fieldLink RX7 16 "TownClocks" "dials" "Ljava/util/ArrayList;") (by decide +kernel)) (fun _ h9 => h9) rfl ((hX.1 0 (by decide)).2.2.2 1 2 rfl) dX7_explains_21 ?_
    refine w_cv (w_runV ⟨hx, hb, hml, hown, hts⟩ (c_X1_find hxo l D q V J R nP nD hX hp hq) hxo (cwV 2 hts gX7_explains_X1_find rfl rfl rfl (by decide +kernel) ⟨Nat.le_of_ble_eq_true rfl, Nat.le_of_ble_eq_true rfl⟩) hK hW hS hA hXs (w_rcv hK hW (hX.1 4 (by decide)).1 (hX.1 4 (by decide)).2.1 (by decide) rfl) rfl hl.1 rfl (Nat.le_of_ble_eq_true rfl) dX7_explains_24 ⟨Nat.zero_le _, Nat.zero_le _⟩) hW hS hA (fun H locs hW hS => ?_)
    refine lv_iload_n hx hb dX7_explains_27 rfl (lv_at hl 1 rfl) ?_
    refine lv_iconst (v := 0) hx hb dX7_explains_28 (by decide) ?_
    refine lv_aload_n hx hb dX7_explains_29 rfl (lv_at hl 0 rfl) ?_
    refine w_getr (ci := 8) (T := TX7) hx hb hts hin_TX7 hown hK hW (hX.1 0 (by decide)).1 (hX.1 0 (by decide)).2.1 (by decide) rfl 3 (by decide) (hts (.fieldLink RX7 29 "TownClocks" "explanations" "LTownClocks$Explanations;") (by decide +kernel)) (fun _ h9 => h9) rfl ((hX.1 0 (by decide)).2.2.2 3 4 rfl) dX7_explains_30 ?_
    refine w_get (ci := 2) (T := TX1) hx hb hts hin_TX1 hown hK hW (hX.1 4 (by decide)).1 (hX.1 4 (by decide)).2.1 (by decide) rfl 3 (by decide) (hts (.fieldLink RX7 189 "TownClocks$Explanations" "found" "I") (by decide +kernel)) (fun _ h9 => h9) rfl dX7_explains_33 ?_
    refine lv_iconst (v := 1) hx hb dX7_explains_36 (by decide) ?_
    refine lv_isub hx hb dX7_explains_37 ?_
    refine w_ci (w_runS ⟨hx, hb, hml, hown, hts⟩ (c_X7_within hxo l D q (x_find R nD nP 0 (u2 V 4 3 0)) J R x 0 (((x_find R nD nP 0 (u2 V 4 3 0)) 4 3) - 1) ) hxo (va_cwS 3 hts gX7_explains_X7_within rfl rfl rfl (by decide +kernel) ⟨Nat.le_of_ble_eq_true rfl, Nat.le_of_ble_eq_true rfl⟩) hK hW hS hA hXs rfl hl.1 rfl (Nat.le_of_ble_eq_true rfl) dX7_explains_38 ⟨Nat.zero_le _, Nat.zero_le _⟩) hW hS hA (fun H locs hW hS => ?_)
    refine w_ifnz (tgt := 47) hx hb dX7_explains_41 (by decide) (fun c_41 => ?_) (fun c_41 => ?_)
    · refine lv_iload_n hx hb dX7_explains_47 rfl (lv_at hl 2 rfl) ?_
      refine lv_if_ne (tgt := 63) hx hb dX7_explains_48 (by decide) (fun c_48 => ?_) (fun c_48 => ?_)
      · refine lv_aload_n hx hb dX7_explains_63 rfl (lv_at hl 0 rfl) ?_
        refine w_getr (ci := 8) (T := TX7) hx hb hts hin_TX7 hown hK hW (hX.1 0 (by decide)).1 (hX.1 0 (by decide)).2.1 (by decide) rfl 3 (by decide) (hts (.fieldLink RX7 29 "TownClocks" "explanations" "LTownClocks$Explanations;") (by decide +kernel)) (fun _ h9 => h9) rfl ((hX.1 0 (by decide)).2.2.2 3 4 rfl) dX7_explains_64 ?_
        refine w_getr (ci := 2) (T := TX1) hx hb hts hin_TX1 hown hK hW (hX.1 4 (by decide)).1 (hX.1 4 (by decide)).2.1 (by decide) rfl 1 (by decide) (hts (.fieldLink RX7 195 "TownClocks$Explanations" "leastLeak" "[I") (by decide +kernel)) (fun _ h9 => h9) rfl ((hX.1 4 (by decide)).2.2.2 1 6 rfl) dX7_explains_67 ?_
        refine lv_iload_n hx hb dX7_explains_70 rfl (lv_at hl 1 rfl) ?_
        refine w_iald hx hb hK hW (hX.1 6 (by decide)).1 (hX.1 6 (by decide)).2.1 (by rw [(show ln 6 = 30 from (hX.1 6 (by decide)).2.2.1)]; have h := (inx_w (n := f) (x := x) (by omega)).mp (by rw [← hf2]; exact c_41); exact inx_v.mpr ⟨h.1, by have := h.2; show _ < ((30 : Nat) : Int); omega⟩) dX7_explains_71 ?_
        exact w_iret hx hb hr hlk hW hS (by first | rfl | (simp only [x_expl, x_explV, if_pos c_6, if_pos c_41, if_neg c_48, c_6, c_41, c_48, ↓reduceIte]; done) | simp [bz, x_expl, x_explV, if_pos c_6, if_pos c_41, if_neg c_48, c_6, c_41, c_48]) (by first | rfl | (simp only [x_expl, x_explV, if_pos c_6, if_pos c_41, if_neg c_48, c_6, c_41, c_48, ↓reduceIte]; done) | simp [bz, x_expl, x_explV, if_pos c_6, if_pos c_41, if_neg c_48, c_6, c_41, c_48]) rfl rfl dX7_explains_72
      · refine lv_aload_n hx hb dX7_explains_51 rfl (lv_at hl 0 rfl) ?_
        refine w_getr (ci := 8) (T := TX7) hx hb hts hin_TX7 hown hK hW (hX.1 0 (by decide)).1 (hX.1 0 (by decide)).2.1 (by decide) rfl 3 (by decide) (hts (.fieldLink RX7 29 "TownClocks" "explanations" "LTownClocks$Explanations;") (by decide +kernel)) (fun _ h9 => h9) rfl ((hX.1 0 (by decide)).2.2.2 3 4 rfl) dX7_explains_52 ?_
        refine w_getr (ci := 2) (T := TX1) hx hb hts hin_TX1 hown hK hW (hX.1 4 (by decide)).1 (hX.1 4 (by decide)).2.1 (by decide) rfl 0 (by decide) (hts (.fieldLink RX7 192 "TownClocks$Explanations" "pipe" "[I") (by decide +kernel)) (fun _ h9 => h9) rfl ((hX.1 4 (by decide)).2.2.2 0 5 rfl) dX7_explains_55 ?_
        refine lv_iload_n hx hb dX7_explains_58 rfl (lv_at hl 1 rfl) ?_
        refine w_iald hx hb hK hW (hX.1 5 (by decide)).1 (hX.1 5 (by decide)).2.1 (by rw [(show ln 5 = 30 from (hX.1 5 (by decide)).2.2.1)]; have h := (inx_w (n := f) (x := x) (by omega)).mp (by rw [← hf2]; exact c_41); exact inx_v.mpr ⟨h.1, by have := h.2; show _ < ((30 : Nat) : Int); omega⟩) dX7_explains_59 ?_
        refine lv_goto (tgt := 72) hx hb dX7_explains_60 (by decide) ?_
        exact w_iret hx hb hr hlk hW hS (by first | rfl | (simp only [x_expl, x_explV, if_pos c_6, if_pos c_41, if_pos c_48, c_6, c_41, c_48, ↓reduceIte]; done) | simp [bz, x_expl, x_explV, if_pos c_6, if_pos c_41, if_pos c_48, c_6, c_41, c_48]) (by first | rfl | (simp only [x_expl, x_explV, if_pos c_6, if_pos c_41, if_pos c_48, c_6, c_41, c_48, ↓reduceIte]; done) | simp [bz, x_expl, x_explV, if_pos c_6, if_pos c_41, if_pos c_48, c_6, c_41, c_48]) rfl rfl dX7_explains_72
    · refine lv_ldc (v := -1000000) hx hb hown (hts (.constant RX7 56 (-1000000)) (by decide +kernel)) dX7_explains_44 ?_
      exact w_iret hx hb hr hlk hW hS (by first | rfl | (simp only [x_expl, x_explV, if_pos c_6, if_neg c_41, c_6, c_41, ↓reduceIte]; done) | simp [bz, x_expl, x_explV, if_pos c_6, if_neg c_41, c_6, c_41]) (by first | rfl | (simp only [x_expl, x_explV, if_pos c_6, if_neg c_41, c_6, c_41, ↓reduceIte]; done) | simp [bz, x_expl, x_explV, if_pos c_6, if_neg c_41, c_6, c_41]) rfl rfl dX7_explains_46
  · refine lv_ldc (v := -1000001) hx hb hown (hts (.constant RX7 57 (-1000001)) (by decide +kernel)) dX7_explains_9 ?_
    exact w_iret hx hb hr hlk hW hS (by first | rfl | (simp only [x_expl, x_explV, if_neg c_6, c_6, ↓reduceIte]; done) | simp [bz, x_expl, x_explV, if_neg c_6, c_6]) (by first | rfl | (simp only [x_expl, x_explV, if_neg c_6, c_6, ↓reduceIte]; done) | simp [bz, x_expl, x_explV, if_neg c_6, c_6]) rfl rfl dX7_explains_11
set_option maxHeartbeats 4000000 in
set_option maxRecDepth 100000 in
theorem c_X7_next {X : (Nat → Prop) → State → Prop} (hxo : xok X) (l : Launch) (D : va_G) (q : Cq) {dm : List Nat} {kd ln ad : Nat → Nat} (V : Mv) (J : Mj) (R : Mr) (nP nD : Nat)  (hX : okX dm kd ln R nP nD) (hp : V 1 2 = nI nP) (hq : V 2 2 = nI nD) (hair : ∀ f, x_find R nD nP 0 (u2 V 4 3 0) 4 3 = nI f → f ≤ 30 → ∀ i, i < nP → ∀ e, e < f → inx 101 (x_airE (x_find R nD nP 0 (u2 V 4 3 0)) (100 + i) e)) : CtI X l yX7_next wsX7_next ({ frames := 5, cells := 0, slots := 0, locals := 115 }) D q dm kd ln ad V J R [.ref (ad 0)] (x_next V R nP nD) (x_nextV V R nP nD) (J) (R) := by
  refine CtI_of (cc := cX7_next) (maxL := 5) (ret := (some .int)) (by decide +kernel) rfl (Nat.le_of_ble_eq_true rfl) ?_
  intro p e s m below meth c A hx hb hr hml hts hown hlk hmn hK hW hA hXs ls hl
  have hS : va_S A s.heap s.heap [] := va_S.rf
  have hl : lv_has ls 5 [(0, .ref (ad 0))] := hl
  have hin_TX7 : ∀ w ∈ u_ws RX7 TX7 8, w ∈ wsX7_next := by decide +kernel
  have hin_TX0 : ∀ w ∈ u_ws RX0 TX0 12, w ∈ wsX7_next := by decide +kernel
  have hin_TX1 : ∀ w ∈ u_ws RX1 TX1 4, w ∈ wsX7_next := by decide +kernel
  obtain ⟨f, hf1, hf2⟩ := x_find_f R nD nP 0 (u2 V 4 3 0) 0 (by rw [u2_ss]; rfl) (by omega)
  have hf30 : f ≤ 30 := by have := hX.2.1; omega
  have hair1 := hair f hf2 hf30
  obtain ⟨V1, hV1⟩ : ∃ r, r = x_find R nD nP 0 (u2 V 4 3 0) := ⟨_, rfl⟩
  rw [← hV1] at hf2 hair1
  obtain ⟨F, hFe⟩ : ∃ r, r = x_nextL R f nD 0 V1 (-1000000) (-1) := ⟨_, rfl⟩
  have hq1 : V1 2 2 = nI nD := by rw [hV1, x_find_ne (by decide) (by decide) (by decide), u2_ne (by decide)]; exact hq
  have hfe : f = (V1 4 3).toNatClampNeg := by rw [hf2, nI_clamp (by omega)]
  have JL : ∀ n : Nat, ∀ (i : Nat) (Vw : Mv) (bb mo : Int32) (hn : i + n = nD) (hag : ∀ k, k ≠ 7 → Vw k = V1 k) (hF : x_nextL R f n i Vw bb mo = F) (hc23 : 2 ≤ V1 4 3) (H : Heap) (locs : List Loc) (ls : Array Slot), wok A D q dm kd ln ad Vw J R H → va_S A s.heap H locs → lv_has ls 5 [(0, .ref (ad 0)), (1, .int bb), (2, .int mo), (3, .int (nI i))] → W p l e ({ frames := 5, cells := 0, slots := 0, locals := 115 }) s m ([.ref (ad 0)] : List Value).toArray below meth c H locs 0 0 (MQ below (QI (x_next V R nP nD) D q dm kd ln ad (x_nextV V R nP nD) (J) (R) A) ([.ref (ad 0)] : List Value).toArray s 0 0 A) (F0 m 36 ls []) := by
    intro n
    induction n with
    | zero =>
      intro i Vw bb mo hn hag hF hc23 H locs ls hW hS hl
      have hqW : Vw 2 2 = nI nD := by rw [hag 2 (by decide)]; exact hq1
      refine lv_iload_n hx hb dX7_next_36 rfl (lv_at hl 3 rfl) ?_
      refine lv_aload_n hx hb dX7_next_37 rfl (lv_at hl 0 rfl) ?_
      refine w_getr (ci := 8) (T := TX7) hx hb hts hin_TX7 hown hK hW (hX.1 0 (by decide)).1 (hX.1 0 (by decide)).2.1 (by decide) rfl 1 (by decide) (hts (.fieldLink RX7 16 "TownClocks" "dials" "Ljava/util/ArrayList;") (by decide +kernel)) (fun _ h9 => h9) rfl ((hX.1 0 (by decide)).2.2.2 1 2 rfl) dX7_next_38 ?_
      refine w_ci (w_runV ⟨hx, hb, hml, hown, hts⟩ (c_Jx4a65c_size_8abf5 hxo l D q Vw J R 2 (hX.1 2 (by decide)).1 (hX.1 2 (by decide)).2.1) hxo (cwV 0 hts gX7_next_Jx4a65c_size_8abf5 rfl rfl rfl (by decide +kernel) ⟨Nat.le_of_ble_eq_true rfl, Nat.le_of_ble_eq_true rfl⟩) hK hW hS hA hXs (w_rcv hK hW (hX.1 2 (by decide)).1 (hX.1 2 (by decide)).2.1 (by decide) rfl) rfl hl.1 rfl (Nat.le_of_ble_eq_true rfl) dX7_next_41 ⟨Nat.zero_le _, Nat.zero_le _⟩) hW hS hA (fun H locs hW hS => ?_)
      refine lv_icmp_ge (tgt := 87) hx hb dX7_next_44 (by decide) (fun c_44 => ?_) (fun c_44 => ?_)
      · refine lv_iload_n hx hb dX7_next_87 rfl (lv_at hl 1 rfl) ?_
        exact w_iret hx hb hr hlk hW hS (by rw [x_next, ← hV1, if_pos hc23, ← hfe, ← hFe, ← hF]; rfl) (by rw [x_nextV, ← hV1, if_pos hc23, ← hfe, ← hFe, ← hF]; rfl) rfl rfl dX7_next_88
      · exact absurd (by rw [hqW]; exact nI_le (by omega) (by have := hX.2.1; omega)) c_44
    | succ n ih =>
      intro i Vw bb mo hn hag hF hc23 H locs ls hW hS hl
      have hid : i < nD := by omega
      have hqW : Vw 2 2 = nI nD := by rw [hag 2 (by decide)]; exact hq1
      refine lv_iload_n hx hb dX7_next_36 rfl (lv_at hl 3 rfl) ?_
      refine lv_aload_n hx hb dX7_next_37 rfl (lv_at hl 0 rfl) ?_
      refine w_getr (ci := 8) (T := TX7) hx hb hts hin_TX7 hown hK hW (hX.1 0 (by decide)).1 (hX.1 0 (by decide)).2.1 (by decide) rfl 1 (by decide) (hts (.fieldLink RX7 16 "TownClocks" "dials" "Ljava/util/ArrayList;") (by decide +kernel)) (fun _ h9 => h9) rfl ((hX.1 0 (by decide)).2.2.2 1 2 rfl) dX7_next_38 ?_
      refine w_ci (w_runV ⟨hx, hb, hml, hown, hts⟩ (c_Jx4a65c_size_8abf5 hxo l D q Vw J R 2 (hX.1 2 (by decide)).1 (hX.1 2 (by decide)).2.1) hxo (cwV 0 hts gX7_next_Jx4a65c_size_8abf5 rfl rfl rfl (by decide +kernel) ⟨Nat.le_of_ble_eq_true rfl, Nat.le_of_ble_eq_true rfl⟩) hK hW hS hA hXs (w_rcv hK hW (hX.1 2 (by decide)).1 (hX.1 2 (by decide)).2.1 (by decide) rfl) rfl hl.1 rfl (Nat.le_of_ble_eq_true rfl) dX7_next_41 ⟨Nat.zero_le _, Nat.zero_le _⟩) hW hS hA (fun H locs hW hS => ?_)
      refine lv_icmp_ge (tgt := 87) hx hb dX7_next_44 (by decide) (fun c_44 => ?_) (fun c_44 => ?_)
      · exact absurd c_44 (by rw [hqW]; exact nI_ge (by omega) (by have := hX.2.1; omega))
      · refine lv_aload_n hx hb dX7_next_47 rfl (lv_at hl 0 rfl) ?_
        refine w_getr (ci := 8) (T := TX7) hx hb hts hin_TX7 hown hK hW (hX.1 0 (by decide)).1 (hX.1 0 (by decide)).2.1 (by decide) rfl 3 (by decide) (hts (.fieldLink RX7 29 "TownClocks" "explanations" "LTownClocks$Explanations;") (by decide +kernel)) (fun _ h9 => h9) rfl ((hX.1 0 (by decide)).2.2.2 3 4 rfl) dX7_next_48 ?_
        refine lv_aload_n hx hb dX7_next_51 rfl (lv_at hl 0 rfl) ?_
        refine w_getr (ci := 8) (T := TX7) hx hb hts hin_TX7 hown hK hW (hX.1 0 (by decide)).1 (hX.1 0 (by decide)).2.1 (by decide) rfl 1 (by decide) (hts (.fieldLink RX7 16 "TownClocks" "dials" "Ljava/util/ArrayList;") (by decide +kernel)) (fun _ h9 => h9) rfl ((hX.1 0 (by decide)).2.2.2 1 2 rfl) dX7_next_52 ?_
        refine lv_iload_n hx hb dX7_next_55 rfl (lv_at hl 3 rfl) ?_
        refine w_cq (w_runV ⟨hx, hb, hml, hown, hts⟩ (c_Jx4a65c_get_915e3 hxo l D q Vw J R 2 17 i nD (hX.1 2 (by decide)).1 (hX.1 2 (by decide)).2.1 (hX.2.2.2.2.2 (by omega)).2.2.2.2 (hX.2.2.2.2.2 (by omega)).1 (hX.2.2.2.2.2 (by omega)).2.1 ⟨Nat.lt_of_lt_of_le hid (hX.2.2.2.2.2 (by omega)).2.2.1, by have := hX.2.1; omega⟩ hqW hid (by have := hX.2.1; omega)) hxo (cwV 1 hts gX7_next_Jx4a65c_get_915e3 rfl rfl rfl (by decide +kernel) ⟨Nat.le_of_ble_eq_true rfl, Nat.le_of_ble_eq_true rfl⟩) hK hW hS hA hXs (w_rcv hK hW (hX.1 2 (by decide)).1 (hX.1 2 (by decide)).2.1 (by decide) rfl) rfl hl.1 rfl (Nat.le_of_ble_eq_true rfl) dX7_next_56 ⟨Nat.zero_le _, Nat.zero_le _⟩) hW hS hA (fun H locs hW hS => ?_)
        refine w_some (hX.2.2.2.1 i hid).2.2.1 ?_
        refine w_cast hx hb hown (hts (.classLink RX7 86 "TownClocks$Dial") (by decide +kernel)) hK hW (hX.2.2.2.1 i hid).1 (hX.2.2.2.1 i hid).2.1 (by decide) rfl dX7_next_59 ?_
        obtain ⟨pi, hpi, hRi⟩ := (hX.2.2.2.1 i hid).2.2.2
        have hpl : x_pl R (200 + i) = 100 + pi := by rw [x_pl, hRi]; rfl
        refine w_getr (ci := 1) (T := TX0) hx hb hts hin_TX0 hown hK hW (hX.2.2.2.1 i hid).1 (hX.2.2.2.1 i hid).2.1 (by decide) rfl 0 (by decide) (hts (.fieldLink RX7 152 "TownClocks$Dial" "pipe" "LTownClocks$Pipe;") (by decide +kernel)) (fun _ h9 => h9) rfl hRi dX7_next_62 ?_
        refine w_ci (w_runV ⟨hx, hb, hml, hown, hts⟩ (c_X1_unlikePairs hxo l D q Vw J R nP nD pi f hX hpi (by rw [hag 4 (by decide)]; exact hf2) hf30 (fun e he => by rw [x_airE_ag hag (by omega)]; exact hair1 pi hpi e he)) hxo (cwV 1 hts gX7_next_X1_unlikePairs rfl rfl rfl (by decide +kernel) ⟨Nat.le_of_ble_eq_true rfl, Nat.le_of_ble_eq_true rfl⟩) hK hW hS hA hXs (w_rcv hK hW (hX.1 4 (by decide)).1 (hX.1 4 (by decide)).2.1 (by decide) rfl) rfl hl.1 rfl (Nat.le_of_ble_eq_true rfl) dX7_next_65 ⟨Nat.zero_le _, Nat.zero_le _⟩) hW hS hA (fun H locs hW hS => ?_)
        refine lv_istore (lv' := [(4, .int ((x_un Vw (100 + pi) f).2)), (0, .ref (ad 0)), (1, .int bb), (2, .int mo), (3, .int (nI i))]) hx hb dX7_next_68 hl (by decide) rfl (fun ls hl => ?_)
        refine lv_iload hx hb dX7_next_70 (lv_at hl 0 rfl) ?_
        refine lv_iload_n hx hb dX7_next_72 rfl (lv_at hl 3 rfl) ?_
        refine lv_icmp_le (tgt := 81) hx hb dX7_next_73 (by decide) (fun c_73 => ?_) (fun c_73 => ?_)
        · refine lv_iinc (v := nI (i + 1)) (lv' := [(3, .int (nI (i + 1))), (4, .int ((x_un Vw (100 + pi) f).2)), (0, .ref (ad 0)), (1, .int bb), (2, .int mo)]) hx hb dX7_next_81 hl (k := 4) rfl (by rw [show Int32.ofInt 1 = 1 from by decide]; exact nI_1 _) (by decide) rfl (fun ls hl => ?_)
          refine lv_goto (tgt := 36) hx hb dX7_next_84 (by decide) ?_
          exact ih (i + 1) _ _ _ (by omega) (fun k hk => by rw [x_un_ne hk]; exact hag k hk) (by have h := hF; simp only [x_nextL, hpl, if_neg c_44, if_pos c_73] at h; exact h) hc23 _ _ _ hW hS (lv_sub hl [2, 3, 4, 0] rfl)
        · refine lv_iload hx hb dX7_next_76 (lv_at hl 0 rfl) ?_
          refine lv_istore_n (lv' := [(2, .int ((x_un Vw (100 + pi) f).2)), (4, .int ((x_un Vw (100 + pi) f).2)), (0, .ref (ad 0)), (1, .int bb), (3, .int (nI i))]) hx hb dX7_next_78 rfl hl (by decide) rfl (fun ls hl => ?_)
          refine lv_iload_n hx hb dX7_next_79 rfl (lv_at hl 4 rfl) ?_
          refine lv_istore_n (lv' := [(1, .int (nI i)), (2, .int ((x_un Vw (100 + pi) f).2)), (4, .int ((x_un Vw (100 + pi) f).2)), (0, .ref (ad 0)), (3, .int (nI i))]) hx hb dX7_next_80 rfl hl (by decide) rfl (fun ls hl => ?_)
          refine lv_iinc (v := nI (i + 1)) (lv' := [(3, .int (nI (i + 1))), (1, .int (nI i)), (2, .int ((x_un Vw (100 + pi) f).2)), (4, .int ((x_un Vw (100 + pi) f).2)), (0, .ref (ad 0))]) hx hb dX7_next_81 hl (k := 4) rfl (by rw [show Int32.ofInt 1 = 1 from by decide]; exact nI_1 _) (by decide) rfl (fun ls hl => ?_)
          refine lv_goto (tgt := 36) hx hb dX7_next_84 (by decide) ?_
          exact ih (i + 1) _ _ _ (by omega) (fun k hk => by rw [x_un_ne hk]; exact hag k hk) (by have h := hF; simp only [x_nextL, hpl, if_neg c_44, if_neg c_73] at h; exact h) hc23 _ _ _ hW hS (lv_sub hl [4, 1, 2, 0] rfl)
  refine lv_aload_n hx hb dX7_next_0 rfl (lv_at hl 0 rfl) ?_
  refine w_getr (ci := 8) (T := TX7) hx hb hts hin_TX7 hown hK hW (hX.1 0 (by decide)).1 (hX.1 0 (by decide)).2.1 (by decide) rfl 3 (by decide) (hts (.fieldLink RX7 29 "TownClocks" "explanations" "LTownClocks$Explanations;") (by decide +kernel)) (fun _ h9 => h9) rfl ((hX.1 0 (by decide)).2.2.2 3 4 rfl) dX7_next_1 ?_
  refine lv_aload_n hx hb dX7_next_4 rfl (lv_at hl 0 rfl) ?_
  refine w_getr (ci := 8) (T := TX7) hx hb hts hin_TX7 hown hK hW (hX.1 0 (by decide)).1 (hX.1 0 (by decide)).2.1 (by decide) rfl 0 (by decide) (hts (.fieldLink RX7 10 "TownClocks" "pipes" "Ljava/util/ArrayList;") (by decide +kernel)) (fun _ h9 => h9) rfl ((hX.1 0 (by decide)).2.2.2 0 1 rfl) dX7_next_5 ?_
  refine lv_aload_n hx hb dX7_next_8 rfl (lv_at hl 0 rfl) ?_
  refine w_getr (ci := 8) (T := TX7) hx hb hts hin_TX7 hown hK hW (hX.1 0 (by decide)).1 (hX.1 0 (by decide)).2.1 (by decide) rfl 1 (by decide) (hts (.fieldLink RX7 16 "TownClocks" "dials" "Ljava/util/ArrayList;") (by decide +kernel)) (fun _ h9 => h9) rfl ((hX.1 0 (by decide)).2.2.2 1 2 rfl) dX7_next_9 ?_
  refine w_cv (w_runV ⟨hx, hb, hml, hown, hts⟩ (c_X1_find hxo l D q V J R nP nD hX hp hq) hxo (cwV 2 hts gX7_next_X1_find rfl rfl rfl (by decide +kernel) ⟨Nat.le_of_ble_eq_true rfl, Nat.le_of_ble_eq_true rfl⟩) hK hW hS hA hXs (w_rcv hK hW (hX.1 4 (by decide)).1 (hX.1 4 (by decide)).2.1 (by decide) rfl) rfl hl.1 rfl (Nat.le_of_ble_eq_true rfl) dX7_next_12 ⟨Nat.zero_le _, Nat.zero_le _⟩) hW hS hA (fun H locs hW hS => ?_)
  rw [← hV1] at hW
  refine lv_aload_n hx hb dX7_next_15 rfl (lv_at hl 0 rfl) ?_
  refine w_getr (ci := 8) (T := TX7) hx hb hts hin_TX7 hown hK hW (hX.1 0 (by decide)).1 (hX.1 0 (by decide)).2.1 (by decide) rfl 3 (by decide) (hts (.fieldLink RX7 29 "TownClocks" "explanations" "LTownClocks$Explanations;") (by decide +kernel)) (fun _ h9 => h9) rfl ((hX.1 0 (by decide)).2.2.2 3 4 rfl) dX7_next_16 ?_
  refine w_get (ci := 2) (T := TX1) hx hb hts hin_TX1 hown hK hW (hX.1 4 (by decide)).1 (hX.1 4 (by decide)).2.1 (by decide) rfl 3 (by decide) (hts (.fieldLink RX7 189 "TownClocks$Explanations" "found" "I") (by decide +kernel)) (fun _ h9 => h9) rfl dX7_next_19 ?_
  refine lv_iconst (v := 2) hx hb dX7_next_22 (by decide) ?_
  refine lv_icmp_ge (tgt := 29) hx hb dX7_next_23 (by decide) (fun c_23 => ?_) (fun c_23 => ?_)
  · refine lv_ldc (v := -1000000) hx hb hown (hts (.constant RX7 56 (-1000000)) (by decide +kernel)) dX7_next_29 ?_
    refine lv_istore_n (lv' := [(1, .int (-1000000)), (0, .ref (ad 0))]) hx hb dX7_next_31 rfl hl (by decide) rfl (fun ls hl => ?_)
    refine lv_iconst (v := (-1)) hx hb dX7_next_32 (by decide) ?_
    refine lv_istore_n (lv' := [(2, .int (-1)), (1, .int (-1000000)), (0, .ref (ad 0))]) hx hb dX7_next_33 rfl hl (by decide) rfl (fun ls hl => ?_)
    refine lv_iconst (v := 0) hx hb dX7_next_34 (by decide) ?_
    refine lv_istore_n (lv' := [(3, .int 0), (2, .int (-1)), (1, .int (-1000000)), (0, .ref (ad 0))]) hx hb dX7_next_35 rfl hl (by decide) rfl (fun ls hl => ?_)
    exact JL nD 0 V1 (-1000000) (-1) (by omega) (fun _ _ => rfl) hFe.symm c_23 _ _ _ hW hS (lv_sub hl [3, 2, 1, 0] rfl)
  · refine lv_ldc (v := -1000000) hx hb hown (hts (.constant RX7 56 (-1000000)) (by decide +kernel)) dX7_next_26 ?_
    exact w_iret hx hb hr hlk hW hS (by rw [x_next, ← hV1, if_neg c_23]) (by rw [x_nextV, ← hV1, if_neg c_23]) rfl rfl dX7_next_28
