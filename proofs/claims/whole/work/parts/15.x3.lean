def x_puffL (R : Mr) : Nat → Nat → Mv → Int32 → Mv × Int32
  | 0, _, V, a => (V, a)
  | n + 1, i, V, a => x_puffL R n (i + 1) (x_puff V R i (x_pl R (200 + i) - 100)) (if ¬ x_air V R (x_pl R (200 + i) - 100) < V (200 + i) 1 then a else a + 1)
def x_puffR (V : Mv) (R : Mr) (nD : Nat) : Int32 := if V 3 0 < 100000 then (x_puffL R nD 0 (u2 V 3 0 (V 3 0 + 1)) 0).2 else -1000002
def x_puffRV (V : Mv) (R : Mr) (nD : Nat) : Mv := if V 3 0 < 100000 then u2 (x_puffL R nD 0 (u2 V 3 0 (V 3 0 + 1)) 0).1 0 7 (x_puffL R nD 0 (u2 V 3 0 (V 3 0 + 1)) 0).2 else V
def x_puffRJ (V : Mv) (J : Mj) : Mj := if V 3 0 < 100000 then u2 (u2 J 3 4 (J 3 4 + 1)) 3 2 (J 3 2 + (V 3 1).toInt64) else J
theorem x_puff_ne {V : Mv} {R : Mr} {j i k : Nat} (h : k ≠ 200 + j) : x_puff V R j i k = V k := by
  unfold x_puff x_puff2 x_puff0 x_puff1
  split <;> split <;> simp only [u2_ne h]
theorem x_right_ne {V : Mv} {j k : Nat} (h : k ≠ j) : x_right V j k = V k := by
  unfold x_right x_known
  simp only [u2_ne h]
def x_mw (V : Mv) : Nat → Nat → Option Nat → Int32 → Option Nat
  | 0, _, w, _ => w
  | n + 1, i, w, b => if x_abs (V (200 + i) 3) ≤ b then x_mw V n (i + 1) w b else x_mw V n (i + 1) (some (200 + i)) (x_abs (V (200 + i) 3))
theorem x_mw_in {V : Mv} {k : Nat} : ∀ (n i : Nat) (w : Option Nat) (b : Int32), x_mw V n i w b = some k → w = some k ∨ ∃ j, i ≤ j ∧ j < i + n ∧ k = 200 + j
  | 0, _, w, _, h => Or.inl h
  | n + 1, i, w, b, h => by
    rw [x_mw] at h
    split at h
    · rcases x_mw_in n (i + 1) w b h with q | ⟨j, h1, h2, h3⟩
      · exact Or.inl q
      · exact Or.inr ⟨j, by omega, by omega, h3⟩
    · rcases x_mw_in n (i + 1) _ _ h with q | ⟨j, h1, h2, h3⟩
      · exact Or.inr ⟨i, by omega, by omega, (Option.some.inj q).symm⟩
      · exact Or.inr ⟨j, by omega, by omega, h3⟩
theorem x_mw_dial {V : Mv} {nD k : Nat} {b : Int32} (h : x_mw V nD 0 none b = some k) : ∃ j, j < nD ∧ k = 200 + j := by
  rcases x_mw_in nD 0 none b h with q | ⟨j, h1, h2, h3⟩
  · cases q
  · exact ⟨j, by omega, h3⟩
def x_roundL (nD : Nat) : Nat → Mv → Int32 → Mv × Int32
  | 0, V, a => (V, a)
  | n + 1, V, a => match x_mw V nD 0 none 0 with
    | none => (V, a)
    | some k => x_roundL nD n (x_right V k) (a + 1)
def x_round (V : Mv) (nD : Nat) (x : Int32) : Int32 := if 1 ≤ x ∧ x ≤ 10 then (x_roundL nD x.toNatClampNeg V 0).2 else -1000001
def x_roundV (V : Mv) (nD : Nat) (x : Int32) : Mv := if 1 ≤ x ∧ x ≤ 10 then (x_roundL nD x.toNatClampNeg V 0).1 else V
theorem r_k {x : Int32} (h : 1 ≤ x ∧ x ≤ 10) : x = nI x.toNatClampNeg ∧ x.toNatClampNeg ≤ 10 := by
  have h1 := Int32.le_iff_toInt_le.mp h.1
  have h2 := Int32.le_iff_toInt_le.mp h.2
  have e1 : (1 : Int32).toInt = 1 := by decide
  have e2 : (10 : Int32).toInt = 10 := by decide
  have h3 : inx 11 x := ⟨by omega, by show x.toInt < ((11 : Nat) : Int); omega⟩
  exact ⟨inx_e h3, by have := (inx_c h3).1; omega⟩
def x_markV (V : Mv) (nD : Nat) (x v : Int32) : Mv := if inx nD x then (if 0 ≤ v ∧ v ≤ 1 then u2 V (200 + x.toNatClampNeg) 7 (if v = 1 then 1 else 0) else V) else V
theorem x_markV_ne {V : Mv} {nD k : Nat} {x v : Int32} (h : k < 200) : x_markV V nD x v k = V k := by
  unfold x_markV
  split
  · split
    · rw [u2_ne (by omega)]
    · rfl
  · rfl
def x_mark (V : Mv) (nD : Nat) (x v : Int32) : Int32 := if inx nD x then (if 0 ≤ v ∧ v ≤ 1 then lpI (fun i a => if x_markV V nD x v (200 + i) 7 = 0 then a else a + 1) nD 0 0 else -1000001) else -1000001
def x_count (V : Mv) (nD : Nat) (x : Int32) : Int32 := if x = 0 then V 1 2 else if x = 1 then V 2 2 else if x = 2 then lpI (fun i a => if x_isk (x_kind V (200 + i)) 1 then a + 1 else a) nD 0 0 else if x = 3 then lpI (fun i a => if x_isk (x_kind V (200 + i)) 3 then a + 1 else a) nD 0 0 else if x = 4 then V 0 7 else if x = 5 then lpI (fun i a => if V (200 + i) 8 = 0 then a else a + 1) nD 0 0 else if x = 6 then lpI (fun i a => a + x_abs (V (200 + i) 3)) nD 0 0 else if x = 7 then V 8 1 else -1000001
set_option maxHeartbeats 4000000 in
set_option maxRecDepth 100000 in
theorem c_X7_puff {X : (Nat → Prop) → State → Prop} (hxo : xok X) (l : Launch) (D : va_G) (q : Cq) {dm : List Nat} {kd ln ad : Nat → Nat} (V : Mv) (J : Mj) (R : Mr) (nP nD : Nat)  (hX : okX dm kd ln R nP nD) (hp : V 1 2 = nI nP) (hq : V 2 2 = nI nD)  : CtI X l yX7_puff wsX7_puff ({ frames := 4, cells := 0, slots := 0, locals := 87 }) D q dm kd ln ad V J R [.ref (ad 0)] (x_puffR V R nD) (x_puffRV V R nD) (x_puffRJ V J) (R) := by
  refine CtI_of (cc := cX7_puff) (maxL := 3) (ret := (some .int)) (by decide +kernel) rfl (Nat.le_of_ble_eq_true rfl) ?_
  intro p e s m below meth c A hx hb hr hml hts hown hlk hmn hK hW hA hXs ls hl
  have hS : va_S A s.heap s.heap [] := va_S.rf
  have hl : lv_has ls 3 [(0, .ref (ad 0))] := hl
  have hin_TX7 : ∀ w ∈ u_ws RX7 TX7 8, w ∈ wsX7_puff := by decide +kernel
  have hin_TX2 : ∀ w ∈ u_ws RX2 TX2 5, w ∈ wsX7_puff := by decide +kernel
  obtain ⟨F, hFe⟩ : ∃ r, r = x_puffL R nD 0 (u2 V 3 0 (V 3 0 + 1)) 0 := ⟨_, rfl⟩
  have JL : ∀ n : Nat, ∀ (i : Nat) (Vw : Mv) (a : Int32) (hn : i + n = nD) (hqW : Vw 2 2 = nI nD) (hF : x_puffL R n i Vw a = F) (hc9 : V 3 0 < 100000) (H : Heap) (locs : List Loc) (ls : Array Slot), wok A D q dm kd ln ad Vw (u2 (u2 J 3 4 (J 3 4 + 1)) 3 2 (J 3 2 + (V 3 1).toInt64)) R H → va_S A s.heap H locs → lv_has ls 3 [(0, .ref (ad 0)), (1, .int a), (2, .int (nI i))] → W p l e ({ frames := 4, cells := 0, slots := 0, locals := 87 }) s m ([.ref (ad 0)] : List Value).toArray below meth c H locs 0 0 (MQ below (QI (x_puffR V R nD) D q dm kd ln ad (x_puffRV V R nD) (x_puffRJ V J) (R) A) ([.ref (ad 0)] : List Value).toArray s 0 0 A) (F0 m 26 ls []) := by
    intro n
    induction n with
    | zero =>
      intro i Vw a hn hqW hF hc9 H locs ls hW hS hl
      refine lv_iload_n hx hb dX7_puff_26 rfl (lv_at hl 2 rfl) ?_
      refine lv_aload_n hx hb dX7_puff_27 rfl (lv_at hl 0 rfl) ?_
      refine w_getr (ci := 8) (T := TX7) hx hb hts hin_TX7 hown hK hW (hX.1 0 (by decide)).1 (hX.1 0 (by decide)).2.1 (by decide) rfl 1 (by decide) (hts (.fieldLink RX7 16 "TownClocks" "dials" "Ljava/util/ArrayList;") (by decide +kernel)) (fun _ h9 => h9) rfl ((hX.1 0 (by decide)).2.2.2 1 2 rfl) dX7_puff_28 ?_
      refine w_ci (w_runV ⟨hx, hb, hml, hown, hts⟩ (c_Jx4a65c_size_8abf5 hxo l D q Vw (u2 (u2 J 3 4 (J 3 4 + 1)) 3 2 (J 3 2 + (V 3 1).toInt64)) R 2 (hX.1 2 (by decide)).1 (hX.1 2 (by decide)).2.1) hxo (cwV 0 hts gX7_puff_Jx4a65c_size_8abf5 rfl rfl rfl (by decide +kernel) ⟨Nat.le_of_ble_eq_true rfl, Nat.le_of_ble_eq_true rfl⟩) hK hW hS hA hXs (w_rcv hK hW (hX.1 2 (by decide)).1 (hX.1 2 (by decide)).2.1 (by decide) rfl) rfl hl.1 rfl (Nat.le_of_ble_eq_true rfl) dX7_puff_31 ⟨Nat.zero_le _, Nat.zero_le _⟩) hW hS hA (fun H locs hW hS => ?_)
      refine lv_icmp_ge (tgt := 63) hx hb dX7_puff_34 (by decide) (fun c_34 => ?_) (fun c_34 => ?_)
      · refine lv_aload_n hx hb dX7_puff_63 rfl (lv_at hl 0 rfl) ?_
        refine lv_iload_n hx hb dX7_puff_64 rfl (lv_at hl 1 rfl) ?_
        refine w_puti (ci := 8) (T := TX7) (ty := .int) hx hb hts hin_TX7 tyX7 tyX7_ok nmX7 hown hK hW hS (hX.1 0 (by decide)).1 (hX.1 0 (by decide)).2.1 (by decide) rfl 7 (by decide) (hts (.fieldLink RX7 107 "TownClocks" "missedLatest" "I") (by decide +kernel)) (fun _ h9 => h9) rfl (tyX7_ok 7 (by decide)) rfl rfl (Nat.le_of_ble_eq_true rfl) rfl dX7_puff_65 (fun H locs hW hS => ?_)
        refine lv_iload_n hx hb dX7_puff_68 rfl (lv_at hl 1 rfl) ?_
        exact w_iret hx hb hr hlk hW hS (by simp only [x_puffR, if_pos hc9, ← hFe, ← hF, x_puffL]) (by simp only [x_puffRV, if_pos hc9, ← hFe, ← hF, x_puffL]) (by simp only [x_puffRJ, if_pos hc9]) rfl dX7_puff_69
      · exact absurd (by rw [hqW]; exact nI_le (by omega) (by have := hX.2.1; omega)) c_34
    | succ n ih =>
      intro i Vw a hn hqW hF hc9 H locs ls hW hS hl
      have hid : i < nD := by omega
      refine lv_iload_n hx hb dX7_puff_26 rfl (lv_at hl 2 rfl) ?_
      refine lv_aload_n hx hb dX7_puff_27 rfl (lv_at hl 0 rfl) ?_
      refine w_getr (ci := 8) (T := TX7) hx hb hts hin_TX7 hown hK hW (hX.1 0 (by decide)).1 (hX.1 0 (by decide)).2.1 (by decide) rfl 1 (by decide) (hts (.fieldLink RX7 16 "TownClocks" "dials" "Ljava/util/ArrayList;") (by decide +kernel)) (fun _ h9 => h9) rfl ((hX.1 0 (by decide)).2.2.2 1 2 rfl) dX7_puff_28 ?_
      refine w_ci (w_runV ⟨hx, hb, hml, hown, hts⟩ (c_Jx4a65c_size_8abf5 hxo l D q Vw (u2 (u2 J 3 4 (J 3 4 + 1)) 3 2 (J 3 2 + (V 3 1).toInt64)) R 2 (hX.1 2 (by decide)).1 (hX.1 2 (by decide)).2.1) hxo (cwV 0 hts gX7_puff_Jx4a65c_size_8abf5 rfl rfl rfl (by decide +kernel) ⟨Nat.le_of_ble_eq_true rfl, Nat.le_of_ble_eq_true rfl⟩) hK hW hS hA hXs (w_rcv hK hW (hX.1 2 (by decide)).1 (hX.1 2 (by decide)).2.1 (by decide) rfl) rfl hl.1 rfl (Nat.le_of_ble_eq_true rfl) dX7_puff_31 ⟨Nat.zero_le _, Nat.zero_le _⟩) hW hS hA (fun H locs hW hS => ?_)
      refine lv_icmp_ge (tgt := 63) hx hb dX7_puff_34 (by decide) (fun c_34 => ?_) (fun c_34 => ?_)
      · exact absurd c_34 (by rw [hqW]; exact nI_ge (by omega) (by have := hX.2.1; omega))
      · refine lv_aload_n hx hb dX7_puff_37 rfl (lv_at hl 0 rfl) ?_
        refine w_getr (ci := 8) (T := TX7) hx hb hts hin_TX7 hown hK hW (hX.1 0 (by decide)).1 (hX.1 0 (by decide)).2.1 (by decide) rfl 1 (by decide) (hts (.fieldLink RX7 16 "TownClocks" "dials" "Ljava/util/ArrayList;") (by decide +kernel)) (fun _ h9 => h9) rfl ((hX.1 0 (by decide)).2.2.2 1 2 rfl) dX7_puff_38 ?_
        refine lv_iload_n hx hb dX7_puff_41 rfl (lv_at hl 2 rfl) ?_
        refine w_cq (w_runV ⟨hx, hb, hml, hown, hts⟩ (c_Jx4a65c_get_915e3 hxo l D q Vw (u2 (u2 J 3 4 (J 3 4 + 1)) 3 2 (J 3 2 + (V 3 1).toInt64)) R 2 17 i nD (hX.1 2 (by decide)).1 (hX.1 2 (by decide)).2.1 (hX.2.2.2.2.2 (by omega)).2.2.2.2 (hX.2.2.2.2.2 (by omega)).1 (hX.2.2.2.2.2 (by omega)).2.1 ⟨Nat.lt_of_lt_of_le hid (hX.2.2.2.2.2 (by omega)).2.2.1, by have := hX.2.1; omega⟩ hqW hid (by have := hX.2.1; omega)) hxo (cwV 1 hts gX7_puff_Jx4a65c_get_915e3 rfl rfl rfl (by decide +kernel) ⟨Nat.le_of_ble_eq_true rfl, Nat.le_of_ble_eq_true rfl⟩) hK hW hS hA hXs (w_rcv hK hW (hX.1 2 (by decide)).1 (hX.1 2 (by decide)).2.1 (by decide) rfl) rfl hl.1 rfl (Nat.le_of_ble_eq_true rfl) dX7_puff_42 ⟨Nat.zero_le _, Nat.zero_le _⟩) hW hS hA (fun H locs hW hS => ?_)
        refine w_some (hX.2.2.2.1 i hid).2.2.1 ?_
        refine w_cast hx hb hown (hts (.classLink RX7 86 "TownClocks$Dial") (by decide +kernel)) hK hW (hX.2.2.2.1 i hid).1 (hX.2.2.2.1 i hid).2.1 (by decide) rfl dX7_puff_45 ?_
        obtain ⟨pi, hpi, hRi⟩ := (hX.2.2.2.1 i hid).2.2.2
        have hpx : x_pl R (200 + i) - 100 = pi := by rw [x_pl, hRi]; simp
        refine w_ci (w_runV ⟨hx, hb, hml, hown, hts⟩ (c_X0_takePuff hxo l D q Vw (u2 (u2 J 3 4 (J 3 4 + 1)) 3 2 (J 3 2 + (V 3 1).toInt64)) R nP nD i pi hX hid hpi hRi) hxo (cwV 0 hts gX7_puff_X0_takePuff rfl rfl rfl (by decide +kernel) ⟨Nat.le_of_ble_eq_true rfl, Nat.le_of_ble_eq_true rfl⟩) hK hW hS hA hXs (w_rcv hK hW (hX.2.2.2.1 i hid).1 (hX.2.2.2.1 i hid).2.1 (by decide) rfl) rfl hl.1 rfl (Nat.le_of_ble_eq_true rfl) dX7_puff_48 ⟨Nat.zero_le _, Nat.zero_le _⟩) hW hS hA (fun H locs hW hS => ?_)
        refine w_ifnz (tgt := 57) hx hb dX7_puff_51 (by decide) (fun c_51 => ?_) (fun c_51 => ?_)
        · refine lv_iinc (v := nI (i + 1)) (lv' := [(2, .int (nI (i + 1))), (0, .ref (ad 0)), (1, .int a)]) hx hb dX7_puff_57 hl (k := 2) rfl (by rw [show Int32.ofInt 1 = 1 from by decide]; exact nI_1 _) (by decide) rfl (fun ls hl => ?_)
          refine lv_goto (tgt := 26) hx hb dX7_puff_60 (by decide) ?_
          exact ih (i + 1) (x_puff Vw R i pi) (a) (by omega) (by rw [x_puff_ne (by omega)]; exact hqW) (by have h := hF; simp only [x_puffL, hpx, if_neg c_34, if_pos c_51] at h; exact h) hc9 _ _ _ hW hS (lv_sub hl [1, 2, 0] rfl)
        · refine lv_iinc (v := a + 1) (lv' := [(1, .int (a + 1)), (0, .ref (ad 0)), (2, .int (nI i))]) hx hb dX7_puff_54 hl (k := 1) rfl rfl (by decide) rfl (fun ls hl => ?_)
          refine lv_iinc (v := nI (i + 1)) (lv' := [(2, .int (nI (i + 1))), (1, .int (a + 1)), (0, .ref (ad 0))]) hx hb dX7_puff_57 hl (k := 2) rfl (by rw [show Int32.ofInt 1 = 1 from by decide]; exact nI_1 _) (by decide) rfl (fun ls hl => ?_)
          refine lv_goto (tgt := 26) hx hb dX7_puff_60 (by decide) ?_
          exact ih (i + 1) (x_puff Vw R i pi) (a + 1) (by omega) (by rw [x_puff_ne (by omega)]; exact hqW) (by have h := hF; simp only [x_puffL, hpx, if_neg c_34, if_neg c_51] at h; exact h) hc9 _ _ _ hW hS (lv_sub hl [2, 1, 0] rfl)
  refine lv_aload_n hx hb dX7_puff_0 rfl (lv_at hl 0 rfl) ?_
  refine w_getr (ci := 8) (T := TX7) hx hb hts hin_TX7 hown hK hW (hX.1 0 (by decide)).1 (hX.1 0 (by decide)).2.1 (by decide) rfl 2 (by decide) (hts (.fieldLink RX7 22 "TownClocks" "master" "LTownClocks$Master;") (by decide +kernel)) (fun _ h9 => h9) rfl ((hX.1 0 (by decide)).2.2.2 2 3 rfl) dX7_puff_1 ?_
  refine w_get (ci := 3) (T := TX2) hx hb hts hin_TX2 hown hK hW (hX.1 3 (by decide)).1 (hX.1 3 (by decide)).2.1 (by decide) rfl 0 (by decide) (hts (.fieldLink RX7 91 "TownClocks$Master" "minute" "I") (by decide +kernel)) (fun _ h9 => h9) rfl dX7_puff_4 ?_
  refine lv_ldc (v := 100000) hx hb hown (hts (.constant RX7 94 (100000)) (by decide +kernel)) dX7_puff_7 ?_
  refine lv_icmp_lt (tgt := 15) hx hb dX7_puff_9 (by decide) (fun c_9 => ?_) (fun c_9 => ?_)
  · refine lv_aload_n hx hb dX7_puff_15 rfl (lv_at hl 0 rfl) ?_
    refine w_getr (ci := 8) (T := TX7) hx hb hts hin_TX7 hown hK hW (hX.1 0 (by decide)).1 (hX.1 0 (by decide)).2.1 (by decide) rfl 2 (by decide) (hts (.fieldLink RX7 22 "TownClocks" "master" "LTownClocks$Master;") (by decide +kernel)) (fun _ h9 => h9) rfl ((hX.1 0 (by decide)).2.2.2 2 3 rfl) dX7_puff_16 ?_
    refine w_cv (w_runV ⟨hx, hb, hml, hown, hts⟩ (c_X2_tellMinute hxo l D q V J R 3 (hX.1 3 (by decide)).1 (hX.1 3 (by decide)).2.1) hxo (cwV 0 hts gX7_puff_X2_tellMinute rfl rfl rfl (by decide +kernel) ⟨Nat.le_of_ble_eq_true rfl, Nat.le_of_ble_eq_true rfl⟩) hK hW hS hA hXs (w_rcv hK hW (hX.1 3 (by decide)).1 (hX.1 3 (by decide)).2.1 (by decide) rfl) rfl hl.1 rfl (Nat.le_of_ble_eq_true rfl) dX7_puff_19 ⟨Nat.zero_le _, Nat.zero_le _⟩) hW hS hA (fun H locs hW hS => ?_)
    refine lv_iconst (v := 0) hx hb dX7_puff_22 (by decide) ?_
    refine lv_istore_n (lv' := [(1, .int 0), (0, .ref (ad 0))]) hx hb dX7_puff_23 rfl hl (by decide) rfl (fun ls hl => ?_)
    refine lv_iconst (v := 0) hx hb dX7_puff_24 (by decide) ?_
    refine lv_istore_n (lv' := [(2, .int 0), (1, .int 0), (0, .ref (ad 0))]) hx hb dX7_puff_25 rfl hl (by decide) rfl (fun ls hl => ?_)
    exact JL nD 0 (u2 V 3 0 (V 3 0 + 1)) 0 (by omega) (by rw [u2_ne (by decide)]; exact hq) hFe.symm c_9 _ _ _ hW hS (lv_sub hl [2, 1, 0] rfl)
  · refine lv_ldc (v := -1000002) hx hb hown (hts (.constant RX7 95 (-1000002)) (by decide +kernel)) dX7_puff_12 ?_
    exact w_iret hx hb hr hlk hW hS (by first | rfl | (simp only [x_puffR, x_puffRV, x_puffRJ, if_neg c_9, c_9, ↓reduceIte]; done) | simp [bz, x_puffR, x_puffRV, x_puffRJ, if_neg c_9, c_9]) (by first | rfl | (simp only [x_puffR, x_puffRV, x_puffRJ, if_neg c_9, c_9, ↓reduceIte]; done) | simp [bz, x_puffR, x_puffRV, x_puffRJ, if_neg c_9, c_9]) (by first | rfl | (simp only [x_puffR, x_puffRV, x_puffRJ, if_neg c_9, c_9, ↓reduceIte]; done) | simp [bz, x_puffR, x_puffRV, x_puffRJ, if_neg c_9, c_9]) rfl dX7_puff_14
set_option maxHeartbeats 4000000 in
set_option maxRecDepth 100000 in
theorem c_X7_mostWrongDial {X : (Nat → Prop) → State → Prop} (hxo : xok X) (l : Launch) (D : va_G) (q : Cq) {dm : List Nat} {kd ln ad : Nat → Nat} (V : Mv) (J : Mj) (R : Mr) (nP nD : Nat)  (hX : okX dm kd ln R nP nD) (hp : V 1 2 = nI nP) (hq : V 2 2 = nI nD)  : CtQ X l yX7_mostWrongDial wsX7_mostWrongDial ({ frames := 3, cells := 0, slots := 0, locals := 64 }) D q dm kd ln ad V J R [.ref (ad 0)] (x_mw V nD 0 none 0) (V) (J) (R) := by
  refine CtQ_of (cc := cX7_mostWrongDial) (maxL := 5) (ret := (some (.object "TownClocks$Dial"))) (by decide +kernel) rfl (Nat.le_of_ble_eq_true rfl) ?_
  intro p e s m below meth c A hx hb hr hml hts hown hlk hmn hK hW hA hXs ls hl
  have hS : va_S A s.heap s.heap [] := va_S.rf
  have hl : lv_has ls 5 [(0, .ref (ad 0))] := hl
  have hin_TX7 : ∀ w ∈ u_ws RX7 TX7 8, w ∈ wsX7_mostWrongDial := by decide +kernel
  have hin_TX0 : ∀ w ∈ u_ws RX0 TX0 12, w ∈ wsX7_mostWrongDial := by decide +kernel
  obtain ⟨RV, hRV⟩ : ∃ r, r = x_mw V nD 0 none 0 := ⟨_, rfl⟩
  have JL : ∀ n : Nat, ∀ (i : Nat) (w : Option Nat) (bb : Int32) (hn : i + n = nD) (hF : x_mw V n i w bb = RV) (H : Heap) (locs : List Loc) (ls : Array Slot), wok A D q dm kd ln ad V J R H → va_S A s.heap H locs → lv_has ls 5 [(0, .ref (ad 0)), (1, va_rf (w.map ad)), (2, .int bb), (3, .int (nI i))] → W p l e ({ frames := 3, cells := 0, slots := 0, locals := 64 }) s m ([.ref (ad 0)] : List Value).toArray below meth c H locs 0 0 (MQ below (QQ (x_mw V nD 0 none 0) D q dm kd ln ad (V) (J) (R) A) ([.ref (ad 0)] : List Value).toArray s 0 0 A) (F0 m 6 ls []) := by
    intro n
    induction n with
    | zero =>
      intro i w bb hn hF H locs ls hW hS hl
      refine lv_iload_n hx hb dX7_mostWrongDial_6 rfl (lv_at hl 3 rfl) ?_
      refine lv_aload_n hx hb dX7_mostWrongDial_7 rfl (lv_at hl 0 rfl) ?_
      refine w_getr (ci := 8) (T := TX7) hx hb hts hin_TX7 hown hK hW (hX.1 0 (by decide)).1 (hX.1 0 (by decide)).2.1 (by decide) rfl 1 (by decide) (hts (.fieldLink RX7 16 "TownClocks" "dials" "Ljava/util/ArrayList;") (by decide +kernel)) (fun _ h9 => h9) rfl ((hX.1 0 (by decide)).2.2.2 1 2 rfl) dX7_mostWrongDial_8 ?_
      refine w_ci (w_runV ⟨hx, hb, hml, hown, hts⟩ (c_Jx4a65c_size_8abf5 hxo l D q V J R 2 (hX.1 2 (by decide)).1 (hX.1 2 (by decide)).2.1) hxo (cwV 0 hts gX7_mostWrongDial_Jx4a65c_size_8abf5 rfl rfl rfl (by decide +kernel) ⟨Nat.le_of_ble_eq_true rfl, Nat.le_of_ble_eq_true rfl⟩) hK hW hS hA hXs (w_rcv hK hW (hX.1 2 (by decide)).1 (hX.1 2 (by decide)).2.1 (by decide) rfl) rfl hl.1 rfl (Nat.le_of_ble_eq_true rfl) dX7_mostWrongDial_11 ⟨Nat.zero_le _, Nat.zero_le _⟩) hW hS hA (fun H locs hW hS => ?_)
      refine lv_icmp_ge (tgt := 60) hx hb dX7_mostWrongDial_14 (by decide) (fun c_14 => ?_) (fun c_14 => ?_)
      · rcases w with _ | w1
        · have h9 := hF
          refine lv_aload_nN hx hb dX7_mostWrongDial_60 rfl (lv_at hl 1 rfl) ?_
          exact w_qret hx hb hr (Or.inl ⟨_, rfl⟩) hlk hW hS (by rw [← hRV, ← h9]; rfl) rfl rfl rfl dX7_mostWrongDial_61
        · have h9 := hF
          refine lv_aload_n hx hb dX7_mostWrongDial_60 rfl (lv_at hl 1 rfl) ?_
          exact w_qret hx hb hr (Or.inl ⟨_, rfl⟩) hlk hW hS (by rw [← hRV, ← h9]; rfl) rfl rfl rfl dX7_mostWrongDial_61
      · exact absurd (by rw [hq]; exact nI_le (by omega) (by have := hX.2.1; omega)) c_14
    | succ n ih =>
      intro i w bb hn hF H locs ls hW hS hl
      have hid : i < nD := by omega
      refine lv_iload_n hx hb dX7_mostWrongDial_6 rfl (lv_at hl 3 rfl) ?_
      refine lv_aload_n hx hb dX7_mostWrongDial_7 rfl (lv_at hl 0 rfl) ?_
      refine w_getr (ci := 8) (T := TX7) hx hb hts hin_TX7 hown hK hW (hX.1 0 (by decide)).1 (hX.1 0 (by decide)).2.1 (by decide) rfl 1 (by decide) (hts (.fieldLink RX7 16 "TownClocks" "dials" "Ljava/util/ArrayList;") (by decide +kernel)) (fun _ h9 => h9) rfl ((hX.1 0 (by decide)).2.2.2 1 2 rfl) dX7_mostWrongDial_8 ?_
      refine w_ci (w_runV ⟨hx, hb, hml, hown, hts⟩ (c_Jx4a65c_size_8abf5 hxo l D q V J R 2 (hX.1 2 (by decide)).1 (hX.1 2 (by decide)).2.1) hxo (cwV 0 hts gX7_mostWrongDial_Jx4a65c_size_8abf5 rfl rfl rfl (by decide +kernel) ⟨Nat.le_of_ble_eq_true rfl, Nat.le_of_ble_eq_true rfl⟩) hK hW hS hA hXs (w_rcv hK hW (hX.1 2 (by decide)).1 (hX.1 2 (by decide)).2.1 (by decide) rfl) rfl hl.1 rfl (Nat.le_of_ble_eq_true rfl) dX7_mostWrongDial_11 ⟨Nat.zero_le _, Nat.zero_le _⟩) hW hS hA (fun H locs hW hS => ?_)
      refine lv_icmp_ge (tgt := 60) hx hb dX7_mostWrongDial_14 (by decide) (fun c_14 => ?_) (fun c_14 => ?_)
      · exact absurd c_14 (by rw [hq]; exact nI_ge (by omega) (by have := hX.2.1; omega))
      · refine lv_aload_n hx hb dX7_mostWrongDial_17 rfl (lv_at hl 0 rfl) ?_
        refine w_getr (ci := 8) (T := TX7) hx hb hts hin_TX7 hown hK hW (hX.1 0 (by decide)).1 (hX.1 0 (by decide)).2.1 (by decide) rfl 1 (by decide) (hts (.fieldLink RX7 16 "TownClocks" "dials" "Ljava/util/ArrayList;") (by decide +kernel)) (fun _ h9 => h9) rfl ((hX.1 0 (by decide)).2.2.2 1 2 rfl) dX7_mostWrongDial_18 ?_
        refine lv_iload_n hx hb dX7_mostWrongDial_21 rfl (lv_at hl 3 rfl) ?_
        refine w_cq (w_runV ⟨hx, hb, hml, hown, hts⟩ (c_Jx4a65c_get_915e3 hxo l D q V J R 2 17 i nD (hX.1 2 (by decide)).1 (hX.1 2 (by decide)).2.1 (hX.2.2.2.2.2 (by omega)).2.2.2.2 (hX.2.2.2.2.2 (by omega)).1 (hX.2.2.2.2.2 (by omega)).2.1 ⟨Nat.lt_of_lt_of_le hid (hX.2.2.2.2.2 (by omega)).2.2.1, by have := hX.2.1; omega⟩ hq hid (by have := hX.2.1; omega)) hxo (cwV 1 hts gX7_mostWrongDial_Jx4a65c_get_915e3 rfl rfl rfl (by decide +kernel) ⟨Nat.le_of_ble_eq_true rfl, Nat.le_of_ble_eq_true rfl⟩) hK hW hS hA hXs (w_rcv hK hW (hX.1 2 (by decide)).1 (hX.1 2 (by decide)).2.1 (by decide) rfl) rfl hl.1 rfl (Nat.le_of_ble_eq_true rfl) dX7_mostWrongDial_22 ⟨Nat.zero_le _, Nat.zero_le _⟩) hW hS hA (fun H locs hW hS => ?_)
        refine w_some (hX.2.2.2.1 i hid).2.2.1 ?_
        refine w_cast hx hb hown (hts (.classLink RX7 86 "TownClocks$Dial") (by decide +kernel)) hK hW (hX.2.2.2.1 i hid).1 (hX.2.2.2.1 i hid).2.1 (by decide) rfl dX7_mostWrongDial_25 ?_
        refine lv_astore (lv' := [(4, .ref (ad (200 + i))), (0, .ref (ad 0)), (1, va_rf (w.map ad)), (2, .int bb), (3, .int (nI i))]) hx hb dX7_mostWrongDial_28 hl (by decide) rfl (fun ls hl => ?_)
        refine lv_aload hx hb dX7_mostWrongDial_30 (lv_at hl 0 rfl) ?_
        refine w_get (ci := 1) (T := TX0) hx hb hts hin_TX0 hown hK hW (hX.2.2.2.1 i hid).1 (hX.2.2.2.1 i hid).2.1 (by decide) rfl 3 (by decide) (hts (.fieldLink RX7 140 "TownClocks$Dial" "late" "I") (by decide +kernel)) (fun _ h9 => h9) rfl dX7_mostWrongDial_32 ?_
        refine va_mabs hx hb (by rw [hml]; exact hl.1.symm) hown (hts (.methodLink RX7 253 Lib.Math.abs.name) (by decide +kernel)) (hts (.static Lib.Math.abs.name) (by decide +kernel)) (hts (.initialized "java/lang/Math") (by decide +kernel)) (hts (.code Lib.Math.abs.name Lib.Math.abs.code 1 (some .int)) (by decide +kernel)) (Nat.le_of_ble_eq_true rfl) (Nat.le_of_ble_eq_true rfl) (Nat.zero_le _) (Nat.zero_le _) dX7_mostWrongDial_35 ?_
        refine w_i (show _ = x_abs _ from rfl) ?_
        refine lv_iload_n hx hb dX7_mostWrongDial_38 rfl (lv_at hl 3 rfl) ?_
        refine lv_icmp_le (tgt := 54) hx hb dX7_mostWrongDial_39 (by decide) (fun c_39 => ?_) (fun c_39 => ?_)
        · refine lv_iinc (v := nI (i + 1)) (lv' := [(3, .int (nI (i + 1))), (4, .ref (ad (200 + i))), (0, .ref (ad 0)), (1, va_rf (w.map ad)), (2, .int bb)]) hx hb dX7_mostWrongDial_54 hl (k := 4) rfl (by rw [show Int32.ofInt 1 = 1 from by decide]; exact nI_1 _) (by decide) rfl (fun ls hl => ?_)
          refine lv_goto (tgt := 6) hx hb dX7_mostWrongDial_57 (by decide) ?_
          exact ih (i + 1) w (bb) (by omega) (by have h := hF; simp only [x_mw, if_neg c_14, if_pos c_39] at h; exact h) _ _ _ hW hS (lv_sub hl [2, 3, 4, 0] rfl)
        · rcases w with _ | w1
          · have h9 := hF
            refine lv_aload hx hb dX7_mostWrongDial_42 (lv_at hl 0 rfl) ?_
            refine w_get (ci := 1) (T := TX0) hx hb hts hin_TX0 hown hK hW (hX.2.2.2.1 i hid).1 (hX.2.2.2.1 i hid).2.1 (by decide) rfl 3 (by decide) (hts (.fieldLink RX7 140 "TownClocks$Dial" "late" "I") (by decide +kernel)) (fun _ h9 => h9) rfl dX7_mostWrongDial_44 ?_
            refine va_mabs hx hb (by rw [hml]; exact hl.1.symm) hown (hts (.methodLink RX7 253 Lib.Math.abs.name) (by decide +kernel)) (hts (.static Lib.Math.abs.name) (by decide +kernel)) (hts (.initialized "java/lang/Math") (by decide +kernel)) (hts (.code Lib.Math.abs.name Lib.Math.abs.code 1 (some .int)) (by decide +kernel)) (Nat.le_of_ble_eq_true rfl) (Nat.le_of_ble_eq_true rfl) (Nat.zero_le _) (Nat.zero_le _) dX7_mostWrongDial_47 ?_
            refine w_i (show _ = x_abs _ from rfl) ?_
            refine lv_istore_n (lv' := [(2, .int (x_abs (V (200 + i) 3))), (4, .ref (ad (200 + i))), (0, .ref (ad 0)), (1, .null), (3, .int (nI i))]) hx hb dX7_mostWrongDial_50 rfl hl (by decide) rfl (fun ls hl => ?_)
            refine lv_aload hx hb dX7_mostWrongDial_51 (lv_at hl 1 rfl) ?_
            refine lv_astore_n (lv' := [(1, .ref (ad (200 + i))), (2, .int (x_abs (V (200 + i) 3))), (4, .ref (ad (200 + i))), (0, .ref (ad 0)), (3, .int (nI i))]) hx hb dX7_mostWrongDial_53 rfl hl (by decide) rfl (fun ls hl => ?_)
            refine lv_iinc (v := nI (i + 1)) (lv' := [(3, .int (nI (i + 1))), (1, .ref (ad (200 + i))), (2, .int (x_abs (V (200 + i) 3))), (4, .ref (ad (200 + i))), (0, .ref (ad 0))]) hx hb dX7_mostWrongDial_54 hl (k := 4) rfl (by rw [show Int32.ofInt 1 = 1 from by decide]; exact nI_1 _) (by decide) rfl (fun ls hl => ?_)
            refine lv_goto (tgt := 6) hx hb dX7_mostWrongDial_57 (by decide) ?_
            exact ih (i + 1) (some (200 + i)) (x_abs (V (200 + i) 3)) (by omega) (by have h := hF; simp only [x_mw, if_neg c_14, if_neg c_39] at h; exact h) _ _ _ hW hS (lv_sub hl [4, 1, 2, 0] rfl)
          · have h9 := hF
            refine lv_aload hx hb dX7_mostWrongDial_42 (lv_at hl 0 rfl) ?_
            refine w_get (ci := 1) (T := TX0) hx hb hts hin_TX0 hown hK hW (hX.2.2.2.1 i hid).1 (hX.2.2.2.1 i hid).2.1 (by decide) rfl 3 (by decide) (hts (.fieldLink RX7 140 "TownClocks$Dial" "late" "I") (by decide +kernel)) (fun _ h9 => h9) rfl dX7_mostWrongDial_44 ?_
            refine va_mabs hx hb (by rw [hml]; exact hl.1.symm) hown (hts (.methodLink RX7 253 Lib.Math.abs.name) (by decide +kernel)) (hts (.static Lib.Math.abs.name) (by decide +kernel)) (hts (.initialized "java/lang/Math") (by decide +kernel)) (hts (.code Lib.Math.abs.name Lib.Math.abs.code 1 (some .int)) (by decide +kernel)) (Nat.le_of_ble_eq_true rfl) (Nat.le_of_ble_eq_true rfl) (Nat.zero_le _) (Nat.zero_le _) dX7_mostWrongDial_47 ?_
            refine w_i (show _ = x_abs _ from rfl) ?_
            refine lv_istore_n (lv' := [(2, .int (x_abs (V (200 + i) 3))), (4, .ref (ad (200 + i))), (0, .ref (ad 0)), (1, .ref (ad w1)), (3, .int (nI i))]) hx hb dX7_mostWrongDial_50 rfl hl (by decide) rfl (fun ls hl => ?_)
            refine lv_aload hx hb dX7_mostWrongDial_51 (lv_at hl 1 rfl) ?_
            refine lv_astore_n (lv' := [(1, .ref (ad (200 + i))), (2, .int (x_abs (V (200 + i) 3))), (4, .ref (ad (200 + i))), (0, .ref (ad 0)), (3, .int (nI i))]) hx hb dX7_mostWrongDial_53 rfl hl (by decide) rfl (fun ls hl => ?_)
            refine lv_iinc (v := nI (i + 1)) (lv' := [(3, .int (nI (i + 1))), (1, .ref (ad (200 + i))), (2, .int (x_abs (V (200 + i) 3))), (4, .ref (ad (200 + i))), (0, .ref (ad 0))]) hx hb dX7_mostWrongDial_54 hl (k := 4) rfl (by rw [show Int32.ofInt 1 = 1 from by decide]; exact nI_1 _) (by decide) rfl (fun ls hl => ?_)
            refine lv_goto (tgt := 6) hx hb dX7_mostWrongDial_57 (by decide) ?_
            exact ih (i + 1) (some (200 + i)) (x_abs (V (200 + i) 3)) (by omega) (by have h := hF; simp only [x_mw, if_neg c_14, if_neg c_39] at h; exact h) _ _ _ hW hS (lv_sub hl [4, 1, 2, 0] rfl)
  refine lv_null hx hb dX7_mostWrongDial_0 ?_
  refine lv_astore_nN (lv' := [(1, .null), (0, .ref (ad 0))]) hx hb dX7_mostWrongDial_1 rfl hl (by decide) rfl (fun ls hl => ?_)
  refine lv_iconst (v := 0) hx hb dX7_mostWrongDial_2 (by decide) ?_
  refine lv_istore_n (lv' := [(2, .int 0), (1, .null), (0, .ref (ad 0))]) hx hb dX7_mostWrongDial_3 rfl hl (by decide) rfl (fun ls hl => ?_)
  refine lv_iconst (v := 0) hx hb dX7_mostWrongDial_4 (by decide) ?_
  refine lv_istore_n (lv' := [(3, .int 0), (2, .int 0), (1, .null), (0, .ref (ad 0))]) hx hb dX7_mostWrongDial_5 rfl hl (by decide) rfl (fun ls hl => ?_)
  exact JL nD 0 none 0 (by omega) hRV.symm _ _ _ hW hS (lv_sub hl [3, 2, 1, 0] rfl)
set_option maxHeartbeats 4000000 in
set_option maxRecDepth 100000 in
theorem c_X7_round {X : (Nat → Prop) → State → Prop} (hxo : xok X) (l : Launch) (D : va_G) (q : Cq) {dm : List Nat} {kd ln ad : Nat → Nat} (V : Mv) (J : Mj) (R : Mr) (nP nD : Nat) (x : Int32) (hX : okX dm kd ln R nP nD) (hp : V 1 2 = nI nP) (hq : V 2 2 = nI nD)  : CtI X l yX7_round wsX7_round ({ frames := 4, cells := 0, slots := 0, locals := 88 }) D q dm kd ln ad V J R [.ref (ad 0), .int x] (x_round V nD x) (x_roundV V nD x) (J) (R) := by
  refine CtI_of (cc := cX7_round) (maxL := 4) (ret := (some .int)) (by decide +kernel) rfl (Nat.le_of_ble_eq_true rfl) ?_
  intro p e s m below meth c A hx hb hr hml hts hown hlk hmn hK hW hA hXs ls hl
  have hS : va_S A s.heap s.heap [] := va_S.rf
  have hl : lv_has ls 4 [(0, .ref (ad 0)), (1, .int x)] := hl
  obtain ⟨K, hKe⟩ : ∃ k, k = x.toNatClampNeg := ⟨_, rfl⟩
  obtain ⟨F, hFe⟩ : ∃ r, r = x_roundL nD x.toNatClampNeg V 0 := ⟨_, rfl⟩
  have JL : ∀ n : Nat, ∀ (d : Nat) (Vw : Mv) (hn : d + n = K) (hpW : Vw 1 2 = nI nP) (hqW : Vw 2 2 = nI nD) (hF : x_roundL nD n Vw (nI d) = F) (hcx : 1 ≤ x ∧ x ≤ 10) (hxK : x = nI K) (hK10 : K ≤ 10) (H : Heap) (locs : List Loc) (ls : Array Slot), wok A D q dm kd ln ad Vw J R H → va_S A s.heap H locs → lv_has ls 4 [(0, .ref (ad 0)), (1, .int x), (2, .int (nI d))] → W p l e ({ frames := 4, cells := 0, slots := 0, locals := 88 }) s m ([.ref (ad 0), .int x] : List Value).toArray below meth c H locs 0 0 (MQ below (QI (x_round V nD x) D q dm kd ln ad (x_roundV V nD x) (J) (R) A) ([.ref (ad 0), .int x] : List Value).toArray s 0 0 A) (F0 m 15 ls []) := by
    intro n
    induction n with
    | zero =>
      intro d Vw hn hpW hqW hF hcx hxK hK10 H locs ls hW hS hl
      refine lv_iload_n hx hb dX7_round_15 rfl (lv_at hl 2 rfl) ?_
      refine lv_iload_n hx hb dX7_round_16 rfl (lv_at hl 1 rfl) ?_
      refine lv_icmp_ge (tgt := 41) hx hb dX7_round_17 (by decide) (fun c_17 => ?_) (fun c_17 => ?_)
      · refine lv_iload_n hx hb dX7_round_41 rfl (lv_at hl 2 rfl) ?_
        exact w_iret hx hb hr hlk hW hS (by simp only [x_round, if_pos hcx, ← hFe, ← hF, x_roundL]) (by simp only [x_roundV, if_pos hcx, ← hFe, ← hF, x_roundL]) rfl rfl dX7_round_42
      · exact absurd (by rw [hxK]; exact nI_le (by omega) (by omega)) c_17
    | succ n ih =>
      intro d Vw hn hpW hqW hF hcx hxK hK10 H locs ls hW hS hl
      refine lv_iload_n hx hb dX7_round_15 rfl (lv_at hl 2 rfl) ?_
      refine lv_iload_n hx hb dX7_round_16 rfl (lv_at hl 1 rfl) ?_
      refine lv_icmp_ge (tgt := 41) hx hb dX7_round_17 (by decide) (fun c_17 => ?_) (fun c_17 => ?_)
      · exact absurd c_17 (by rw [hxK]; exact nI_ge (by omega) (by omega))
      · refine lv_aload_n hx hb dX7_round_20 rfl (lv_at hl 0 rfl) ?_
        refine w_cq (w_runV ⟨hx, hb, hml, hown, hts⟩ (c_X7_mostWrongDial hxo l D q Vw J R nP nD hX hpW hqW) hxo (cwV 0 hts gX7_round_X7_mostWrongDial rfl rfl rfl (by decide +kernel) ⟨Nat.le_of_ble_eq_true rfl, Nat.le_of_ble_eq_true rfl⟩) hK hW hS hA hXs (w_rcv hK hW (hX.1 0 (by decide)).1 (hX.1 0 (by decide)).2.1 (by decide) rfl) rfl hl.1 rfl (Nat.le_of_ble_eq_true rfl) dX7_round_21 ⟨Nat.zero_le _, Nat.zero_le _⟩) hW hS hA (fun H locs hW hS => ?_)
        rcases hmw : x_mw Vw nD 0 none 0 with _ | k
        · refine w_none rfl ?_
          refine lv_astore_nN (lv' := [(3, .null), (0, .ref (ad 0)), (1, .int x), (2, .int (nI d))]) hx hb dX7_round_24 rfl hl (by decide) rfl (fun ls hl => ?_)
          refine lv_aload_nN hx hb dX7_round_25 rfl (lv_at hl 0 rfl) ?_
          refine lv_ifnonnullN hx hb dX7_round_26 ?_
          refine lv_iload_n hx hb dX7_round_29 rfl (lv_at hl 3 rfl) ?_
          exact w_iret hx hb hr hlk hW hS (by simp only [x_round, if_pos hcx, ← hFe, ← hF, x_roundL, hmw]) (by simp only [x_roundV, if_pos hcx, ← hFe, ← hF, x_roundL, hmw]) rfl rfl dX7_round_30
        · obtain ⟨j, hj, rfl⟩ := x_mw_dial hmw
          refine w_some rfl ?_
          refine lv_astore_n (lv' := [(3, .ref (ad (200 + j))), (0, .ref (ad 0)), (1, .int x), (2, .int (nI d))]) hx hb dX7_round_24 rfl hl (by decide) rfl (fun ls hl => ?_)
          refine lv_aload_n hx hb dX7_round_25 rfl (lv_at hl 0 rfl) ?_
          refine lv_ifnonnull (tgt := 31) hx hb dX7_round_26 (by decide) ?_
          refine lv_aload_n hx hb dX7_round_31 rfl (lv_at hl 0 rfl) ?_
          refine w_cv (w_runV ⟨hx, hb, hml, hown, hts⟩ (c_X0_putRight hxo l D q Vw J R (200 + j) (hX.2.2.2.1 j hj).1 (hX.2.2.2.1 j hj).2.1) hxo (cwV 0 hts gX7_round_X0_putRight rfl rfl rfl (by decide +kernel) ⟨Nat.le_of_ble_eq_true rfl, Nat.le_of_ble_eq_true rfl⟩) hK hW hS hA hXs (w_rcv hK hW (hX.2.2.2.1 j hj).1 (hX.2.2.2.1 j hj).2.1 (by decide) rfl) rfl hl.1 rfl (Nat.le_of_ble_eq_true rfl) dX7_round_32 ⟨Nat.zero_le _, Nat.zero_le _⟩) hW hS hA (fun H locs hW hS => ?_)
          refine lv_iinc (v := nI (d + 1)) (lv' := [(2, .int (nI (d + 1))), (3, .ref (ad (200 + j))), (0, .ref (ad 0)), (1, .int x)]) hx hb dX7_round_35 hl (k := 3) rfl (by rw [show Int32.ofInt 1 = 1 from by decide]; exact nI_1 _) (by decide) rfl (fun ls hl => ?_)
          refine lv_goto (tgt := 15) hx hb dX7_round_38 (by decide) ?_
          exact ih (d + 1) (x_right Vw (200 + j)) (by omega) (by rw [x_right_ne (by omega)]; exact hpW) (by rw [x_right_ne (by omega)]; exact hqW) (by have h := hF; simp only [x_roundL, hmw, nI_1] at h; exact h) hcx hxK hK10 _ _ _ hW hS (lv_sub hl [2, 3, 0] rfl)
  refine lv_iload_n hx hb dX7_round_0 rfl (lv_at hl 1 rfl) ?_
  refine lv_iconst (v := 1) hx hb dX7_round_1 (by decide) ?_
  refine lv_bipush (v := 10) hx hb dX7_round_2 (by decide) ?_
  refine w_ci (w_runS ⟨hx, hb, hml, hown, hts⟩ (c_X7_within hxo l D q V J R x 1 10 ) hxo (va_cwS 3 hts gX7_round_X7_within rfl rfl rfl (by decide +kernel) ⟨Nat.le_of_ble_eq_true rfl, Nat.le_of_ble_eq_true rfl⟩) hK hW hS hA hXs rfl hl.1 rfl (Nat.le_of_ble_eq_true rfl) dX7_round_4 ⟨Nat.zero_le _, Nat.zero_le _⟩) hW hS hA (fun H locs hW hS => ?_)
  refine w_ifnz (tgt := 13) hx hb dX7_round_7 (by decide) (fun c_7 => ?_) (fun c_7 => ?_)
  · refine lv_iconst (v := 0) hx hb dX7_round_13 (by decide) ?_
    refine lv_istore_n (lv' := [(2, .int 0), (0, .ref (ad 0)), (1, .int x)]) hx hb dX7_round_14 rfl hl (by decide) rfl (fun ls hl => ?_)
    exact JL K 0 V (by omega) hp hq (by rw [hFe, hKe]; rfl) c_7 (by rw [hKe]; exact (r_k c_7).1) (by rw [hKe]; exact (r_k c_7).2) _ _ _ hW hS (lv_sub hl [1, 2, 0] rfl)
  · refine lv_ldc (v := -1000001) hx hb hown (hts (.constant RX7 57 (-1000001)) (by decide +kernel)) dX7_round_10 ?_
    exact w_iret hx hb hr hlk hW hS (by first | rfl | (simp only [x_round, x_roundV, if_neg c_7, c_7, ↓reduceIte]; done) | simp [bz, x_round, x_roundV, if_neg c_7, c_7]) (by first | rfl | (simp only [x_round, x_roundV, if_neg c_7, c_7, ↓reduceIte]; done) | simp [bz, x_round, x_roundV, if_neg c_7, c_7]) rfl rfl dX7_round_12
set_option maxHeartbeats 4000000 in
set_option maxRecDepth 100000 in
theorem c_X7_mark {X : (Nat → Prop) → State → Prop} (hxo : xok X) (l : Launch) (D : va_G) (q : Cq) {dm : List Nat} {kd ln ad : Nat → Nat} (V : Mv) (J : Mj) (R : Mr) (nP nD : Nat) (x v : Int32) (hX : okX dm kd ln R nP nD) (hp : V 1 2 = nI nP) (hq : V 2 2 = nI nD)  : CtI X l yX7_mark wsX7_mark ({ frames := 4, cells := 0, slots := 0, locals := 85 }) D q dm kd ln ad V J R [.ref (ad 0), .int x, .int v] (x_mark V nD x v) (x_markV V nD x v) (J) (R) := by
  refine CtI_of (cc := cX7_mark) (maxL := 6) (ret := (some .int)) (by decide +kernel) rfl (Nat.le_of_ble_eq_true rfl) ?_
  intro p e s m below meth c A hx hb hr hml hts hown hlk hmn hK hW hA hXs ls hl
  have hS : va_S A s.heap s.heap [] := va_S.rf
  have hl : lv_has ls 6 [(0, .ref (ad 0)), (1, .int x), (2, .int v)] := hl
  have hin_TX7 : ∀ w ∈ u_ws RX7 TX7 8, w ∈ wsX7_mark := by decide +kernel
  have hin_TX0 : ∀ w ∈ u_ws RX0 TX0 12, w ∈ wsX7_mark := by decide +kernel
  obtain ⟨RV, hRV⟩ : ∃ r, r = lpI (fun i a => if x_markV V nD x v (200 + i) 7 = 0 then a else a + 1) nD 0 0 := ⟨_, rfl⟩
  have hqW : x_markV V nD x v 2 2 = nI nD := by rw [x_markV_ne (by omega)]; exact hq
  have JL : ∀ n : Nat, ∀ (i : Nat) (a : Int32) (hn : i + n = nD) (hF : lpI (fun i a => if x_markV V nD x v (200 + i) 7 = 0 then a else a + 1) n i a = RV) (hc1 : inx nD x) (hc2 : 0 ≤ v ∧ v ≤ 1) (H : Heap) (locs : List Loc) (ls : Array Slot), wok A D q dm kd ln ad (x_markV V nD x v) J R H → va_S A s.heap H locs → lv_has ls 6 [(0, .ref (ad 0)), (4, .int a), (5, .int (nI i))] → W p l e ({ frames := 4, cells := 0, slots := 0, locals := 85 }) s m ([.ref (ad 0), .int x, .int v] : List Value).toArray below meth c H locs 0 0 (MQ below (QI (x_mark V nD x v) D q dm kd ln ad (x_markV V nD x v) (J) (R) A) ([.ref (ad 0), .int x, .int v] : List Value).toArray s 0 0 A) (F0 m 42 ls []) := by
    intro n
    induction n with
    | zero =>
      intro i a hn hF hc1 hc2 H locs ls hW hS hl
      refine lv_iload hx hb dX7_mark_42 (lv_at hl 2 rfl) ?_
      refine lv_aload_n hx hb dX7_mark_44 rfl (lv_at hl 0 rfl) ?_
      refine w_getr (ci := 8) (T := TX7) hx hb hts hin_TX7 hown hK hW (hX.1 0 (by decide)).1 (hX.1 0 (by decide)).2.1 (by decide) rfl 1 (by decide) (hts (.fieldLink RX7 16 "TownClocks" "dials" "Ljava/util/ArrayList;") (by decide +kernel)) (fun _ h9 => h9) rfl ((hX.1 0 (by decide)).2.2.2 1 2 rfl) dX7_mark_45 ?_
      refine w_ci (w_runV ⟨hx, hb, hml, hown, hts⟩ (c_Jx4a65c_size_8abf5 hxo l D q (x_markV V nD x v) J R 2 (hX.1 2 (by decide)).1 (hX.1 2 (by decide)).2.1) hxo (cwV 0 hts gX7_mark_Jx4a65c_size_8abf5 rfl rfl rfl (by decide +kernel) ⟨Nat.le_of_ble_eq_true rfl, Nat.le_of_ble_eq_true rfl⟩) hK hW hS hA hXs (w_rcv hK hW (hX.1 2 (by decide)).1 (hX.1 2 (by decide)).2.1 (by decide) rfl) rfl hl.1 rfl (Nat.le_of_ble_eq_true rfl) dX7_mark_48 ⟨Nat.zero_le _, Nat.zero_le _⟩) hW hS hA (fun H locs hW hS => ?_)
      refine lv_icmp_ge (tgt := 81) hx hb dX7_mark_51 (by decide) (fun c_51 => ?_) (fun c_51 => ?_)
      · refine lv_iload hx hb dX7_mark_81 (lv_at hl 1 rfl) ?_
        exact w_iret hx hb hr hlk hW hS (by rw [x_mark, if_pos hc1, if_pos hc2, ← hRV, ← hF]; rfl) rfl rfl rfl dX7_mark_83
      · exact absurd (by rw [hqW]; exact nI_le (by omega) (by have := hX.2.1; omega)) c_51
    | succ n ih =>
      intro i a hn hF hc1 hc2 H locs ls hW hS hl
      have hid : i < nD := by omega
      refine lv_iload hx hb dX7_mark_42 (lv_at hl 2 rfl) ?_
      refine lv_aload_n hx hb dX7_mark_44 rfl (lv_at hl 0 rfl) ?_
      refine w_getr (ci := 8) (T := TX7) hx hb hts hin_TX7 hown hK hW (hX.1 0 (by decide)).1 (hX.1 0 (by decide)).2.1 (by decide) rfl 1 (by decide) (hts (.fieldLink RX7 16 "TownClocks" "dials" "Ljava/util/ArrayList;") (by decide +kernel)) (fun _ h9 => h9) rfl ((hX.1 0 (by decide)).2.2.2 1 2 rfl) dX7_mark_45 ?_
      refine w_ci (w_runV ⟨hx, hb, hml, hown, hts⟩ (c_Jx4a65c_size_8abf5 hxo l D q (x_markV V nD x v) J R 2 (hX.1 2 (by decide)).1 (hX.1 2 (by decide)).2.1) hxo (cwV 0 hts gX7_mark_Jx4a65c_size_8abf5 rfl rfl rfl (by decide +kernel) ⟨Nat.le_of_ble_eq_true rfl, Nat.le_of_ble_eq_true rfl⟩) hK hW hS hA hXs (w_rcv hK hW (hX.1 2 (by decide)).1 (hX.1 2 (by decide)).2.1 (by decide) rfl) rfl hl.1 rfl (Nat.le_of_ble_eq_true rfl) dX7_mark_48 ⟨Nat.zero_le _, Nat.zero_le _⟩) hW hS hA (fun H locs hW hS => ?_)
      refine lv_icmp_ge (tgt := 81) hx hb dX7_mark_51 (by decide) (fun c_51 => ?_) (fun c_51 => ?_)
      · exact absurd c_51 (by rw [hqW]; exact nI_ge (by omega) (by have := hX.2.1; omega))
      · refine lv_aload_n hx hb dX7_mark_54 rfl (lv_at hl 0 rfl) ?_
        refine w_getr (ci := 8) (T := TX7) hx hb hts hin_TX7 hown hK hW (hX.1 0 (by decide)).1 (hX.1 0 (by decide)).2.1 (by decide) rfl 1 (by decide) (hts (.fieldLink RX7 16 "TownClocks" "dials" "Ljava/util/ArrayList;") (by decide +kernel)) (fun _ h9 => h9) rfl ((hX.1 0 (by decide)).2.2.2 1 2 rfl) dX7_mark_55 ?_
        refine lv_iload hx hb dX7_mark_58 (lv_at hl 2 rfl) ?_
        refine w_cq (w_runV ⟨hx, hb, hml, hown, hts⟩ (c_Jx4a65c_get_915e3 hxo l D q (x_markV V nD x v) J R 2 17 i nD (hX.1 2 (by decide)).1 (hX.1 2 (by decide)).2.1 (hX.2.2.2.2.2 (by omega)).2.2.2.2 (hX.2.2.2.2.2 (by omega)).1 (hX.2.2.2.2.2 (by omega)).2.1 ⟨Nat.lt_of_lt_of_le hid (hX.2.2.2.2.2 (by omega)).2.2.1, by have := hX.2.1; omega⟩ hqW hid (by have := hX.2.1; omega)) hxo (cwV 1 hts gX7_mark_Jx4a65c_get_915e3 rfl rfl rfl (by decide +kernel) ⟨Nat.le_of_ble_eq_true rfl, Nat.le_of_ble_eq_true rfl⟩) hK hW hS hA hXs (w_rcv hK hW (hX.1 2 (by decide)).1 (hX.1 2 (by decide)).2.1 (by decide) rfl) rfl hl.1 rfl (Nat.le_of_ble_eq_true rfl) dX7_mark_60 ⟨Nat.zero_le _, Nat.zero_le _⟩) hW hS hA (fun H locs hW hS => ?_)
        refine w_some (hX.2.2.2.1 i hid).2.2.1 ?_
        refine w_cast hx hb hown (hts (.classLink RX7 86 "TownClocks$Dial") (by decide +kernel)) hK hW (hX.2.2.2.1 i hid).1 (hX.2.2.2.1 i hid).2.1 (by decide) rfl dX7_mark_63 ?_
        refine w_get (ci := 1) (T := TX0) hx hb hts hin_TX0 hown hK hW (hX.2.2.2.1 i hid).1 (hX.2.2.2.1 i hid).2.1 (by decide) rfl 7 (by decide) (hts (.fieldLink RX7 181 "TownClocks$Dial" "marked" "Z") (by decide +kernel)) (fun _ h9 => h9) rfl dX7_mark_66 ?_
        refine lv_if_eq (tgt := 75) hx hb dX7_mark_69 (by decide) (fun c_69 => ?_) (fun c_69 => ?_)
        · refine lv_iinc (v := nI (i + 1)) (lv' := [(5, .int (nI (i + 1))), (0, .ref (ad 0)), (4, .int a)]) hx hb dX7_mark_75 hl (k := 2) rfl (by rw [show Int32.ofInt 1 = 1 from by decide]; exact nI_1 _) (by decide) rfl (fun ls hl => ?_)
          refine lv_goto (tgt := 42) hx hb dX7_mark_78 (by decide) ?_
          exact ih (i + 1) (a) (by omega) (by have h := hF; simp only [lpI, if_neg c_51, if_pos c_69] at h; exact h) hc1 hc2 _ _ _ hW hS (lv_sub hl [1, 2, 0] rfl)
        · refine lv_iinc (v := a + 1) (lv' := [(4, .int (a + 1)), (0, .ref (ad 0)), (5, .int (nI i))]) hx hb dX7_mark_72 hl (k := 1) rfl rfl (by decide) rfl (fun ls hl => ?_)
          refine lv_iinc (v := nI (i + 1)) (lv' := [(5, .int (nI (i + 1))), (4, .int (a + 1)), (0, .ref (ad 0))]) hx hb dX7_mark_75 hl (k := 2) rfl (by rw [show Int32.ofInt 1 = 1 from by decide]; exact nI_1 _) (by decide) rfl (fun ls hl => ?_)
          refine lv_goto (tgt := 42) hx hb dX7_mark_78 (by decide) ?_
          exact ih (i + 1) (a + 1) (by omega) (by have h := hF; simp only [lpI, if_neg c_51, if_neg c_69] at h; exact h) hc1 hc2 _ _ _ hW hS (lv_sub hl [2, 1, 0] rfl)
  refine lv_aload_n hx hb dX7_mark_0 rfl (lv_at hl 0 rfl) ?_
  refine lv_iload_n hx hb dX7_mark_1 rfl (lv_at hl 1 rfl) ?_
  refine w_cq (w_runV ⟨hx, hb, hml, hown, hts⟩ (c_X7_dialAt hxo l D q V J R nP nD x hX hq) hxo (cwV 1 hts gX7_mark_X7_dialAt rfl rfl rfl (by decide +kernel) ⟨Nat.le_of_ble_eq_true rfl, Nat.le_of_ble_eq_true rfl⟩) hK hW hS hA hXs (w_rcv hK hW (hX.1 0 (by decide)).1 (hX.1 0 (by decide)).2.1 (by decide) rfl) rfl hl.1 rfl (Nat.le_of_ble_eq_true rfl) dX7_mark_2 ⟨Nat.zero_le _, Nat.zero_le _⟩) hW hS hA (fun H locs hW hS => ?_)
  by_cases hix : inx nD x
  · refine w_some (by rw [x_at, if_pos hix]) ?_
    refine lv_astore_n (lv' := [(3, .ref (ad (200 + x.toNatClampNeg))), (0, .ref (ad 0)), (1, .int x), (2, .int v)]) hx hb dX7_mark_5 rfl hl (by decide) rfl (fun ls hl => ?_)
    refine lv_aload_n hx hb dX7_mark_6 rfl (lv_at hl 0 rfl) ?_
    refine lv_ifnull hx hb dX7_mark_7 ?_
    refine lv_iload_n hx hb dX7_mark_10 rfl (lv_at hl 3 rfl) ?_
    refine lv_iconst (v := 0) hx hb dX7_mark_11 (by decide) ?_
    refine lv_iconst (v := 1) hx hb dX7_mark_12 (by decide) ?_
    refine w_ci (w_runS ⟨hx, hb, hml, hown, hts⟩ (c_X7_within hxo l D q V J R v 0 1 ) hxo (va_cwS 3 hts gX7_mark_X7_within rfl rfl rfl (by decide +kernel) ⟨Nat.le_of_ble_eq_true rfl, Nat.le_of_ble_eq_true rfl⟩) hK hW hS hA hXs rfl hl.1 rfl (Nat.le_of_ble_eq_true rfl) dX7_mark_13 ⟨Nat.zero_le _, Nat.zero_le _⟩) hW hS hA (fun H locs hW hS => ?_)
    refine w_ifnz (tgt := 22) hx hb dX7_mark_16 (by decide) (fun c_16 => ?_) (fun c_16 => ?_)
    · refine lv_aload_n hx hb dX7_mark_22 rfl (lv_at hl 0 rfl) ?_
      refine lv_iload_n hx hb dX7_mark_23 rfl (lv_at hl 3 rfl) ?_
      refine lv_iconst (v := 1) hx hb dX7_mark_24 (by decide) ?_
      refine lv_icmp_ne (tgt := 32) hx hb dX7_mark_25 (by decide) (fun c_25 => ?_) (fun c_25 => ?_)
      · refine lv_iconst (v := 0) hx hb dX7_mark_32 (by decide) ?_
        refine w_puti (ci := 1) (T := TX0) (ty := .boolean) hx hb hts hin_TX0 tyX0 tyX0_ok nmX0 hown hK hW hS (hX.2.2.2.1 x.toNatClampNeg (inx_c hix).1).1 (hX.2.2.2.1 x.toNatClampNeg (inx_c hix).1).2.1 (by decide) rfl 7 (by decide) (hts (.fieldLink RX7 181 "TownClocks$Dial" "marked" "Z") (by decide +kernel)) (fun _ h9 => h9) rfl (tyX0_ok 7 (by decide)) (by decide) rfl (Nat.le_of_ble_eq_true rfl) rfl dX7_mark_33 (fun H locs hW hS => ?_)
        rw [show u2 V (200 + x.toNatClampNeg) 7 0 = x_markV V nD x v from by simp only [x_markV, if_pos hix, if_pos c_16, if_neg c_25]] at hW
        refine lv_iconst (v := 0) hx hb dX7_mark_36 (by decide) ?_
        refine lv_istore (lv' := [(4, .int 0), (3, .ref (ad (200 + x.toNatClampNeg))), (0, .ref (ad 0)), (1, .int x), (2, .int v)]) hx hb dX7_mark_37 hl (by decide) rfl (fun ls hl => ?_)
        refine lv_iconst (v := 0) hx hb dX7_mark_39 (by decide) ?_
        refine lv_istore (lv' := [(5, .int 0), (4, .int 0), (3, .ref (ad (200 + x.toNatClampNeg))), (0, .ref (ad 0)), (1, .int x), (2, .int v)]) hx hb dX7_mark_40 hl (by decide) rfl (fun ls hl => ?_)
        exact JL nD 0 0 (by omega) hRV.symm hix c_16 _ _ _ hW hS (lv_sub hl [3, 1, 0] rfl)
      · refine lv_iconst (v := 1) hx hb dX7_mark_28 (by decide) ?_
        refine lv_goto (tgt := 33) hx hb dX7_mark_29 (by decide) ?_
        refine w_puti (ci := 1) (T := TX0) (ty := .boolean) hx hb hts hin_TX0 tyX0 tyX0_ok nmX0 hown hK hW hS (hX.2.2.2.1 x.toNatClampNeg (inx_c hix).1).1 (hX.2.2.2.1 x.toNatClampNeg (inx_c hix).1).2.1 (by decide) rfl 7 (by decide) (hts (.fieldLink RX7 181 "TownClocks$Dial" "marked" "Z") (by decide +kernel)) (fun _ h9 => h9) rfl (tyX0_ok 7 (by decide)) (by decide) rfl (Nat.le_of_ble_eq_true rfl) rfl dX7_mark_33 (fun H locs hW hS => ?_)
        rw [show u2 V (200 + x.toNatClampNeg) 7 1 = x_markV V nD x v from by simp only [x_markV, if_pos hix, if_pos c_16, if_pos c_25]] at hW
        refine lv_iconst (v := 0) hx hb dX7_mark_36 (by decide) ?_
        refine lv_istore (lv' := [(4, .int 0), (3, .ref (ad (200 + x.toNatClampNeg))), (0, .ref (ad 0)), (1, .int x), (2, .int v)]) hx hb dX7_mark_37 hl (by decide) rfl (fun ls hl => ?_)
        refine lv_iconst (v := 0) hx hb dX7_mark_39 (by decide) ?_
        refine lv_istore (lv' := [(5, .int 0), (4, .int 0), (3, .ref (ad (200 + x.toNatClampNeg))), (0, .ref (ad 0)), (1, .int x), (2, .int v)]) hx hb dX7_mark_40 hl (by decide) rfl (fun ls hl => ?_)
        exact JL nD 0 0 (by omega) hRV.symm hix c_16 _ _ _ hW hS (lv_sub hl [3, 1, 0] rfl)
    · refine lv_ldc (v := -1000001) hx hb hown (hts (.constant RX7 57 (-1000001)) (by decide +kernel)) dX7_mark_19 ?_
      exact w_iret hx hb hr hlk hW hS (by first | rfl | (simp only [x_mark, x_markV, if_pos hix, if_neg c_16, hix, c_16, ↓reduceIte]; done) | simp [bz, x_mark, x_markV, if_pos hix, if_neg c_16, hix, c_16]) (by first | rfl | (simp only [x_mark, x_markV, if_pos hix, if_neg c_16, hix, c_16, ↓reduceIte]; done) | simp [bz, x_mark, x_markV, if_pos hix, if_neg c_16, hix, c_16]) rfl rfl dX7_mark_21
  · refine w_none (by rw [x_at, if_neg hix]) ?_
    refine lv_astore_nN (lv' := [(3, .null), (0, .ref (ad 0)), (1, .int x), (2, .int v)]) hx hb dX7_mark_5 rfl hl (by decide) rfl (fun ls hl => ?_)
    refine lv_aload_nN hx hb dX7_mark_6 rfl (lv_at hl 0 rfl) ?_
    refine lv_ifnullN (tgt := 19) hx hb dX7_mark_7 (by decide) ?_
    refine lv_ldc (v := -1000001) hx hb hown (hts (.constant RX7 57 (-1000001)) (by decide +kernel)) dX7_mark_19 ?_
    exact w_iret hx hb hr hlk hW hS (by first | rfl | (simp only [x_mark, x_markV, if_neg hix, hix, ↓reduceIte]; done) | simp [bz, x_mark, x_markV, if_neg hix, hix]) (by first | rfl | (simp only [x_mark, x_markV, if_neg hix, hix, ↓reduceIte]; done) | simp [bz, x_mark, x_markV, if_neg hix, hix]) rfl rfl dX7_mark_21
set_option maxHeartbeats 4000000 in
set_option maxRecDepth 100000 in
theorem c_X7_count {X : (Nat → Prop) → State → Prop} (hxo : xok X) (l : Launch) (D : va_G) (q : Cq) {dm : List Nat} {kd ln ad : Nat → Nat} (V : Mv) (J : Mj) (R : Mr) (nP nD : Nat) (x : Int32) (hX : okX dm kd ln R nP nD) (hp : V 1 2 = nI nP) (hq : V 2 2 = nI nD)  : CtI X l yX7_count wsX7_count ({ frames := 4, cells := 0, slots := 0, locals := 87 }) D q dm kd ln ad V J R [.ref (ad 0), .int x] (x_count V nD x) (V) (J) (R) := by
  refine CtI_of (cc := cX7_count) (maxL := 2) (ret := (some .int)) (by decide +kernel) rfl (Nat.le_of_ble_eq_true rfl) ?_
  intro p e s m below meth c A hx hb hr hml hts hown hlk hmn hK hW hA hXs ls hl
  have hS : va_S A s.heap s.heap [] := va_S.rf
  have hl : lv_has ls 2 [(0, .ref (ad 0)), (1, .int x)] := hl
  have hin_TX7 : ∀ w ∈ u_ws RX7 TX7 8, w ∈ wsX7_count := by decide +kernel
  have hin_TX5 : ∀ w ∈ u_ws RX5 TX5 5, w ∈ wsX7_count := by decide +kernel
  refine lv_iload_n hx hb dX7_count_0 rfl (lv_at hl 1 rfl) ?_
  by_cases c_1_0 : x = 0
  · refine w_i c_1_0 ?_
    refine lv_tableIn (tgt := 48) hx hb dX7_count_1 (by decide) (by decide) (off := 47) (by decide) (by decide) ?_
    refine lv_aload_n hx hb dX7_count_48 rfl (lv_at hl 0 rfl) ?_
    refine w_getr (ci := 8) (T := TX7) hx hb hts hin_TX7 hown hK hW (hX.1 0 (by decide)).1 (hX.1 0 (by decide)).2.1 (by decide) rfl 0 (by decide) (hts (.fieldLink RX7 10 "TownClocks" "pipes" "Ljava/util/ArrayList;") (by decide +kernel)) (fun _ h9 => h9) rfl ((hX.1 0 (by decide)).2.2.2 0 1 rfl) dX7_count_49 ?_
    refine w_ci (w_runV ⟨hx, hb, hml, hown, hts⟩ (c_Jx4a65c_size_8abf5 hxo l D q V J R 1 (hX.1 1 (by decide)).1 (hX.1 1 (by decide)).2.1) hxo (cwV 0 hts gX7_count_Jx4a65c_size_8abf5 rfl rfl rfl (by decide +kernel) ⟨Nat.le_of_ble_eq_true rfl, Nat.le_of_ble_eq_true rfl⟩) hK hW hS hA hXs (w_rcv hK hW (hX.1 1 (by decide)).1 (hX.1 1 (by decide)).2.1 (by decide) rfl) rfl hl.1 rfl (Nat.le_of_ble_eq_true rfl) dX7_count_52 ⟨Nat.zero_le _, Nat.zero_le _⟩) hW hS hA (fun H locs hW hS => ?_)
    exact w_iret hx hb hr hlk hW hS (by first | rfl | (simp only [x_count, if_pos c_1_0, c_1_0, ↓reduceIte]; done) | simp [bz, x_count, if_pos c_1_0, c_1_0]) rfl rfl rfl dX7_count_55
  by_cases c_1_1 : x = 1
  · refine w_i c_1_1 ?_
    refine lv_tableIn (tgt := 56) hx hb dX7_count_1 (by decide) (by decide) (off := 55) (by decide) (by decide) ?_
    refine lv_aload_n hx hb dX7_count_56 rfl (lv_at hl 0 rfl) ?_
    refine w_getr (ci := 8) (T := TX7) hx hb hts hin_TX7 hown hK hW (hX.1 0 (by decide)).1 (hX.1 0 (by decide)).2.1 (by decide) rfl 1 (by decide) (hts (.fieldLink RX7 16 "TownClocks" "dials" "Ljava/util/ArrayList;") (by decide +kernel)) (fun _ h9 => h9) rfl ((hX.1 0 (by decide)).2.2.2 1 2 rfl) dX7_count_57 ?_
    refine w_ci (w_runV ⟨hx, hb, hml, hown, hts⟩ (c_Jx4a65c_size_8abf5 hxo l D q V J R 2 (hX.1 2 (by decide)).1 (hX.1 2 (by decide)).2.1) hxo (cwV 0 hts gX7_count_Jx4a65c_size_8abf5 rfl rfl rfl (by decide +kernel) ⟨Nat.le_of_ble_eq_true rfl, Nat.le_of_ble_eq_true rfl⟩) hK hW hS hA hXs (w_rcv hK hW (hX.1 2 (by decide)).1 (hX.1 2 (by decide)).2.1 (by decide) rfl) rfl hl.1 rfl (Nat.le_of_ble_eq_true rfl) dX7_count_60 ⟨Nat.zero_le _, Nat.zero_le _⟩) hW hS hA (fun H locs hW hS => ?_)
    exact w_iret hx hb hr hlk hW hS (by first | rfl | (simp only [x_count, if_neg c_1_0, if_pos c_1_1, c_1_0, c_1_1, ↓reduceIte]; done) | simp [bz, x_count, if_neg c_1_0, if_pos c_1_1, c_1_0, c_1_1]) rfl rfl rfl dX7_count_63
  by_cases c_1_2 : x = 2
  · refine w_i c_1_2 ?_
    refine lv_tableIn (tgt := 64) hx hb dX7_count_1 (by decide) (by decide) (off := 63) (by decide) (by decide) ?_
    refine lv_aload_n hx hb dX7_count_64 rfl (lv_at hl 0 rfl) ?_
    refine lv_iconst (v := 1) hx hb dX7_count_65 (by decide) ?_
    refine w_ci (w_runV ⟨hx, hb, hml, hown, hts⟩ (c_X7_countOfKind hxo l D q V J R nP nD 1 hX hp hq) hxo (cwV 1 hts gX7_count_X7_countOfKind rfl rfl rfl (by decide +kernel) ⟨Nat.le_of_ble_eq_true rfl, Nat.le_of_ble_eq_true rfl⟩) hK hW hS hA hXs (w_rcv hK hW (hX.1 0 (by decide)).1 (hX.1 0 (by decide)).2.1 (by decide) rfl) rfl hl.1 rfl (Nat.le_of_ble_eq_true rfl) dX7_count_66 ⟨Nat.zero_le _, Nat.zero_le _⟩) hW hS hA (fun H locs hW hS => ?_)
    exact w_iret hx hb hr hlk hW hS (by first | rfl | (simp only [x_count, if_neg c_1_0, if_neg c_1_1, if_pos c_1_2, c_1_0, c_1_1, c_1_2, ↓reduceIte]; done) | simp [bz, x_count, if_neg c_1_0, if_neg c_1_1, if_pos c_1_2, c_1_0, c_1_1, c_1_2]) rfl rfl rfl dX7_count_69
  by_cases c_1_3 : x = 3
  · refine w_i c_1_3 ?_
    refine lv_tableIn (tgt := 70) hx hb dX7_count_1 (by decide) (by decide) (off := 69) (by decide) (by decide) ?_
    refine lv_aload_n hx hb dX7_count_70 rfl (lv_at hl 0 rfl) ?_
    refine lv_iconst (v := 3) hx hb dX7_count_71 (by decide) ?_
    refine w_ci (w_runV ⟨hx, hb, hml, hown, hts⟩ (c_X7_countOfKind hxo l D q V J R nP nD 3 hX hp hq) hxo (cwV 1 hts gX7_count_X7_countOfKind rfl rfl rfl (by decide +kernel) ⟨Nat.le_of_ble_eq_true rfl, Nat.le_of_ble_eq_true rfl⟩) hK hW hS hA hXs (w_rcv hK hW (hX.1 0 (by decide)).1 (hX.1 0 (by decide)).2.1 (by decide) rfl) rfl hl.1 rfl (Nat.le_of_ble_eq_true rfl) dX7_count_72 ⟨Nat.zero_le _, Nat.zero_le _⟩) hW hS hA (fun H locs hW hS => ?_)
    exact w_iret hx hb hr hlk hW hS (by first | rfl | (simp only [x_count, if_neg c_1_0, if_neg c_1_1, if_neg c_1_2, if_pos c_1_3, c_1_0, c_1_1, c_1_2, c_1_3, ↓reduceIte]; done) | simp [bz, x_count, if_neg c_1_0, if_neg c_1_1, if_neg c_1_2, if_pos c_1_3, c_1_0, c_1_1, c_1_2, c_1_3]) rfl rfl rfl dX7_count_75
  by_cases c_1_4 : x = 4
  · refine w_i c_1_4 ?_
    refine lv_tableIn (tgt := 76) hx hb dX7_count_1 (by decide) (by decide) (off := 75) (by decide) (by decide) ?_
    refine lv_aload_n hx hb dX7_count_76 rfl (lv_at hl 0 rfl) ?_
    refine w_get (ci := 8) (T := TX7) hx hb hts hin_TX7 hown hK hW (hX.1 0 (by decide)).1 (hX.1 0 (by decide)).2.1 (by decide) rfl 7 (by decide) (hts (.fieldLink RX7 107 "TownClocks" "missedLatest" "I") (by decide +kernel)) (fun _ h9 => h9) rfl dX7_count_77 ?_
    exact w_iret hx hb hr hlk hW hS (by first | rfl | (simp only [x_count, if_neg c_1_0, if_neg c_1_1, if_neg c_1_2, if_neg c_1_3, if_pos c_1_4, c_1_0, c_1_1, c_1_2, c_1_3, c_1_4, ↓reduceIte]; done) | simp [bz, x_count, if_neg c_1_0, if_neg c_1_1, if_neg c_1_2, if_neg c_1_3, if_pos c_1_4, c_1_0, c_1_1, c_1_2, c_1_3, c_1_4]) rfl rfl rfl dX7_count_80
  by_cases c_1_5 : x = 5
  · refine w_i c_1_5 ?_
    refine lv_tableIn (tgt := 81) hx hb dX7_count_1 (by decide) (by decide) (off := 80) (by decide) (by decide) ?_
    refine lv_aload_n hx hb dX7_count_81 rfl (lv_at hl 0 rfl) ?_
    refine w_ci (w_runV ⟨hx, hb, hml, hown, hts⟩ (c_X7_countContracts hxo l D q V J R nP nD hX hp hq) hxo (cwV 0 hts gX7_count_X7_countContracts rfl rfl rfl (by decide +kernel) ⟨Nat.le_of_ble_eq_true rfl, Nat.le_of_ble_eq_true rfl⟩) hK hW hS hA hXs (w_rcv hK hW (hX.1 0 (by decide)).1 (hX.1 0 (by decide)).2.1 (by decide) rfl) rfl hl.1 rfl (Nat.le_of_ble_eq_true rfl) dX7_count_82 ⟨Nat.zero_le _, Nat.zero_le _⟩) hW hS hA (fun H locs hW hS => ?_)
    exact w_iret hx hb hr hlk hW hS (by first | rfl | (simp only [x_count, if_neg c_1_0, if_neg c_1_1, if_neg c_1_2, if_neg c_1_3, if_neg c_1_4, if_pos c_1_5, c_1_0, c_1_1, c_1_2, c_1_3, c_1_4, c_1_5, ↓reduceIte]; done) | simp [bz, x_count, if_neg c_1_0, if_neg c_1_1, if_neg c_1_2, if_neg c_1_3, if_neg c_1_4, if_pos c_1_5, c_1_0, c_1_1, c_1_2, c_1_3, c_1_4, c_1_5]) rfl rfl rfl dX7_count_85
  by_cases c_1_6 : x = 6
  · refine w_i c_1_6 ?_
    refine lv_tableIn (tgt := 86) hx hb dX7_count_1 (by decide) (by decide) (off := 85) (by decide) (by decide) ?_
    refine lv_aload_n hx hb dX7_count_86 rfl (lv_at hl 0 rfl) ?_
    refine w_ci (w_runV ⟨hx, hb, hml, hown, hts⟩ (c_X7_allLates hxo l D q V J R nP nD hX hp hq) hxo (cwV 0 hts gX7_count_X7_allLates rfl rfl rfl (by decide +kernel) ⟨Nat.le_of_ble_eq_true rfl, Nat.le_of_ble_eq_true rfl⟩) hK hW hS hA hXs (w_rcv hK hW (hX.1 0 (by decide)).1 (hX.1 0 (by decide)).2.1 (by decide) rfl) rfl hl.1 rfl (Nat.le_of_ble_eq_true rfl) dX7_count_87 ⟨Nat.zero_le _, Nat.zero_le _⟩) hW hS hA (fun H locs hW hS => ?_)
    exact w_iret hx hb hr hlk hW hS (by first | rfl | (simp only [x_count, if_neg c_1_0, if_neg c_1_1, if_neg c_1_2, if_neg c_1_3, if_neg c_1_4, if_neg c_1_5, if_pos c_1_6, c_1_0, c_1_1, c_1_2, c_1_3, c_1_4, c_1_5, c_1_6, ↓reduceIte]; done) | simp [bz, x_count, if_neg c_1_0, if_neg c_1_1, if_neg c_1_2, if_neg c_1_3, if_neg c_1_4, if_neg c_1_5, if_pos c_1_6, c_1_0, c_1_1, c_1_2, c_1_3, c_1_4, c_1_5, c_1_6]) rfl rfl rfl dX7_count_90
  by_cases c_1_7 : x = 7
  · refine w_i c_1_7 ?_
    refine lv_tableIn (tgt := 91) hx hb dX7_count_1 (by decide) (by decide) (off := 90) (by decide) (by decide) ?_
    refine lv_aload_n hx hb dX7_count_91 rfl (lv_at hl 0 rfl) ?_
    refine w_getr (ci := 8) (T := TX7) hx hb hts hin_TX7 hown hK hW (hX.1 0 (by decide)).1 (hX.1 0 (by decide)).2.1 (by decide) rfl 5 (by decide) (hts (.fieldLink RX7 44 "TownClocks" "tape" "LTownClocks$Tape;") (by decide +kernel)) (fun _ h9 => h9) rfl ((hX.1 0 (by decide)).2.2.2 5 8 rfl) dX7_count_92 ?_
    refine w_get (ci := 6) (T := TX5) hx hb hts hin_TX5 hown hK hW (hX.1 8 (by decide)).1 (hX.1 8 (by decide)).2.1 (by decide) rfl 1 (by decide) (hts (.fieldLink RX7 202 "TownClocks$Tape" "length" "I") (by decide +kernel)) (fun _ h9 => h9) rfl dX7_count_95 ?_
    exact w_iret hx hb hr hlk hW hS (by first | rfl | (simp only [x_count, if_neg c_1_0, if_neg c_1_1, if_neg c_1_2, if_neg c_1_3, if_neg c_1_4, if_neg c_1_5, if_neg c_1_6, if_pos c_1_7, c_1_0, c_1_1, c_1_2, c_1_3, c_1_4, c_1_5, c_1_6, c_1_7, ↓reduceIte]; done) | simp [bz, x_count, if_neg c_1_0, if_neg c_1_1, if_neg c_1_2, if_neg c_1_3, if_neg c_1_4, if_neg c_1_5, if_neg c_1_6, if_pos c_1_7, c_1_0, c_1_1, c_1_2, c_1_3, c_1_4, c_1_5, c_1_6, c_1_7]) rfl rfl rfl dX7_count_98
  refine lv_tableOut (tgt := 99) hx hb dX7_count_1 (by have h0 := i32_neL c_1_0 (k := 0) (by decide); have h1 := i32_neL c_1_1 (k := 1) (by decide); have h2 := i32_neL c_1_2 (k := 2) (by decide); have h3 := i32_neL c_1_3 (k := 3) (by decide); have h4 := i32_neL c_1_4 (k := 4) (by decide); have h5 := i32_neL c_1_5 (k := 5) (by decide); have h6 := i32_neL c_1_6 (k := 6) (by decide); have h7 := i32_neL c_1_7 (k := 7) (by decide); omega) (by decide) ?_
  refine lv_ldc (v := -1000001) hx hb hown (hts (.constant RX7 57 (-1000001)) (by decide +kernel)) dX7_count_99 ?_
  exact w_iret hx hb hr hlk hW hS (by first | rfl | (simp only [x_count, if_neg c_1_0, if_neg c_1_1, if_neg c_1_2, if_neg c_1_3, if_neg c_1_4, if_neg c_1_5, if_neg c_1_6, if_neg c_1_7, c_1_0, c_1_1, c_1_2, c_1_3, c_1_4, c_1_5, c_1_6, c_1_7, ↓reduceIte]; done) | simp [bz, x_count, if_neg c_1_0, if_neg c_1_1, if_neg c_1_2, if_neg c_1_3, if_neg c_1_4, if_neg c_1_5, if_neg c_1_6, if_neg c_1_7, c_1_0, c_1_1, c_1_2, c_1_3, c_1_4, c_1_5, c_1_6, c_1_7]) rfl rfl rfl dX7_count_101
