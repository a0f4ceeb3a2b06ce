theorem u2_id {α : Type} {f : Nat → Nat → α} {k j : Nat} {x : α} (h : f k j = x) : u2 f k j x = f := by
  funext a b
  by_cases hab : a = k ∧ b = j
  · obtain ⟨rfl, rfl⟩ := hab
    rw [u2_ss, h]
  · rw [u2_un hab]
theorem u2_cm {α : Type} {f : Nat → Nat → α} {k j k' j' : Nat} {x y : α} (h : ¬ (k' = k ∧ j' = j)) : u2 (u2 f k j x) k' j' y = u2 (u2 f k' j' y) k j x := by
  funext a b
  by_cases h1 : a = k' ∧ b = j'
  · obtain ⟨rfl, rfl⟩ := h1
    rw [u2_ss, u2_un h, u2_ss]
  · rw [u2_un h1]
    by_cases h2 : a = k ∧ b = j
    · obtain ⟨rfl, rfl⟩ := h2
      rw [u2_ss, u2_ss]
    · rw [u2_un h2, u2_un h2, u2_un h1]
def m_by (V : Mv) (L t : Nat) : Int32 := if L ≤ t then -1000000 else V 1031 t
theorem m_nby {x : Int32} (h : inx 256 x) : ¬ x = -1000000 := by
  intro e
  rw [e] at h
  exact absurd h.1 (by decide)
def m_tkS (B : Nat → Int32) (L a : Nat) : Int32 := if L ≤ a then 1 else if 97 ≤ B a ∧ B a ≤ 122 then (if nI (tl B (L - a) a) - nI a ≤ 6 then 2 else 0) else if 48 ≤ B a ∧ B a ≤ 57 then (if nI (tf B (L - a) a) - nI a ≤ 4 then 3 else 0) else if B a = 59 then 4 else if B a = 60 then 4 else 0
def m_tokV (V : Mv) (L a : Nat) : Mv := u2 (u2 (u2 (u2 V 1000 37 (nI a)) 1000 35 (nI (x_tkE (V 1031) L a))) 1000 36 (m_tkS (V 1031) L a)) 1000 38 (nI (x_tkE (V 1031) L a))
def m_stp (V : Mv) (L p1 : Nat) : Mv := m_tokV V L (tb (V 1031) (L - p1) p1)
def m_bad (V : Mv) (a : Int32) : Mv := if V 1000 39 = 0 then u2 (u2 V 1000 39 a) 1000 40 (V 1000 37) else V
set_option maxHeartbeats 4000000 in
set_option maxRecDepth 100000 in
theorem c_X8_byteAt {X : (Nat → Prop) → State → Prop} (hxo : xok X) (l : Launch) (D : va_G) (q : Cq) {dm : List Nat} {kd ln ad : Nat → Nat} (V : Mv) (J : Mj) (R : Mr) (L t : Nat) (hM : okM dm kd ln R) (hsz : V 1000 34 = nI L) (hL3 : L ≤ 300) (htL : t ≤ L) : CtI X l yX8_byteAt wsX8_byteAt ({ frames := 0, cells := 0, slots := 0, locals := 0 }) D q dm kd ln ad V J R [.ref (ad 1000), .int (nI t)] (m_by V L t) (V) (J) (R) := by
  refine CtI_of (cc := cX8_byteAt) (maxL := 2) (ret := (some .int)) (by decide +kernel) rfl (Nat.le_of_ble_eq_true rfl) ?_
  intro p e s m below meth c A hx hb hr hml hts hown hlk hmn hK hW hA hXs ls hl
  have hS : va_S A s.heap s.heap [] := va_S.rf
  have hl : lv_has ls 2 [(0, .ref (ad 1000)), (1, .int (nI t))] := hl
  have hin_TX8 : ∀ w ∈ u_ws RX8 TX8 48, w ∈ wsX8_byteAt := by decide +kernel
  refine lv_iload_n hx hb dX8_byteAt_0 rfl (lv_at hl 1 rfl) ?_
  refine lv_aload_n hx hb dX8_byteAt_1 rfl (lv_at hl 0 rfl) ?_
  refine w_get (ci := 9) (T := TX8) hx hb hts hin_TX8 hown hK hW hM.1.1 hM.1.2 (by decide) rfl 34 (by decide) (hts (.fieldLink RX8 196 "TownClocksModel" "size" "I") (by decide +kernel)) (fun _ h9 => h9) rfl dX8_byteAt_2 ?_
  refine lv_icmp_ge (tgt := 17) hx hb dX8_byteAt_5 (by decide) (fun c_5 => ?_) (fun c_5 => ?_)
  · refine lv_ldc (v := -1000000) hx hb hown (hts (.constant RX8 106 (-1000000)) (by decide +kernel)) dX8_byteAt_17 ?_
    exact w_iret hx hb hr hlk hW hS (by rw [m_by, if_pos ((nI_leI (by omega) (by omega)).mp (by rw [← hsz]; exact c_5))]) rfl rfl rfl dX8_byteAt_19
  · refine lv_aload_n hx hb dX8_byteAt_8 rfl (lv_at hl 0 rfl) ?_
    refine w_getr (ci := 9) (T := TX8) hx hb hts hin_TX8 hown hK hW hM.1.1 hM.1.2 (by decide) rfl 31 (by decide) (hts (.fieldLink RX8 77 "TownClocksModel" "tape" "[I") (by decide +kernel)) (fun _ h9 => h9) rfl (mo_31 hM).2.2.2 dX8_byteAt_9 ?_
    refine lv_iload_n hx hb dX8_byteAt_12 rfl (lv_at hl 1 rfl) ?_
    refine w_ialdN (t := t) hx hb hK hW (mo_31 hM).1 (mo_31 hM).2.1 ⟨by rw [(mo_31 hM).2.2.1]; have h9 := c_5; rw [hsz] at h9; have h8 : ¬ L ≤ t := fun e => h9 (nI_le e (by omega)); omega, by omega⟩ dX8_byteAt_13 ?_
    refine lv_goto (tgt := 19) hx hb dX8_byteAt_14 (by decide) ?_
    exact w_iret hx hb hr hlk hW hS (by rw [m_by, if_neg (fun e => c_5 (by rw [hsz]; exact nI_le e (by omega)))]) rfl rfl rfl dX8_byteAt_19
set_option maxHeartbeats 4000000 in
set_option maxRecDepth 100000 in
theorem c_X8_isLetter {X : (Nat → Prop) → State → Prop} (hxo : xok X) (l : Launch) (D : va_G) (q : Cq) {dm : List Nat} {kd ln ad : Nat → Nat} (V : Mv) (J : Mj) (R : Mr) (b : Int32)  : CtI X l yX8_isLetter wsX8_isLetter ({ frames := 0, cells := 0, slots := 0, locals := 0 }) D q dm kd ln ad V J R [.int b] (bz (97 ≤ b ∧ b ≤ 122)) (V) (J) (R) := by
  refine CtI_of (cc := cX8_isLetter) (maxL := 1) (ret := (some .boolean)) (by decide +kernel) rfl (Nat.le_of_ble_eq_true rfl) ?_
  intro p e s m below meth c A hx hb hr hml hts hown hlk hmn hK hW hA hXs ls hl
  have hS : va_S A s.heap s.heap [] := va_S.rf
  have hl : lv_has ls 1 [(0, .int b)] := hl
  refine lv_iload_n hx hb dX8_isLetter_0 rfl (lv_at hl 0 rfl) ?_
  refine lv_bipush (v := 97) hx hb dX8_isLetter_1 (by decide) ?_
  refine lv_icmp_lt (tgt := 16) hx hb dX8_isLetter_3 (by decide) (fun c_3 => ?_) (fun c_3 => ?_)
  · refine lv_iconst (v := 0) hx hb dX8_isLetter_16 (by decide) ?_
    exact w_zret hx hb hr hlk hW hS (Or.inl rfl) (Eq.symm (bz_f (fun h => absurd c_3 (Int32.not_lt.mpr h.1)))) rfl rfl rfl dX8_isLetter_17
  · refine lv_iload_n hx hb dX8_isLetter_6 rfl (lv_at hl 0 rfl) ?_
    refine lv_bipush (v := 122) hx hb dX8_isLetter_7 (by decide) ?_
    refine lv_icmp_gt (tgt := 16) hx hb dX8_isLetter_9 (by decide) (fun c_9 => ?_) (fun c_9 => ?_)
    · refine lv_iconst (v := 0) hx hb dX8_isLetter_16 (by decide) ?_
      exact w_zret hx hb hr hlk hW hS (Or.inl rfl) (Eq.symm (bz_f (fun h => absurd c_9 (Int32.not_lt.mpr h.2)))) rfl rfl rfl dX8_isLetter_17
    · refine lv_iconst (v := 1) hx hb dX8_isLetter_12 (by decide) ?_
      refine lv_goto (tgt := 17) hx hb dX8_isLetter_13 (by decide) ?_
      exact w_zret hx hb hr hlk hW hS (Or.inr rfl) (Eq.symm (bz_t ⟨Int32.not_lt.mp c_3, Int32.not_lt.mp c_9⟩)) rfl rfl rfl dX8_isLetter_17
set_option maxHeartbeats 4000000 in
set_option maxRecDepth 100000 in
theorem c_X8_isFigure {X : (Nat → Prop) → State → Prop} (hxo : xok X) (l : Launch) (D : va_G) (q : Cq) {dm : List Nat} {kd ln ad : Nat → Nat} (V : Mv) (J : Mj) (R : Mr) (b : Int32)  : CtI X l yX8_isFigure wsX8_isFigure ({ frames := 0, cells := 0, slots := 0, locals := 0 }) D q dm kd ln ad V J R [.int b] (bz (48 ≤ b ∧ b ≤ 57)) (V) (J) (R) := by
  refine CtI_of (cc := cX8_isFigure) (maxL := 1) (ret := (some .boolean)) (by decide +kernel) rfl (Nat.le_of_ble_eq_true rfl) ?_
  intro p e s m below meth c A hx hb hr hml hts hown hlk hmn hK hW hA hXs ls hl
  have hS : va_S A s.heap s.heap [] := va_S.rf
  have hl : lv_has ls 1 [(0, .int b)] := hl
  refine lv_iload_n hx hb dX8_isFigure_0 rfl (lv_at hl 0 rfl) ?_
  refine lv_bipush (v := 48) hx hb dX8_isFigure_1 (by decide) ?_
  refine lv_icmp_lt (tgt := 16) hx hb dX8_isFigure_3 (by decide) (fun c_3 => ?_) (fun c_3 => ?_)
  · refine lv_iconst (v := 0) hx hb dX8_isFigure_16 (by decide) ?_
    exact w_zret hx hb hr hlk hW hS (Or.inl rfl) (Eq.symm (bz_f (fun h => absurd c_3 (Int32.not_lt.mpr h.1)))) rfl rfl rfl dX8_isFigure_17
  · refine lv_iload_n hx hb dX8_isFigure_6 rfl (lv_at hl 0 rfl) ?_
    refine lv_bipush (v := 57) hx hb dX8_isFigure_7 (by decide) ?_
    refine lv_icmp_gt (tgt := 16) hx hb dX8_isFigure_9 (by decide) (fun c_9 => ?_) (fun c_9 => ?_)
    · refine lv_iconst (v := 0) hx hb dX8_isFigure_16 (by decide) ?_
      exact w_zret hx hb hr hlk hW hS (Or.inl rfl) (Eq.symm (bz_f (fun h => absurd c_9 (Int32.not_lt.mpr h.2)))) rfl rfl rfl dX8_isFigure_17
    · refine lv_iconst (v := 1) hx hb dX8_isFigure_12 (by decide) ?_
      refine lv_goto (tgt := 17) hx hb dX8_isFigure_13 (by decide) ?_
      exact w_zret hx hb hr hlk hW hS (Or.inr rfl) (Eq.symm (bz_t ⟨Int32.not_lt.mp c_3, Int32.not_lt.mp c_9⟩)) rfl rfl rfl dX8_isFigure_17
set_option maxHeartbeats 4000000 in
set_option maxRecDepth 100000 in
theorem c_X8_step {X : (Nat → Prop) → State → Prop} (hxo : xok X) (l : Launch) (D : va_G) (q : Cq) {dm : List Nat} {kd ln ad : Nat → Nat} (V : Mv) (J : Mj) (R : Mr) (L p1 : Nat) (hM : okM dm kd ln R) (hsz : V 1000 34 = nI L) (hL3 : L ≤ 300) (hat : V 1000 35 = nI p1) (hpL : p1 ≤ L) (hby : ∀ t, t < L → inx 256 (V 1031 t)) : CtV X l yX8_step wsX8_step ({ frames := 1, cells := 0, slots := 0, locals := 21 }) D q dm kd ln ad V J R [.ref (ad 1000)] (m_stp V L p1) (J) (R) := by
  refine CtV_of (cc := cX8_step) (maxL := 2) (ret := none) (by decide +kernel) rfl (Nat.le_of_ble_eq_true rfl) ?_
  intro p e s m below meth c A hx hb hr hml hts hown hlk hmn hK hW hA hXs ls hl
  have hS : va_S A s.heap s.heap [] := va_S.rf
  have hl : lv_has ls 2 [(0, .ref (ad 1000))] := hl
  have hin_TX8 : ∀ w ∈ u_ws RX8 TX8 48, w ∈ wsX8_step := by decide +kernel
  obtain ⟨F, hFe⟩ : ∃ r, r = tb (V 1031) (L - p1) p1 := ⟨_, rfl⟩
  obtain ⟨G1, hG1e⟩ : ∃ r, r = tl (V 1031) (L - F) F := ⟨_, rfl⟩
  obtain ⟨G2, hG2e⟩ : ∃ r, r = tf (V 1031) (L - F) F := ⟨_, rfl⟩
  have hW : wok A D q dm kd ln ad (u2 V 1000 35 (nI p1)) J R s.heap := by rw [u2_id hat]; exact hW
  have J77 : ∀ n : Nat, ∀ (t : Nat) (hn : t + n = L) (hG : tl (V 1031) n t = G1) (hFL : F < L) (hls : 97 ≤ V 1031 F ∧ V 1031 F ≤ 122) (H : Heap) (locs : List Loc) (ls : Array Slot), wok A D q dm kd ln ad (u2 (u2 V 1000 37 (nI F)) 1000 35 (nI t)) J R H → va_S A s.heap H locs → lv_has ls 2 [(0, .ref (ad 1000))] → W p l e ({ frames := 1, cells := 0, slots := 0, locals := 21 }) s m ([.ref (ad 1000)] : List Value).toArray below meth c H locs 0 0 (MQ below (QV D q dm kd ln ad (m_stp V L p1) (J) (R) A) ([.ref (ad 1000)] : List Value).toArray s 0 0 A) (F0 m 77 ls []) := by
    intro n
    induction n with
    | zero =>
      intro t hn hG hFL hls H locs ls hW hS hl
      refine lv_aload_n hx hb dX8_step_77 rfl (lv_at hl 0 rfl) ?_
      refine lv_aload_n hx hb dX8_step_78 rfl (lv_at hl 0 rfl) ?_
      refine w_get (ci := 9) (T := TX8) hx hb hts hin_TX8 hown hK hW hM.1.1 hM.1.2 (by decide) rfl 35 (by decide) (hts (.fieldLink RX8 198 "TownClocksModel" "at" "I") (by decide +kernel)) (fun _ h9 => h9) rfl dX8_step_79 ?_
      refine w_i (by rw [u2_ss]) ?_
      refine w_ci (w_runV ⟨hx, hb, hml, hown, hts⟩ (c_X8_byteAt hxo l D q (u2 (u2 V 1000 37 (nI F)) 1000 35 (nI t)) J R L t hM (by rw [u2_sn (by decide), u2_sn (by decide)]; exact hsz) hL3 (by omega)) hxo (cwV 1 hts gX8_step_X8_byteAt rfl rfl rfl (by decide +kernel) ⟨Nat.le_of_ble_eq_true rfl, Nat.le_of_ble_eq_true rfl⟩) hK hW hS hA hXs (w_rcv hK hW hM.1.1 hM.1.2 (by decide) rfl) rfl hl.1 rfl (Nat.le_of_ble_eq_true rfl) dX8_step_82 ⟨Nat.zero_le _, Nat.zero_le _⟩) hW hS hA (fun H locs hW hS => ?_)
      refine w_i (show _ = (-1000000 : Int32) from by rw [m_by, if_pos (by omega)]) ?_
      refine w_ci (w_runS ⟨hx, hb, hml, hown, hts⟩ (c_X8_isLetter hxo l D q (u2 (u2 V 1000 37 (nI F)) 1000 35 (nI t)) J R (-1000000) ) hxo (va_cwS 1 hts gX8_step_X8_isLetter rfl rfl rfl (by decide +kernel) ⟨Nat.le_of_ble_eq_true rfl, Nat.le_of_ble_eq_true rfl⟩) hK hW hS hA hXs rfl hl.1 rfl (Nat.le_of_ble_eq_true rfl) dX8_step_85 ⟨Nat.zero_le _, Nat.zero_le _⟩) hW hS hA (fun H locs hW hS => ?_)
      refine w_ifz (tgt := 104) hx hb dX8_step_88 (by decide) (fun c_88 => ?_) (fun c_88 => ?_)
      · refine lv_aload_n hx hb dX8_step_104 rfl (lv_at hl 0 rfl) ?_
        refine lv_aload_n hx hb dX8_step_105 rfl (lv_at hl 0 rfl) ?_
        refine w_get (ci := 9) (T := TX8) hx hb hts hin_TX8 hown hK hW hM.1.1 hM.1.2 (by decide) rfl 35 (by decide) (hts (.fieldLink RX8 198 "TownClocksModel" "at" "I") (by decide +kernel)) (fun _ h9 => h9) rfl dX8_step_106 ?_
        refine w_i (by rw [u2_ss]) ?_
        refine lv_aload_n hx hb dX8_step_109 rfl (lv_at hl 0 rfl) ?_
        refine w_get (ci := 9) (T := TX8) hx hb hts hin_TX8 hown hK hW hM.1.1 hM.1.2 (by decide) rfl 37 (by decide) (hts (.fieldLink RX8 204 "TownClocksModel" "place" "I") (by decide +kernel)) (fun _ h9 => h9) rfl dX8_step_110 ?_
        refine w_i (by rw [u2_sn (by decide), u2_ss]) ?_
        refine lv_isub hx hb dX8_step_113 ?_
        refine lv_bipush (v := 6) hx hb dX8_step_114 (by decide) ?_
        refine lv_icmp_le (tgt := 123) hx hb dX8_step_116 (by decide) (fun c_116 => ?_) (fun c_116 => ?_)
        · refine lv_iconst (v := 2) hx hb dX8_step_123 (by decide) ?_
          refine w_puti (ci := 9) (T := TX8) (ty := .int) hx hb hts hin_TX8 tyX8 tyX8_ok nmX8 hown hK hW hS hM.1.1 hM.1.2 (by decide) rfl 36 (by decide) (hts (.fieldLink RX8 207 "TownClocksModel" "sort" "I") (by decide +kernel)) (fun _ h9 => h9) rfl (tyX8_ok 36 (by decide)) rfl rfl (Nat.le_of_ble_eq_true rfl) rfl dX8_step_124 (fun H locs hW hS => ?_)
          refine lv_goto (tgt := 220) hx hb dX8_step_127 (by decide) ?_
          refine lv_aload_n hx hb dX8_step_220 rfl (lv_at hl 0 rfl) ?_
          refine lv_aload_n hx hb dX8_step_221 rfl (lv_at hl 0 rfl) ?_
          refine w_get (ci := 9) (T := TX8) hx hb hts hin_TX8 hown hK hW hM.1.1 hM.1.2 (by decide) rfl 35 (by decide) (hts (.fieldLink RX8 198 "TownClocksModel" "at" "I") (by decide +kernel)) (fun _ h9 => h9) rfl dX8_step_222 ?_
          refine w_i (by rw [u2_sn (by decide), u2_ss]) ?_
          refine w_puti (ci := 9) (T := TX8) (ty := .int) hx hb hts hin_TX8 tyX8 tyX8_ok nmX8 hown hK hW hS hM.1.1 hM.1.2 (by decide) rfl 38 (by decide) (hts (.fieldLink RX8 216 "TownClocksModel" "end" "I") (by decide +kernel)) (fun _ h9 => h9) rfl (tyX8_ok 38 (by decide)) rfl rfl (Nat.le_of_ble_eq_true rfl) rfl dX8_step_225 (fun H locs hW hS => ?_)
          exact w_vret hx hb hr hlk hW hS (by have htG : t = G1 := hG; subst htG; rw [m_stp, ← hFe]; simp only [m_tokV, x_tkE, m_tkS, if_neg (show ¬ L ≤ F by omega), if_pos hls, ← hG1e, if_pos c_116]) rfl rfl dX8_step_228
        · refine lv_iconst (v := 0) hx hb dX8_step_119 (by decide) ?_
          refine lv_goto (tgt := 124) hx hb dX8_step_120 (by decide) ?_
          refine w_puti (ci := 9) (T := TX8) (ty := .int) hx hb hts hin_TX8 tyX8 tyX8_ok nmX8 hown hK hW hS hM.1.1 hM.1.2 (by decide) rfl 36 (by decide) (hts (.fieldLink RX8 207 "TownClocksModel" "sort" "I") (by decide +kernel)) (fun _ h9 => h9) rfl (tyX8_ok 36 (by decide)) rfl rfl (Nat.le_of_ble_eq_true rfl) rfl dX8_step_124 (fun H locs hW hS => ?_)
          refine lv_goto (tgt := 220) hx hb dX8_step_127 (by decide) ?_
          refine lv_aload_n hx hb dX8_step_220 rfl (lv_at hl 0 rfl) ?_
          refine lv_aload_n hx hb dX8_step_221 rfl (lv_at hl 0 rfl) ?_
          refine w_get (ci := 9) (T := TX8) hx hb hts hin_TX8 hown hK hW hM.1.1 hM.1.2 (by decide) rfl 35 (by decide) (hts (.fieldLink RX8 198 "TownClocksModel" "at" "I") (by decide +kernel)) (fun _ h9 => h9) rfl dX8_step_222 ?_
          refine w_i (by rw [u2_sn (by decide), u2_ss]) ?_
          refine w_puti (ci := 9) (T := TX8) (ty := .int) hx hb hts hin_TX8 tyX8 tyX8_ok nmX8 hown hK hW hS hM.1.1 hM.1.2 (by decide) rfl 38 (by decide) (hts (.fieldLink RX8 216 "TownClocksModel" "end" "I") (by decide +kernel)) (fun _ h9 => h9) rfl (tyX8_ok 38 (by decide)) rfl rfl (Nat.le_of_ble_eq_true rfl) rfl dX8_step_225 (fun H locs hW hS => ?_)
          exact w_vret hx hb hr hlk hW hS (by have htG : t = G1 := hG; subst htG; rw [m_stp, ← hFe]; simp only [m_tokV, x_tkE, m_tkS, if_neg (show ¬ L ≤ F by omega), if_pos hls, ← hG1e, if_neg c_116]) rfl rfl dX8_step_228
      · exact absurd c_88 (by decide)
    | succ n ih =>
      intro t hn hG hFL hls H locs ls hW hS hl
      refine lv_aload_n hx hb dX8_step_77 rfl (lv_at hl 0 rfl) ?_
      refine lv_aload_n hx hb dX8_step_78 rfl (lv_at hl 0 rfl) ?_
      refine w_get (ci := 9) (T := TX8) hx hb hts hin_TX8 hown hK hW hM.1.1 hM.1.2 (by decide) rfl 35 (by decide) (hts (.fieldLink RX8 198 "TownClocksModel" "at" "I") (by decide +kernel)) (fun _ h9 => h9) rfl dX8_step_79 ?_
      refine w_i (by rw [u2_ss]) ?_
      refine w_ci (w_runV ⟨hx, hb, hml, hown, hts⟩ (c_X8_byteAt hxo l D q (u2 (u2 V 1000 37 (nI F)) 1000 35 (nI t)) J R L t hM (by rw [u2_sn (by decide), u2_sn (by decide)]; exact hsz) hL3 (by omega)) hxo (cwV 1 hts gX8_step_X8_byteAt rfl rfl rfl (by decide +kernel) ⟨Nat.le_of_ble_eq_true rfl, Nat.le_of_ble_eq_true rfl⟩) hK hW hS hA hXs (w_rcv hK hW hM.1.1 hM.1.2 (by decide) rfl) rfl hl.1 rfl (Nat.le_of_ble_eq_true rfl) dX8_step_82 ⟨Nat.zero_le _, Nat.zero_le _⟩) hW hS hA (fun H locs hW hS => ?_)
      refine w_i (show _ = V 1031 t from by rw [m_by, if_neg (by omega)]; rfl) ?_
      refine w_ci (w_runS ⟨hx, hb, hml, hown, hts⟩ (c_X8_isLetter hxo l D q (u2 (u2 V 1000 37 (nI F)) 1000 35 (nI t)) J R (V 1031 t) ) hxo (va_cwS 1 hts gX8_step_X8_isLetter rfl rfl rfl (by decide +kernel) ⟨Nat.le_of_ble_eq_true rfl, Nat.le_of_ble_eq_true rfl⟩) hK hW hS hA hXs rfl hl.1 rfl (Nat.le_of_ble_eq_true rfl) dX8_step_85 ⟨Nat.zero_le _, Nat.zero_le _⟩) hW hS hA (fun H locs hW hS => ?_)
      refine w_ifz (tgt := 104) hx hb dX8_step_88 (by decide) (fun c_88 => ?_) (fun c_88 => ?_)
      · refine lv_aload_n hx hb dX8_step_104 rfl (lv_at hl 0 rfl) ?_
        refine lv_aload_n hx hb dX8_step_105 rfl (lv_at hl 0 rfl) ?_
        refine w_get (ci := 9) (T := TX8) hx hb hts hin_TX8 hown hK hW hM.1.1 hM.1.2 (by decide) rfl 35 (by decide) (hts (.fieldLink RX8 198 "TownClocksModel" "at" "I") (by decide +kernel)) (fun _ h9 => h9) rfl dX8_step_106 ?_
        refine w_i (by rw [u2_ss]) ?_
        refine lv_aload_n hx hb dX8_step_109 rfl (lv_at hl 0 rfl) ?_
        refine w_get (ci := 9) (T := TX8) hx hb hts hin_TX8 hown hK hW hM.1.1 hM.1.2 (by decide) rfl 37 (by decide) (hts (.fieldLink RX8 204 "TownClocksModel" "place" "I") (by decide +kernel)) (fun _ h9 => h9) rfl dX8_step_110 ?_
        refine w_i (by rw [u2_sn (by decide), u2_ss]) ?_
        refine lv_isub hx hb dX8_step_113 ?_
        refine lv_bipush (v := 6) hx hb dX8_step_114 (by decide) ?_
        refine lv_icmp_le (tgt := 123) hx hb dX8_step_116 (by decide) (fun c_116 => ?_) (fun c_116 => ?_)
        · refine lv_iconst (v := 2) hx hb dX8_step_123 (by decide) ?_
          refine w_puti (ci := 9) (T := TX8) (ty := .int) hx hb hts hin_TX8 tyX8 tyX8_ok nmX8 hown hK hW hS hM.1.1 hM.1.2 (by decide) rfl 36 (by decide) (hts (.fieldLink RX8 207 "TownClocksModel" "sort" "I") (by decide +kernel)) (fun _ h9 => h9) rfl (tyX8_ok 36 (by decide)) rfl rfl (Nat.le_of_ble_eq_true rfl) rfl dX8_step_124 (fun H locs hW hS => ?_)
          refine lv_goto (tgt := 220) hx hb dX8_step_127 (by decide) ?_
          refine lv_aload_n hx hb dX8_step_220 rfl (lv_at hl 0 rfl) ?_
          refine lv_aload_n hx hb dX8_step_221 rfl (lv_at hl 0 rfl) ?_
          refine w_get (ci := 9) (T := TX8) hx hb hts hin_TX8 hown hK hW hM.1.1 hM.1.2 (by decide) rfl 35 (by decide) (hts (.fieldLink RX8 198 "TownClocksModel" "at" "I") (by decide +kernel)) (fun _ h9 => h9) rfl dX8_step_222 ?_
          refine w_i (by rw [u2_sn (by decide), u2_ss]) ?_
          refine w_puti (ci := 9) (T := TX8) (ty := .int) hx hb hts hin_TX8 tyX8 tyX8_ok nmX8 hown hK hW hS hM.1.1 hM.1.2 (by decide) rfl 38 (by decide) (hts (.fieldLink RX8 216 "TownClocksModel" "end" "I") (by decide +kernel)) (fun _ h9 => h9) rfl (tyX8_ok 38 (by decide)) rfl rfl (Nat.le_of_ble_eq_true rfl) rfl dX8_step_225 (fun H locs hW hS => ?_)
          exact w_vret hx hb hr hlk hW hS (by have htG : t = G1 := (by rw [← hG, tl, if_neg c_88]); subst htG; rw [m_stp, ← hFe]; simp only [m_tokV, x_tkE, m_tkS, if_neg (show ¬ L ≤ F by omega), if_pos hls, ← hG1e, if_pos c_116]) rfl rfl dX8_step_228
        · refine lv_iconst (v := 0) hx hb dX8_step_119 (by decide) ?_
          refine lv_goto (tgt := 124) hx hb dX8_step_120 (by decide) ?_
          refine w_puti (ci := 9) (T := TX8) (ty := .int) hx hb hts hin_TX8 tyX8 tyX8_ok nmX8 hown hK hW hS hM.1.1 hM.1.2 (by decide) rfl 36 (by decide) (hts (.fieldLink RX8 207 "TownClocksModel" "sort" "I") (by decide +kernel)) (fun _ h9 => h9) rfl (tyX8_ok 36 (by decide)) rfl rfl (Nat.le_of_ble_eq_true rfl) rfl dX8_step_124 (fun H locs hW hS => ?_)
          refine lv_goto (tgt := 220) hx hb dX8_step_127 (by decide) ?_
          refine lv_aload_n hx hb dX8_step_220 rfl (lv_at hl 0 rfl) ?_
          refine lv_aload_n hx hb dX8_step_221 rfl (lv_at hl 0 rfl) ?_
          refine w_get (ci := 9) (T := TX8) hx hb hts hin_TX8 hown hK hW hM.1.1 hM.1.2 (by decide) rfl 35 (by decide) (hts (.fieldLink RX8 198 "TownClocksModel" "at" "I") (by decide +kernel)) (fun _ h9 => h9) rfl dX8_step_222 ?_
          refine w_i (by rw [u2_sn (by decide), u2_ss]) ?_
          refine w_puti (ci := 9) (T := TX8) (ty := .int) hx hb hts hin_TX8 tyX8 tyX8_ok nmX8 hown hK hW hS hM.1.1 hM.1.2 (by decide) rfl 38 (by decide) (hts (.fieldLink RX8 216 "TownClocksModel" "end" "I") (by decide +kernel)) (fun _ h9 => h9) rfl (tyX8_ok 38 (by decide)) rfl rfl (Nat.le_of_ble_eq_true rfl) rfl dX8_step_225 (fun H locs hW hS => ?_)
          exact w_vret hx hb hr hlk hW hS (by have htG : t = G1 := (by rw [← hG, tl, if_neg c_88]); subst htG; rw [m_stp, ← hFe]; simp only [m_tokV, x_tkE, m_tkS, if_neg (show ¬ L ≤ F by omega), if_pos hls, ← hG1e, if_neg c_116]) rfl rfl dX8_step_228
      · refine lv_aload_n hx hb dX8_step_91 rfl (lv_at hl 0 rfl) ?_
        refine lv_dup hx hb dX8_step_92 rfl ?_
        refine w_get (ci := 9) (T := TX8) hx hb hts hin_TX8 hown hK hW hM.1.1 hM.1.2 (by decide) rfl 35 (by decide) (hts (.fieldLink RX8 198 "TownClocksModel" "at" "I") (by decide +kernel)) (fun _ h9 => h9) rfl dX8_step_93 ?_
        refine w_i (by rw [u2_ss]) ?_
        refine lv_iconst (v := 1) hx hb dX8_step_96 (by decide) ?_
        refine lv_iadd hx hb dX8_step_97 ?_
        refine w_puti (ci := 9) (T := TX8) (ty := .int) hx hb hts hin_TX8 tyX8 tyX8_ok nmX8 hown hK hW hS hM.1.1 hM.1.2 (by decide) rfl 35 (by decide) (hts (.fieldLink RX8 198 "TownClocksModel" "at" "I") (by decide +kernel)) (fun _ h9 => h9) rfl (tyX8_ok 35 (by decide)) rfl rfl (Nat.le_of_ble_eq_true rfl) rfl dX8_step_98 (fun H locs hW hS => ?_)
        rw [u2_uu, nI_1] at hW
        refine lv_goto (tgt := 77) hx hb dX8_step_101 (by decide) ?_
        exact ih (t + 1) (by omega) (by have h := hG; simp only [tl, if_pos c_88] at h; exact h) hFL hls _ _ _ hW hS (lv_sub hl [0] rfl)
  have J137 : ∀ n : Nat, ∀ (t : Nat) (hn : t + n = L) (hG : tf (V 1031) n t = G2) (hFL : F < L) (hls : (¬ (97 ≤ V 1031 F ∧ V 1031 F ≤ 122)) ∧ (48 ≤ V 1031 F ∧ V 1031 F ≤ 57)) (H : Heap) (locs : List Loc) (ls : Array Slot), wok A D q dm kd ln ad (u2 (u2 V 1000 37 (nI F)) 1000 35 (nI t)) J R H → va_S A s.heap H locs → lv_has ls 2 [(0, .ref (ad 1000))] → W p l e ({ frames := 1, cells := 0, slots := 0, locals := 21 }) s m ([.ref (ad 1000)] : List Value).toArray below meth c H locs 0 0 (MQ below (QV D q dm kd ln ad (m_stp V L p1) (J) (R) A) ([.ref (ad 1000)] : List Value).toArray s 0 0 A) (F0 m 137 ls []) := by
    intro n
    induction n with
    | zero =>
      intro t hn hG hFL hls H locs ls hW hS hl
      refine lv_aload_n hx hb dX8_step_137 rfl (lv_at hl 0 rfl) ?_
      refine lv_aload_n hx hb dX8_step_138 rfl (lv_at hl 0 rfl) ?_
      refine w_get (ci := 9) (T := TX8) hx hb hts hin_TX8 hown hK hW hM.1.1 hM.1.2 (by decide) rfl 35 (by decide) (hts (.fieldLink RX8 198 "TownClocksModel" "at" "I") (by decide +kernel)) (fun _ h9 => h9) rfl dX8_step_139 ?_
      refine w_i (by rw [u2_ss]) ?_
      refine w_ci (w_runV ⟨hx, hb, hml, hown, hts⟩ (c_X8_byteAt hxo l D q (u2 (u2 V 1000 37 (nI F)) 1000 35 (nI t)) J R L t hM (by rw [u2_sn (by decide), u2_sn (by decide)]; exact hsz) hL3 (by omega)) hxo (cwV 1 hts gX8_step_X8_byteAt rfl rfl rfl (by decide +kernel) ⟨Nat.le_of_ble_eq_true rfl, Nat.le_of_ble_eq_true rfl⟩) hK hW hS hA hXs (w_rcv hK hW hM.1.1 hM.1.2 (by decide) rfl) rfl hl.1 rfl (Nat.le_of_ble_eq_true rfl) dX8_step_142 ⟨Nat.zero_le _, Nat.zero_le _⟩) hW hS hA (fun H locs hW hS => ?_)
      refine w_i (show _ = (-1000000 : Int32) from by rw [m_by, if_pos (by omega)]) ?_
      refine w_ci (w_runS ⟨hx, hb, hml, hown, hts⟩ (c_X8_isFigure hxo l D q (u2 (u2 V 1000 37 (nI F)) 1000 35 (nI t)) J R (-1000000) ) hxo (va_cwS 1 hts gX8_step_X8_isFigure rfl rfl rfl (by decide +kernel) ⟨Nat.le_of_ble_eq_true rfl, Nat.le_of_ble_eq_true rfl⟩) hK hW hS hA hXs rfl hl.1 rfl (Nat.le_of_ble_eq_true rfl) dX8_step_145 ⟨Nat.zero_le _, Nat.zero_le _⟩) hW hS hA (fun H locs hW hS => ?_)
      refine w_ifz (tgt := 164) hx hb dX8_step_148 (by decide) (fun c_148 => ?_) (fun c_148 => ?_)
      · refine lv_aload_n hx hb dX8_step_164 rfl (lv_at hl 0 rfl) ?_
        refine lv_aload_n hx hb dX8_step_165 rfl (lv_at hl 0 rfl) ?_
        refine w_get (ci := 9) (T := TX8) hx hb hts hin_TX8 hown hK hW hM.1.1 hM.1.2 (by decide) rfl 35 (by decide) (hts (.fieldLink RX8 198 "TownClocksModel" "at" "I") (by decide +kernel)) (fun _ h9 => h9) rfl dX8_step_166 ?_
        refine w_i (by rw [u2_ss]) ?_
        refine lv_aload_n hx hb dX8_step_169 rfl (lv_at hl 0 rfl) ?_
        refine w_get (ci := 9) (T := TX8) hx hb hts hin_TX8 hown hK hW hM.1.1 hM.1.2 (by decide) rfl 37 (by decide) (hts (.fieldLink RX8 204 "TownClocksModel" "place" "I") (by decide +kernel)) (fun _ h9 => h9) rfl dX8_step_170 ?_
        refine w_i (by rw [u2_sn (by decide), u2_ss]) ?_
        refine lv_isub hx hb dX8_step_173 ?_
        refine lv_iconst (v := 4) hx hb dX8_step_174 (by decide) ?_
        refine lv_icmp_le (tgt := 182) hx hb dX8_step_175 (by decide) (fun c_175 => ?_) (fun c_175 => ?_)
        · refine lv_iconst (v := 3) hx hb dX8_step_182 (by decide) ?_
          refine w_puti (ci := 9) (T := TX8) (ty := .int) hx hb hts hin_TX8 tyX8 tyX8_ok nmX8 hown hK hW hS hM.1.1 hM.1.2 (by decide) rfl 36 (by decide) (hts (.fieldLink RX8 207 "TownClocksModel" "sort" "I") (by decide +kernel)) (fun _ h9 => h9) rfl (tyX8_ok 36 (by decide)) rfl rfl (Nat.le_of_ble_eq_true rfl) rfl dX8_step_183 (fun H locs hW hS => ?_)
          refine lv_goto (tgt := 220) hx hb dX8_step_186 (by decide) ?_
          refine lv_aload_n hx hb dX8_step_220 rfl (lv_at hl 0 rfl) ?_
          refine lv_aload_n hx hb dX8_step_221 rfl (lv_at hl 0 rfl) ?_
          refine w_get (ci := 9) (T := TX8) hx hb hts hin_TX8 hown hK hW hM.1.1 hM.1.2 (by decide) rfl 35 (by decide) (hts (.fieldLink RX8 198 "TownClocksModel" "at" "I") (by decide +kernel)) (fun _ h9 => h9) rfl dX8_step_222 ?_
          refine w_i (by rw [u2_sn (by decide), u2_ss]) ?_
          refine w_puti (ci := 9) (T := TX8) (ty := .int) hx hb hts hin_TX8 tyX8 tyX8_ok nmX8 hown hK hW hS hM.1.1 hM.1.2 (by decide) rfl 38 (by decide) (hts (.fieldLink RX8 216 "TownClocksModel" "end" "I") (by decide +kernel)) (fun _ h9 => h9) rfl (tyX8_ok 38 (by decide)) rfl rfl (Nat.le_of_ble_eq_true rfl) rfl dX8_step_225 (fun H locs hW hS => ?_)
          exact w_vret hx hb hr hlk hW hS (by have htG : t = G2 := hG; subst htG; rw [m_stp, ← hFe]; simp only [m_tokV, x_tkE, m_tkS, if_neg (show ¬ L ≤ F by omega), if_neg hls.1, if_pos hls.2, ← hG2e, if_pos c_175]) rfl rfl dX8_step_228
        · refine lv_iconst (v := 0) hx hb dX8_step_178 (by decide) ?_
          refine lv_goto (tgt := 183) hx hb dX8_step_179 (by decide) ?_
          refine w_puti (ci := 9) (T := TX8) (ty := .int) hx hb hts hin_TX8 tyX8 tyX8_ok nmX8 hown hK hW hS hM.1.1 hM.1.2 (by decide) rfl 36 (by decide) (hts (.fieldLink RX8 207 "TownClocksModel" "sort" "I") (by decide +kernel)) (fun _ h9 => h9) rfl (tyX8_ok 36 (by decide)) rfl rfl (Nat.le_of_ble_eq_true rfl) rfl dX8_step_183 (fun H locs hW hS => ?_)
          refine lv_goto (tgt := 220) hx hb dX8_step_186 (by decide) ?_
          refine lv_aload_n hx hb dX8_step_220 rfl (lv_at hl 0 rfl) ?_
          refine lv_aload_n hx hb dX8_step_221 rfl (lv_at hl 0 rfl) ?_
          refine w_get (ci := 9) (T := TX8) hx hb hts hin_TX8 hown hK hW hM.1.1 hM.1.2 (by decide) rfl 35 (by decide) (hts (.fieldLink RX8 198 "TownClocksModel" "at" "I") (by decide +kernel)) (fun _ h9 => h9) rfl dX8_step_222 ?_
          refine w_i (by rw [u2_sn (by decide), u2_ss]) ?_
          refine w_puti (ci := 9) (T := TX8) (ty := .int) hx hb hts hin_TX8 tyX8 tyX8_ok nmX8 hown hK hW hS hM.1.1 hM.1.2 (by decide) rfl 38 (by decide) (hts (.fieldLink RX8 216 "TownClocksModel" "end" "I") (by decide +kernel)) (fun _ h9 => h9) rfl (tyX8_ok 38 (by decide)) rfl rfl (Nat.le_of_ble_eq_true rfl) rfl dX8_step_225 (fun H locs hW hS => ?_)
          exact w_vret hx hb hr hlk hW hS (by have htG : t = G2 := hG; subst htG; rw [m_stp, ← hFe]; simp only [m_tokV, x_tkE, m_tkS, if_neg (show ¬ L ≤ F by omega), if_neg hls.1, if_pos hls.2, ← hG2e, if_neg c_175]) rfl rfl dX8_step_228
      · exact absurd c_148 (by decide)
    | succ n ih =>
      intro t hn hG hFL hls H locs ls hW hS hl
      refine lv_aload_n hx hb dX8_step_137 rfl (lv_at hl 0 rfl) ?_
      refine lv_aload_n hx hb dX8_step_138 rfl (lv_at hl 0 rfl) ?_
      refine w_get (ci := 9) (T := TX8) hx hb hts hin_TX8 hown hK hW hM.1.1 hM.1.2 (by decide) rfl 35 (by decide) (hts (.fieldLink RX8 198 "TownClocksModel" "at" "I") (by decide +kernel)) (fun _ h9 => h9) rfl dX8_step_139 ?_
      refine w_i (by rw [u2_ss]) ?_
      refine w_ci (w_runV ⟨hx, hb, hml, hown, hts⟩ (c_X8_byteAt hxo l D q (u2 (u2 V 1000 37 (nI F)) 1000 35 (nI t)) J R L t hM (by rw [u2_sn (by decide), u2_sn (by decide)]; exact hsz) hL3 (by omega)) hxo (cwV 1 hts gX8_step_X8_byteAt rfl rfl rfl (by decide +kernel) ⟨Nat.le_of_ble_eq_true rfl, Nat.le_of_ble_eq_true rfl⟩) hK hW hS hA hXs (w_rcv hK hW hM.1.1 hM.1.2 (by decide) rfl) rfl hl.1 rfl (Nat.le_of_ble_eq_true rfl) dX8_step_142 ⟨Nat.zero_le _, Nat.zero_le _⟩) hW hS hA (fun H locs hW hS => ?_)
      refine w_i (show _ = V 1031 t from by rw [m_by, if_neg (by omega)]; rfl) ?_
      refine w_ci (w_runS ⟨hx, hb, hml, hown, hts⟩ (c_X8_isFigure hxo l D q (u2 (u2 V 1000 37 (nI F)) 1000 35 (nI t)) J R (V 1031 t) ) hxo (va_cwS 1 hts gX8_step_X8_isFigure rfl rfl rfl (by decide +kernel) ⟨Nat.le_of_ble_eq_true rfl, Nat.le_of_ble_eq_true rfl⟩) hK hW hS hA hXs rfl hl.1 rfl (Nat.le_of_ble_eq_true rfl) dX8_step_145 ⟨Nat.zero_le _, Nat.zero_le _⟩) hW hS hA (fun H locs hW hS => ?_)
      refine w_ifz (tgt := 164) hx hb dX8_step_148 (by decide) (fun c_148 => ?_) (fun c_148 => ?_)
      · refine lv_aload_n hx hb dX8_step_164 rfl (lv_at hl 0 rfl) ?_
        refine lv_aload_n hx hb dX8_step_165 rfl (lv_at hl 0 rfl) ?_
        refine w_get (ci := 9) (T := TX8) hx hb hts hin_TX8 hown hK hW hM.1.1 hM.1.2 (by decide) rfl 35 (by decide) (hts (.fieldLink RX8 198 "TownClocksModel" "at" "I") (by decide +kernel)) (fun _ h9 => h9) rfl dX8_step_166 ?_
        refine w_i (by rw [u2_ss]) ?_
        refine lv_aload_n hx hb dX8_step_169 rfl (lv_at hl 0 rfl) ?_
        refine w_get (ci := 9) (T := TX8) hx hb hts hin_TX8 hown hK hW hM.1.1 hM.1.2 (by decide) rfl 37 (by decide) (hts (.fieldLink RX8 204 "TownClocksModel" "place" "I") (by decide +kernel)) (fun _ h9 => h9) rfl dX8_step_170 ?_
        refine w_i (by rw [u2_sn (by decide), u2_ss]) ?_
        refine lv_isub hx hb dX8_step_173 ?_
        refine lv_iconst (v := 4) hx hb dX8_step_174 (by decide) ?_
        refine lv_icmp_le (tgt := 182) hx hb dX8_step_175 (by decide) (fun c_175 => ?_) (fun c_175 => ?_)
        · refine lv_iconst (v := 3) hx hb dX8_step_182 (by decide) ?_
          refine w_puti (ci := 9) (T := TX8) (ty := .int) hx hb hts hin_TX8 tyX8 tyX8_ok nmX8 hown hK hW hS hM.1.1 hM.1.2 (by decide) rfl 36 (by decide) (hts (.fieldLink RX8 207 "TownClocksModel" "sort" "I") (by decide +kernel)) (fun _ h9 => h9) rfl (tyX8_ok 36 (by decide)) rfl rfl (Nat.le_of_ble_eq_true rfl) rfl dX8_step_183 (fun H locs hW hS => ?_)
          refine lv_goto (tgt := 220) hx hb dX8_step_186 (by decide) ?_
          refine lv_aload_n hx hb dX8_step_220 rfl (lv_at hl 0 rfl) ?_
          refine lv_aload_n hx hb dX8_step_221 rfl (lv_at hl 0 rfl) ?_
          refine w_get (ci := 9) (T := TX8) hx hb hts hin_TX8 hown hK hW hM.1.1 hM.1.2 (by decide) rfl 35 (by decide) (hts (.fieldLink RX8 198 "TownClocksModel" "at" "I") (by decide +kernel)) (fun _ h9 => h9) rfl dX8_step_222 ?_
          refine w_i (by rw [u2_sn (by decide), u2_ss]) ?_
          refine w_puti (ci := 9) (T := TX8) (ty := .int) hx hb hts hin_TX8 tyX8 tyX8_ok nmX8 hown hK hW hS hM.1.1 hM.1.2 (by decide) rfl 38 (by decide) (hts (.fieldLink RX8 216 "TownClocksModel" "end" "I") (by decide +kernel)) (fun _ h9 => h9) rfl (tyX8_ok 38 (by decide)) rfl rfl (Nat.le_of_ble_eq_true rfl) rfl dX8_step_225 (fun H locs hW hS => ?_)
          exact w_vret hx hb hr hlk hW hS (by have htG : t = G2 := (by rw [← hG, tf, if_neg c_148]); subst htG; rw [m_stp, ← hFe]; simp only [m_tokV, x_tkE, m_tkS, if_neg (show ¬ L ≤ F by omega), if_neg hls.1, if_pos hls.2, ← hG2e, if_pos c_175]) rfl rfl dX8_step_228
        · refine lv_iconst (v := 0) hx hb dX8_step_178 (by decide) ?_
          refine lv_goto (tgt := 183) hx hb dX8_step_179 (by decide) ?_
          refine w_puti (ci := 9) (T := TX8) (ty := .int) hx hb hts hin_TX8 tyX8 tyX8_ok nmX8 hown hK hW hS hM.1.1 hM.1.2 (by decide) rfl 36 (by decide) (hts (.fieldLink RX8 207 "TownClocksModel" "sort" "I") (by decide +kernel)) (fun _ h9 => h9) rfl (tyX8_ok 36 (by decide)) rfl rfl (Nat.le_of_ble_eq_true rfl) rfl dX8_step_183 (fun H locs hW hS => ?_)
          refine lv_goto (tgt := 220) hx hb dX8_step_186 (by decide) ?_
          refine lv_aload_n hx hb dX8_step_220 rfl (lv_at hl 0 rfl) ?_
          refine lv_aload_n hx hb dX8_step_221 rfl (lv_at hl 0 rfl) ?_
          refine w_get (ci := 9) (T := TX8) hx hb hts hin_TX8 hown hK hW hM.1.1 hM.1.2 (by decide) rfl 35 (by decide) (hts (.fieldLink RX8 198 "TownClocksModel" "at" "I") (by decide +kernel)) (fun _ h9 => h9) rfl dX8_step_222 ?_
          refine w_i (by rw [u2_sn (by decide), u2_ss]) ?_
          refine w_puti (ci := 9) (T := TX8) (ty := .int) hx hb hts hin_TX8 tyX8 tyX8_ok nmX8 hown hK hW hS hM.1.1 hM.1.2 (by decide) rfl 38 (by decide) (hts (.fieldLink RX8 216 "TownClocksModel" "end" "I") (by decide +kernel)) (fun _ h9 => h9) rfl (tyX8_ok 38 (by decide)) rfl rfl (Nat.le_of_ble_eq_true rfl) rfl dX8_step_225 (fun H locs hW hS => ?_)
          exact w_vret hx hb hr hlk hW hS (by have htG : t = G2 := (by rw [← hG, tf, if_neg c_148]); subst htG; rw [m_stp, ← hFe]; simp only [m_tokV, x_tkE, m_tkS, if_neg (show ¬ L ≤ F by omega), if_neg hls.1, if_pos hls.2, ← hG2e, if_neg c_175]) rfl rfl dX8_step_228
      · refine lv_aload_n hx hb dX8_step_151 rfl (lv_at hl 0 rfl) ?_
        refine lv_dup hx hb dX8_step_152 rfl ?_
        refine w_get (ci := 9) (T := TX8) hx hb hts hin_TX8 hown hK hW hM.1.1 hM.1.2 (by decide) rfl 35 (by decide) (hts (.fieldLink RX8 198 "TownClocksModel" "at" "I") (by decide +kernel)) (fun _ h9 => h9) rfl dX8_step_153 ?_
        refine w_i (by rw [u2_ss]) ?_
        refine lv_iconst (v := 1) hx hb dX8_step_156 (by decide) ?_
        refine lv_iadd hx hb dX8_step_157 ?_
        refine w_puti (ci := 9) (T := TX8) (ty := .int) hx hb hts hin_TX8 tyX8 tyX8_ok nmX8 hown hK hW hS hM.1.1 hM.1.2 (by decide) rfl 35 (by decide) (hts (.fieldLink RX8 198 "TownClocksModel" "at" "I") (by decide +kernel)) (fun _ h9 => h9) rfl (tyX8_ok 35 (by decide)) rfl rfl (Nat.le_of_ble_eq_true rfl) rfl dX8_step_158 (fun H locs hW hS => ?_)
        rw [u2_uu, nI_1] at hW
        refine lv_goto (tgt := 137) hx hb dX8_step_161 (by decide) ?_
        exact ih (t + 1) (by omega) (by have h := hG; simp only [tf, if_pos c_148] at h; exact h) hFL hls _ _ _ hW hS (lv_sub hl [0] rfl)
  have J39 : ∀ (t : Nat) (htL : t ≤ L) (hF2 : t = F) (H : Heap) (locs : List Loc) (ls : Array Slot), wok A D q dm kd ln ad (u2 V 1000 35 (nI t)) J R H → va_S A s.heap H locs → lv_has ls 2 [(0, .ref (ad 1000))] → W p l e ({ frames := 1, cells := 0, slots := 0, locals := 21 }) s m ([.ref (ad 1000)] : List Value).toArray below meth c H locs 0 0 (MQ below (QV D q dm kd ln ad (m_stp V L p1) (J) (R) A) ([.ref (ad 1000)] : List Value).toArray s 0 0 A) (F0 m 39 ls []) := by
    intro t htL hF2 H locs ls hW hS hl
    refine lv_aload_n hx hb dX8_step_39 rfl (lv_at hl 0 rfl) ?_
    refine lv_aload_n hx hb dX8_step_40 rfl (lv_at hl 0 rfl) ?_
    refine w_get (ci := 9) (T := TX8) hx hb hts hin_TX8 hown hK hW hM.1.1 hM.1.2 (by decide) rfl 35 (by decide) (hts (.fieldLink RX8 198 "TownClocksModel" "at" "I") (by decide +kernel)) (fun _ h9 => h9) rfl dX8_step_41 ?_
    refine w_i (by rw [u2_ss]) ?_
    refine w_puti (ci := 9) (T := TX8) (ty := .int) hx hb hts hin_TX8 tyX8 tyX8_ok nmX8 hown hK hW hS hM.1.1 hM.1.2 (by decide) rfl 37 (by decide) (hts (.fieldLink RX8 204 "TownClocksModel" "place" "I") (by decide +kernel)) (fun _ h9 => h9) rfl (tyX8_ok 37 (by decide)) rfl rfl (Nat.le_of_ble_eq_true rfl) rfl dX8_step_44 (fun H locs hW hS => ?_)
    rw [u2_cm (show ¬ ((1000 : Nat) = 1000 ∧ (37 : Nat) = 35) by decide)] at hW
    refine lv_aload_n hx hb dX8_step_47 rfl (lv_at hl 0 rfl) ?_
    refine lv_aload_n hx hb dX8_step_48 rfl (lv_at hl 0 rfl) ?_
    refine w_get (ci := 9) (T := TX8) hx hb hts hin_TX8 hown hK hW hM.1.1 hM.1.2 (by decide) rfl 35 (by decide) (hts (.fieldLink RX8 198 "TownClocksModel" "at" "I") (by decide +kernel)) (fun _ h9 => h9) rfl dX8_step_49 ?_
    refine w_i (by rw [u2_ss]) ?_
    refine w_ci (w_runV ⟨hx, hb, hml, hown, hts⟩ (c_X8_byteAt hxo l D q (u2 (u2 V 1000 37 (nI t)) 1000 35 (nI t)) J R L t hM (by rw [u2_sn (by decide), u2_sn (by decide)]; exact hsz) hL3 (by omega)) hxo (cwV 1 hts gX8_step_X8_byteAt rfl rfl rfl (by decide +kernel) ⟨Nat.le_of_ble_eq_true rfl, Nat.le_of_ble_eq_true rfl⟩) hK hW hS hA hXs (w_rcv hK hW hM.1.1 hM.1.2 (by decide) rfl) rfl hl.1 rfl (Nat.le_of_ble_eq_true rfl) dX8_step_52 ⟨Nat.zero_le _, Nat.zero_le _⟩) hW hS hA (fun H locs hW hS => ?_)
    by_cases hlt : t < L
    · refine w_i (show _ = V 1031 t from by rw [m_by, if_neg (by omega)]; rfl) ?_
      refine lv_istore_n (lv' := [(1, .int (V 1031 t)), (0, .ref (ad 1000))]) hx hb dX8_step_55 rfl hl (by decide) rfl (fun ls hl => ?_)
      refine lv_iload_n hx hb dX8_step_56 rfl (lv_at hl 0 rfl) ?_
      refine lv_ldc (v := -1000000) hx hb hown (hts (.constant RX8 106 (-1000000)) (by decide +kernel)) dX8_step_57 ?_
      refine lv_icmp_ne (tgt := 70) hx hb dX8_step_59 (by decide) (fun c_59 => ?_) (fun c_59 => ?_)
      · refine lv_iload_n hx hb dX8_step_70 rfl (lv_at hl 0 rfl) ?_
        refine w_ci (w_runS ⟨hx, hb, hml, hown, hts⟩ (c_X8_isLetter hxo l D q (u2 (u2 V 1000 37 (nI t)) 1000 35 (nI t)) J R (V 1031 t) ) hxo (va_cwS 1 hts gX8_step_X8_isLetter rfl rfl rfl (by decide +kernel) ⟨Nat.le_of_ble_eq_true rfl, Nat.le_of_ble_eq_true rfl⟩) hK hW hS hA hXs rfl hl.1 rfl (Nat.le_of_ble_eq_true rfl) dX8_step_71 ⟨Nat.zero_le _, Nat.zero_le _⟩) hW hS hA (fun H locs hW hS => ?_)
        refine w_ifz (tgt := 130) hx hb dX8_step_74 (by decide) (fun c_74 => ?_) (fun c_74 => ?_)
        · refine lv_iload_n hx hb dX8_step_130 rfl (lv_at hl 0 rfl) ?_
          refine w_ci (w_runS ⟨hx, hb, hml, hown, hts⟩ (c_X8_isFigure hxo l D q (u2 (u2 V 1000 37 (nI t)) 1000 35 (nI t)) J R (V 1031 t) ) hxo (va_cwS 1 hts gX8_step_X8_isFigure rfl rfl rfl (by decide +kernel) ⟨Nat.le_of_ble_eq_true rfl, Nat.le_of_ble_eq_true rfl⟩) hK hW hS hA hXs rfl hl.1 rfl (Nat.le_of_ble_eq_true rfl) dX8_step_131 ⟨Nat.zero_le _, Nat.zero_le _⟩) hW hS hA (fun H locs hW hS => ?_)
          refine w_ifz (tgt := 189) hx hb dX8_step_134 (by decide) (fun c_134 => ?_) (fun c_134 => ?_)
          · refine lv_aload_n hx hb dX8_step_189 rfl (lv_at hl 1 rfl) ?_
            refine lv_dup hx hb dX8_step_190 rfl ?_
            refine w_get (ci := 9) (T := TX8) hx hb hts hin_TX8 hown hK hW hM.1.1 hM.1.2 (by decide) rfl 35 (by decide) (hts (.fieldLink RX8 198 "TownClocksModel" "at" "I") (by decide +kernel)) (fun _ h9 => h9) rfl dX8_step_191 ?_
            refine w_i (by rw [u2_ss]) ?_
            refine lv_iconst (v := 1) hx hb dX8_step_194 (by decide) ?_
            refine lv_iadd hx hb dX8_step_195 ?_
            refine w_puti (ci := 9) (T := TX8) (ty := .int) hx hb hts hin_TX8 tyX8 tyX8_ok nmX8 hown hK hW hS hM.1.1 hM.1.2 (by decide) rfl 35 (by decide) (hts (.fieldLink RX8 198 "TownClocksModel" "at" "I") (by decide +kernel)) (fun _ h9 => h9) rfl (tyX8_ok 35 (by decide)) rfl rfl (Nat.le_of_ble_eq_true rfl) rfl dX8_step_196 (fun H locs hW hS => ?_)
            rw [u2_uu, nI_1] at hW
            refine lv_aload_n hx hb dX8_step_199 rfl (lv_at hl 1 rfl) ?_
            refine lv_iload_n hx hb dX8_step_200 rfl (lv_at hl 0 rfl) ?_
            refine lv_bipush (v := 59) hx hb dX8_step_201 (by decide) ?_
            refine lv_icmp_eq (tgt := 212) hx hb dX8_step_203 (by decide) (fun c_203 => ?_) (fun c_203 => ?_)
            · refine lv_iconst (v := 4) hx hb dX8_step_212 (by decide) ?_
              refine lv_goto (tgt := 217) hx hb dX8_step_213 (by decide) ?_
              refine w_puti (ci := 9) (T := TX8) (ty := .int) hx hb hts hin_TX8 tyX8 tyX8_ok nmX8 hown hK hW hS hM.1.1 hM.1.2 (by decide) rfl 36 (by decide) (hts (.fieldLink RX8 207 "TownClocksModel" "sort" "I") (by decide +kernel)) (fun _ h9 => h9) rfl (tyX8_ok 36 (by decide)) rfl rfl (Nat.le_of_ble_eq_true rfl) rfl dX8_step_217 (fun H locs hW hS => ?_)
              refine lv_aload_n hx hb dX8_step_220 rfl (lv_at hl 1 rfl) ?_
              refine lv_aload_n hx hb dX8_step_221 rfl (lv_at hl 1 rfl) ?_
              refine w_get (ci := 9) (T := TX8) hx hb hts hin_TX8 hown hK hW hM.1.1 hM.1.2 (by decide) rfl 35 (by decide) (hts (.fieldLink RX8 198 "TownClocksModel" "at" "I") (by decide +kernel)) (fun _ h9 => h9) rfl dX8_step_222 ?_
              refine w_i (by rw [u2_sn (by decide), u2_ss]) ?_
              refine w_puti (ci := 9) (T := TX8) (ty := .int) hx hb hts hin_TX8 tyX8 tyX8_ok nmX8 hown hK hW hS hM.1.1 hM.1.2 (by decide) rfl 38 (by decide) (hts (.fieldLink RX8 216 "TownClocksModel" "end" "I") (by decide +kernel)) (fun _ h9 => h9) rfl (tyX8_ok 38 (by decide)) rfl rfl (Nat.le_of_ble_eq_true rfl) rfl dX8_step_225 (fun H locs hW hS => ?_)
              exact w_vret hx hb hr hlk hW hS (by rw [m_stp, ← hFe, ← hF2]; simp only [m_tokV, x_tkE, m_tkS, if_neg (show ¬ L ≤ t by omega), if_neg c_74, if_neg c_134, if_pos c_203, nI_1]) rfl rfl dX8_step_228
            · refine lv_iload_n hx hb dX8_step_206 rfl (lv_at hl 0 rfl) ?_
              refine lv_bipush (v := 60) hx hb dX8_step_207 (by decide) ?_
              refine lv_icmp_ne (tgt := 216) hx hb dX8_step_209 (by decide) (fun c_209 => ?_) (fun c_209 => ?_)
              · refine lv_iconst (v := 0) hx hb dX8_step_216 (by decide) ?_
                refine w_puti (ci := 9) (T := TX8) (ty := .int) hx hb hts hin_TX8 tyX8 tyX8_ok nmX8 hown hK hW hS hM.1.1 hM.1.2 (by decide) rfl 36 (by decide) (hts (.fieldLink RX8 207 "TownClocksModel" "sort" "I") (by decide +kernel)) (fun _ h9 => h9) rfl (tyX8_ok 36 (by decide)) rfl rfl (Nat.le_of_ble_eq_true rfl) rfl dX8_step_217 (fun H locs hW hS => ?_)
                refine lv_aload_n hx hb dX8_step_220 rfl (lv_at hl 1 rfl) ?_
                refine lv_aload_n hx hb dX8_step_221 rfl (lv_at hl 1 rfl) ?_
                refine w_get (ci := 9) (T := TX8) hx hb hts hin_TX8 hown hK hW hM.1.1 hM.1.2 (by decide) rfl 35 (by decide) (hts (.fieldLink RX8 198 "TownClocksModel" "at" "I") (by decide +kernel)) (fun _ h9 => h9) rfl dX8_step_222 ?_
                refine w_i (by rw [u2_sn (by decide), u2_ss]) ?_
                refine w_puti (ci := 9) (T := TX8) (ty := .int) hx hb hts hin_TX8 tyX8 tyX8_ok nmX8 hown hK hW hS hM.1.1 hM.1.2 (by decide) rfl 38 (by decide) (hts (.fieldLink RX8 216 "TownClocksModel" "end" "I") (by decide +kernel)) (fun _ h9 => h9) rfl (tyX8_ok 38 (by decide)) rfl rfl (Nat.le_of_ble_eq_true rfl) rfl dX8_step_225 (fun H locs hW hS => ?_)
                exact w_vret hx hb hr hlk hW hS (by rw [m_stp, ← hFe, ← hF2]; simp only [m_tokV, x_tkE, m_tkS, if_neg (show ¬ L ≤ t by omega), if_neg c_74, if_neg c_134, if_neg c_203, if_neg c_209, nI_1]) rfl rfl dX8_step_228
              · refine lv_iconst (v := 4) hx hb dX8_step_212 (by decide) ?_
                refine lv_goto (tgt := 217) hx hb dX8_step_213 (by decide) ?_
                refine w_puti (ci := 9) (T := TX8) (ty := .int) hx hb hts hin_TX8 tyX8 tyX8_ok nmX8 hown hK hW hS hM.1.1 hM.1.2 (by decide) rfl 36 (by decide) (hts (.fieldLink RX8 207 "TownClocksModel" "sort" "I") (by decide +kernel)) (fun _ h9 => h9) rfl (tyX8_ok 36 (by decide)) rfl rfl (Nat.le_of_ble_eq_true rfl) rfl dX8_step_217 (fun H locs hW hS => ?_)
                refine lv_aload_n hx hb dX8_step_220 rfl (lv_at hl 1 rfl) ?_
                refine lv_aload_n hx hb dX8_step_221 rfl (lv_at hl 1 rfl) ?_
                refine w_get (ci := 9) (T := TX8) hx hb hts hin_TX8 hown hK hW hM.1.1 hM.1.2 (by decide) rfl 35 (by decide) (hts (.fieldLink RX8 198 "TownClocksModel" "at" "I") (by decide +kernel)) (fun _ h9 => h9) rfl dX8_step_222 ?_
                refine w_i (by rw [u2_sn (by decide), u2_ss]) ?_
                refine w_puti (ci := 9) (T := TX8) (ty := .int) hx hb hts hin_TX8 tyX8 tyX8_ok nmX8 hown hK hW hS hM.1.1 hM.1.2 (by decide) rfl 38 (by decide) (hts (.fieldLink RX8 216 "TownClocksModel" "end" "I") (by decide +kernel)) (fun _ h9 => h9) rfl (tyX8_ok 38 (by decide)) rfl rfl (Nat.le_of_ble_eq_true rfl) rfl dX8_step_225 (fun H locs hW hS => ?_)
                exact w_vret hx hb hr hlk hW hS (by rw [m_stp, ← hFe, ← hF2]; simp only [m_tokV, x_tkE, m_tkS, if_neg (show ¬ L ≤ t by omega), if_neg c_74, if_neg c_134, if_neg c_203, if_pos c_209, nI_1]) rfl rfl dX8_step_228
          · have hW : wok A D q dm kd ln ad (u2 (u2 V 1000 37 (nI F)) 1000 35 (nI t)) J R H := by rw [← hF2]; exact hW
            exact J137 (L - t) t (by omega) (by rw [hG2e, hF2]) (by omega) (by rw [← hF2]; exact ⟨c_74, c_134⟩) _ _ _ hW hS (lv_sub hl [1] rfl)
        · have hW : wok A D q dm kd ln ad (u2 (u2 V 1000 37 (nI F)) 1000 35 (nI t)) J R H := by rw [← hF2]; exact hW
          exact J77 (L - t) t (by omega) (by rw [hG1e, hF2]) (by omega) (by rw [← hF2]; exact c_74) _ _ _ hW hS (lv_sub hl [1] rfl)
      · exact absurd c_59 (m_nby (hby t hlt))
    · refine w_i (show _ = (-1000000 : Int32) from by rw [m_by, if_pos (by omega)]) ?_
      refine lv_istore_n (lv' := [(1, .int (-1000000)), (0, .ref (ad 1000))]) hx hb dX8_step_55 rfl hl (by decide) rfl (fun ls hl => ?_)
      refine lv_iload_n hx hb dX8_step_56 rfl (lv_at hl 0 rfl) ?_
      refine lv_ldc (v := -1000000) hx hb hown (hts (.constant RX8 106 (-1000000)) (by decide +kernel)) dX8_step_57 ?_
      refine lv_icmp_ne (tgt := 70) hx hb dX8_step_59 (by decide) (fun z9 => absurd z9 (by decide)) (fun _ => ?_)
      refine lv_aload_n hx hb dX8_step_62 rfl (lv_at hl 1 rfl) ?_
      refine lv_iconst (v := 1) hx hb dX8_step_63 (by decide) ?_
      refine w_puti (ci := 9) (T := TX8) (ty := .int) hx hb hts hin_TX8 tyX8 tyX8_ok nmX8 hown hK hW hS hM.1.1 hM.1.2 (by decide) rfl 36 (by decide) (hts (.fieldLink RX8 207 "TownClocksModel" "sort" "I") (by decide +kernel)) (fun _ h9 => h9) rfl (tyX8_ok 36 (by decide)) rfl rfl (Nat.le_of_ble_eq_true rfl) rfl dX8_step_64 (fun H locs hW hS => ?_)
      refine lv_goto (tgt := 220) hx hb dX8_step_67 (by decide) ?_
      refine lv_aload_n hx hb dX8_step_220 rfl (lv_at hl 1 rfl) ?_
      refine lv_aload_n hx hb dX8_step_221 rfl (lv_at hl 1 rfl) ?_
      refine w_get (ci := 9) (T := TX8) hx hb hts hin_TX8 hown hK hW hM.1.1 hM.1.2 (by decide) rfl 35 (by decide) (hts (.fieldLink RX8 198 "TownClocksModel" "at" "I") (by decide +kernel)) (fun _ h9 => h9) rfl dX8_step_222 ?_
      refine w_i (by rw [u2_sn (by decide), u2_ss]) ?_
      refine w_puti (ci := 9) (T := TX8) (ty := .int) hx hb hts hin_TX8 tyX8 tyX8_ok nmX8 hown hK hW hS hM.1.1 hM.1.2 (by decide) rfl 38 (by decide) (hts (.fieldLink RX8 216 "TownClocksModel" "end" "I") (by decide +kernel)) (fun _ h9 => h9) rfl (tyX8_ok 38 (by decide)) rfl rfl (Nat.le_of_ble_eq_true rfl) rfl dX8_step_225 (fun H locs hW hS => ?_)
      exact w_vret hx hb hr hlk hW hS (by rw [m_stp, ← hFe, ← hF2]; simp only [m_tokV, x_tkE, m_tkS, if_pos (show L ≤ t by omega)]) rfl rfl dX8_step_228
  have J0 : ∀ n : Nat, ∀ (t : Nat) (hn : t + n = L) (hF : tb (V 1031) n t = F) (H : Heap) (locs : List Loc) (ls : Array Slot), wok A D q dm kd ln ad (u2 V 1000 35 (nI t)) J R H → va_S A s.heap H locs → lv_has ls 2 [(0, .ref (ad 1000))] → W p l e ({ frames := 1, cells := 0, slots := 0, locals := 21 }) s m ([.ref (ad 1000)] : List Value).toArray below meth c H locs 0 0 (MQ below (QV D q dm kd ln ad (m_stp V L p1) (J) (R) A) ([.ref (ad 1000)] : List Value).toArray s 0 0 A) (F0 m 0 ls []) := by
    intro n
    induction n with
    | zero =>
      intro t hn hF H locs ls hW hS hl
      refine lv_aload_n hx hb dX8_step_0 rfl (lv_at hl 0 rfl) ?_
      refine lv_aload_n hx hb dX8_step_1 rfl (lv_at hl 0 rfl) ?_
      refine w_get (ci := 9) (T := TX8) hx hb hts hin_TX8 hown hK hW hM.1.1 hM.1.2 (by decide) rfl 35 (by decide) (hts (.fieldLink RX8 198 "TownClocksModel" "at" "I") (by decide +kernel)) (fun _ h9 => h9) rfl dX8_step_2 ?_
      refine w_i (by rw [u2_ss]) ?_
      refine w_ci (w_runV ⟨hx, hb, hml, hown, hts⟩ (c_X8_byteAt hxo l D q (u2 V 1000 35 (nI t)) J R L t hM (by rw [u2_sn (by decide)]; exact hsz) hL3 (by omega)) hxo (cwV 1 hts gX8_step_X8_byteAt rfl rfl rfl (by decide +kernel) ⟨Nat.le_of_ble_eq_true rfl, Nat.le_of_ble_eq_true rfl⟩) hK hW hS hA hXs (w_rcv hK hW hM.1.1 hM.1.2 (by decide) rfl) rfl hl.1 rfl (Nat.le_of_ble_eq_true rfl) dX8_step_5 ⟨Nat.zero_le _, Nat.zero_le _⟩) hW hS hA (fun H locs hW hS => ?_)
      refine w_i (show _ = (-1000000 : Int32) from by rw [m_by, if_pos (by omega)]) ?_
      refine lv_bipush (v := 32) hx hb dX8_step_8 (by decide) ?_
      refine lv_icmp_eq (tgt := 26) hx hb dX8_step_10 (by decide) (fun z9 => absurd z9 (by decide)) (fun _ => ?_)
      refine lv_aload_n hx hb dX8_step_13 rfl (lv_at hl 0 rfl) ?_
      refine lv_aload_n hx hb dX8_step_14 rfl (lv_at hl 0 rfl) ?_
      refine w_get (ci := 9) (T := TX8) hx hb hts hin_TX8 hown hK hW hM.1.1 hM.1.2 (by decide) rfl 35 (by decide) (hts (.fieldLink RX8 198 "TownClocksModel" "at" "I") (by decide +kernel)) (fun _ h9 => h9) rfl dX8_step_15 ?_
      refine w_i (by rw [u2_ss]) ?_
      refine w_ci (w_runV ⟨hx, hb, hml, hown, hts⟩ (c_X8_byteAt hxo l D q (u2 V 1000 35 (nI t)) J R L t hM (by rw [u2_sn (by decide)]; exact hsz) hL3 (by omega)) hxo (cwV 1 hts gX8_step_X8_byteAt rfl rfl rfl (by decide +kernel) ⟨Nat.le_of_ble_eq_true rfl, Nat.le_of_ble_eq_true rfl⟩) hK hW hS hA hXs (w_rcv hK hW hM.1.1 hM.1.2 (by decide) rfl) rfl hl.1 rfl (Nat.le_of_ble_eq_true rfl) dX8_step_18 ⟨Nat.zero_le _, Nat.zero_le _⟩) hW hS hA (fun H locs hW hS => ?_)
      refine w_i (show _ = (-1000000 : Int32) from by rw [m_by, if_pos (by omega)]) ?_
      refine lv_bipush (v := 10) hx hb dX8_step_21 (by decide) ?_
      refine lv_icmp_ne (tgt := 39) hx hb dX8_step_23 (by decide) (fun _ => ?_) (fun z9 => absurd z9 (by decide))
      exact J39 t (by omega) hF _ _ _ hW hS (lv_sub hl [0] rfl)
    | succ n ih =>
      intro t hn hF H locs ls hW hS hl
      refine lv_aload_n hx hb dX8_step_0 rfl (lv_at hl 0 rfl) ?_
      refine lv_aload_n hx hb dX8_step_1 rfl (lv_at hl 0 rfl) ?_
      refine w_get (ci := 9) (T := TX8) hx hb hts hin_TX8 hown hK hW hM.1.1 hM.1.2 (by decide) rfl 35 (by decide) (hts (.fieldLink RX8 198 "TownClocksModel" "at" "I") (by decide +kernel)) (fun _ h9 => h9) rfl dX8_step_2 ?_
      refine w_i (by rw [u2_ss]) ?_
      refine w_ci (w_runV ⟨hx, hb, hml, hown, hts⟩ (c_X8_byteAt hxo l D q (u2 V 1000 35 (nI t)) J R L t hM (by rw [u2_sn (by decide)]; exact hsz) hL3 (by omega)) hxo (cwV 1 hts gX8_step_X8_byteAt rfl rfl rfl (by decide +kernel) ⟨Nat.le_of_ble_eq_true rfl, Nat.le_of_ble_eq_true rfl⟩) hK hW hS hA hXs (w_rcv hK hW hM.1.1 hM.1.2 (by decide) rfl) rfl hl.1 rfl (Nat.le_of_ble_eq_true rfl) dX8_step_5 ⟨Nat.zero_le _, Nat.zero_le _⟩) hW hS hA (fun H locs hW hS => ?_)
      refine w_i (show _ = V 1031 t from by rw [m_by, if_neg (by omega)]; rfl) ?_
      refine lv_bipush (v := 32) hx hb dX8_step_8 (by decide) ?_
      refine lv_icmp_eq (tgt := 26) hx hb dX8_step_10 (by decide) (fun c_10 => ?_) (fun c_10 => ?_)
      · refine lv_aload_n hx hb dX8_step_26 rfl (lv_at hl 0 rfl) ?_
        refine lv_dup hx hb dX8_step_27 rfl ?_
        refine w_get (ci := 9) (T := TX8) hx hb hts hin_TX8 hown hK hW hM.1.1 hM.1.2 (by decide) rfl 35 (by decide) (hts (.fieldLink RX8 198 "TownClocksModel" "at" "I") (by decide +kernel)) (fun _ h9 => h9) rfl dX8_step_28 ?_
        refine w_i (by rw [u2_ss]) ?_
        refine lv_iconst (v := 1) hx hb dX8_step_31 (by decide) ?_
        refine lv_iadd hx hb dX8_step_32 ?_
        refine w_puti (ci := 9) (T := TX8) (ty := .int) hx hb hts hin_TX8 tyX8 tyX8_ok nmX8 hown hK hW hS hM.1.1 hM.1.2 (by decide) rfl 35 (by decide) (hts (.fieldLink RX8 198 "TownClocksModel" "at" "I") (by decide +kernel)) (fun _ h9 => h9) rfl (tyX8_ok 35 (by decide)) rfl rfl (Nat.le_of_ble_eq_true rfl) rfl dX8_step_33 (fun H locs hW hS => ?_)
        rw [u2_uu, nI_1] at hW
        refine lv_goto (tgt := 0) hx hb dX8_step_36 (by decide) ?_
        exact ih (t + 1) (by omega) (by have h := hF; simp only [tb, if_pos (show V 1031 t = 32 ∨ V 1031 t = 10 from Or.inl c_10)] at h; exact h) _ _ _ hW hS (lv_sub hl [0] rfl)
      · refine lv_aload_n hx hb dX8_step_13 rfl (lv_at hl 0 rfl) ?_
        refine lv_aload_n hx hb dX8_step_14 rfl (lv_at hl 0 rfl) ?_
        refine w_get (ci := 9) (T := TX8) hx hb hts hin_TX8 hown hK hW hM.1.1 hM.1.2 (by decide) rfl 35 (by decide) (hts (.fieldLink RX8 198 "TownClocksModel" "at" "I") (by decide +kernel)) (fun _ h9 => h9) rfl dX8_step_15 ?_
        refine w_i (by rw [u2_ss]) ?_
        refine w_ci (w_runV ⟨hx, hb, hml, hown, hts⟩ (c_X8_byteAt hxo l D q (u2 V 1000 35 (nI t)) J R L t hM (by rw [u2_sn (by decide)]; exact hsz) hL3 (by omega)) hxo (cwV 1 hts gX8_step_X8_byteAt rfl rfl rfl (by decide +kernel) ⟨Nat.le_of_ble_eq_true rfl, Nat.le_of_ble_eq_true rfl⟩) hK hW hS hA hXs (w_rcv hK hW hM.1.1 hM.1.2 (by decide) rfl) rfl hl.1 rfl (Nat.le_of_ble_eq_true rfl) dX8_step_18 ⟨Nat.zero_le _, Nat.zero_le _⟩) hW hS hA (fun H locs hW hS => ?_)
        refine w_i (show _ = V 1031 t from by rw [m_by, if_neg (by omega)]; rfl) ?_
        refine lv_bipush (v := 10) hx hb dX8_step_21 (by decide) ?_
        refine lv_icmp_ne (tgt := 39) hx hb dX8_step_23 (by decide) (fun c_23 => ?_) (fun c_23 => ?_)
        · exact J39 t (by omega) (by rw [← hF, tb, if_neg (fun h => h.elim c_10 c_23)]) _ _ _ hW hS (lv_sub hl [0] rfl)
        · refine lv_aload_n hx hb dX8_step_26 rfl (lv_at hl 0 rfl) ?_
          refine lv_dup hx hb dX8_step_27 rfl ?_
          refine w_get (ci := 9) (T := TX8) hx hb hts hin_TX8 hown hK hW hM.1.1 hM.1.2 (by decide) rfl 35 (by decide) (hts (.fieldLink RX8 198 "TownClocksModel" "at" "I") (by decide +kernel)) (fun _ h9 => h9) rfl dX8_step_28 ?_
          refine w_i (by rw [u2_ss]) ?_
          refine lv_iconst (v := 1) hx hb dX8_step_31 (by decide) ?_
          refine lv_iadd hx hb dX8_step_32 ?_
          refine w_puti (ci := 9) (T := TX8) (ty := .int) hx hb hts hin_TX8 tyX8 tyX8_ok nmX8 hown hK hW hS hM.1.1 hM.1.2 (by decide) rfl 35 (by decide) (hts (.fieldLink RX8 198 "TownClocksModel" "at" "I") (by decide +kernel)) (fun _ h9 => h9) rfl (tyX8_ok 35 (by decide)) rfl rfl (Nat.le_of_ble_eq_true rfl) rfl dX8_step_33 (fun H locs hW hS => ?_)
          rw [u2_uu, nI_1] at hW
          refine lv_goto (tgt := 0) hx hb dX8_step_36 (by decide) ?_
          exact ih (t + 1) (by omega) (by have h := hF; simp only [tb, if_pos (show V 1031 t = 32 ∨ V 1031 t = 10 from Or.inr c_23)] at h; exact h) _ _ _ hW hS (lv_sub hl [0] rfl)
  exact J0 (L - p1) p1 (by omega) hFe.symm _ _ _ hW hS (lv_sub hl [0] rfl)
set_option maxHeartbeats 4000000 in
set_option maxRecDepth 100000 in
theorem c_X8_bad {X : (Nat → Prop) → State → Prop} (hxo : xok X) (l : Launch) (D : va_G) (q : Cq) {dm : List Nat} {kd ln ad : Nat → Nat} (V : Mv) (J : Mj) (R : Mr) (a : Int32) (hM : okM dm kd ln R) : CtV X l yX8_bad wsX8_bad ({ frames := 0, cells := 0, slots := 0, locals := 0 }) D q dm kd ln ad V J R [.ref (ad 1000), .int a] (m_bad V a) (J) (R) := by
  refine CtV_of (cc := cX8_bad) (maxL := 2) (ret := none) (by decide +kernel) rfl (Nat.le_of_ble_eq_true rfl) ?_
  intro p e s m below meth c A hx hb hr hml hts hown hlk hmn hK hW hA hXs ls hl
  have hS : va_S A s.heap s.heap [] := va_S.rf
  have hl : lv_has ls 2 [(0, .ref (ad 1000)), (1, .int a)] := hl
  have hin_TX8 : ∀ w ∈ u_ws RX8 TX8 48, w ∈ wsX8_bad := by decide +kernel
  refine lv_aload_n hx hb dX8_bad_0 rfl (lv_at hl 0 rfl) ?_
  refine w_get (ci := 9) (T := TX8) hx hb hts hin_TX8 hown hK hW hM.1.1 hM.1.2 (by decide) rfl 39 (by decide) (hts (.fieldLink RX8 219 "TownClocksModel" "fault" "I") (by decide +kernel)) (fun _ h9 => h9) rfl dX8_bad_1 ?_
  refine lv_if_ne (tgt := 20) hx hb dX8_bad_4 (by decide) (fun c_4 => ?_) (fun c_4 => ?_)
  · exact w_vret hx hb hr hlk hW hS (by first | rfl | (simp only [m_bad, if_neg c_4, c_4, ↓reduceIte]; done) | simp [bz, m_bad, if_neg c_4, c_4]) rfl rfl dX8_bad_20
  · refine lv_aload_n hx hb dX8_bad_7 rfl (lv_at hl 0 rfl) ?_
    refine lv_iload_n hx hb dX8_bad_8 rfl (lv_at hl 1 rfl) ?_
    refine w_puti (ci := 9) (T := TX8) (ty := .int) hx hb hts hin_TX8 tyX8 tyX8_ok nmX8 hown hK hW hS hM.1.1 hM.1.2 (by decide) rfl 39 (by decide) (hts (.fieldLink RX8 219 "TownClocksModel" "fault" "I") (by decide +kernel)) (fun _ h9 => h9) rfl (tyX8_ok 39 (by decide)) rfl rfl (Nat.le_of_ble_eq_true rfl) rfl dX8_bad_9 (fun H locs hW hS => ?_)
    refine lv_aload_n hx hb dX8_bad_12 rfl (lv_at hl 0 rfl) ?_
    refine lv_aload_n hx hb dX8_bad_13 rfl (lv_at hl 0 rfl) ?_
    refine w_get (ci := 9) (T := TX8) hx hb hts hin_TX8 hown hK hW hM.1.1 hM.1.2 (by decide) rfl 37 (by decide) (hts (.fieldLink RX8 204 "TownClocksModel" "place" "I") (by decide +kernel)) (fun _ h9 => h9) rfl dX8_bad_14 ?_
    refine w_i (by rw [u2_sn (by decide)]) ?_
    refine w_puti (ci := 9) (T := TX8) (ty := .int) hx hb hts hin_TX8 tyX8 tyX8_ok nmX8 hown hK hW hS hM.1.1 hM.1.2 (by decide) rfl 40 (by decide) (hts (.fieldLink RX8 222 "TownClocksModel" "faultAt" "I") (by decide +kernel)) (fun _ h9 => h9) rfl (tyX8_ok 40 (by decide)) rfl rfl (Nat.le_of_ble_eq_true rfl) rfl dX8_bad_17 (fun H locs hW hS => ?_)
    exact w_vret hx hb hr hlk hW hS (by first | rfl | (simp only [m_bad, if_pos c_4, c_4, ↓reduceIte]; done) | simp [bz, m_bad, if_pos c_4, c_4]) rfl rfl dX8_bad_20
