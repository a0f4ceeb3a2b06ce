theorem tb_le (B : Nat → Int32) : ∀ n t, t ≤ tb B n t ∧ tb B n t ≤ t + n
  | 0, t => ⟨Nat.le_refl t, Nat.le_refl t⟩
  | n + 1, t => by
    rw [tb]
    split
    · have h := tb_le B n (t + 1)
      omega
    · omega
theorem tl_le (B : Nat → Int32) : ∀ n t, t ≤ tl B n t ∧ tl B n t ≤ t + n
  | 0, t => ⟨Nat.le_refl t, Nat.le_refl t⟩
  | n + 1, t => by
    rw [tl]
    split
    · have h := tl_le B n (t + 1)
      omega
    · omega
theorem tf_le (B : Nat → Int32) : ∀ n t, t ≤ tf B n t ∧ tf B n t ≤ t + n
  | 0, t => ⟨Nat.le_refl t, Nat.le_refl t⟩
  | n + 1, t => by
    rw [tf]
    split
    · have h := tf_le B n (t + 1)
      omega
    · omega
theorem x_tkE_le (B : Nat → Int32) {L a : Nat} (h : a ≤ L) : a ≤ x_tkE B L a ∧ x_tkE B L a ≤ L := by
  have h1 := tl_le B (L - a) a
  have h2 := tf_le B (L - a) a
  unfold x_tkE
  split
  · omega
  · split
    · omega
    · split <;> omega
theorem m_tkS4 {B : Nat → Int32} {L a : Nat} (h : m_tkS B L a = 4) : a < L := by
  unfold m_tkS at h
  split at h
  · exact absurd h (by decide)
  · omega
def tkM (V : Mv) (L : Nat) : Prop := V 1000 34 = nI L ∧ L ≤ 300 ∧ (∀ t, t < L → inx 256 (V 1031 t)) ∧ ∃ p a e : Nat, V 1000 35 = nI p ∧ p ≤ L ∧ V 1000 37 = nI a ∧ V 1000 38 = nI e ∧ a ≤ e ∧ e ≤ L ∧ (V 1000 36 = 4 → a < L)
theorem m_stp_ne {V : Mv} {L p k : Nat} (h : k ≠ 1000) : m_stp V L p k = V k := by
  rw [m_stp, m_tokV, u2_ne h, u2_ne h, u2_ne h, u2_ne h]
theorem m_stp_sc {V : Mv} {L p j : Nat} (h : j < 35 ∨ 38 < j) : m_stp V L p 1000 j = V 1000 j := by
  rw [m_stp, m_tokV, u2_sn (by omega), u2_sn (by omega), u2_sn (by omega), u2_sn (by omega)]
theorem tkM_stp {V : Mv} {L p : Nat} (h1 : V 1000 34 = nI L) (h2 : L ≤ 300) (h3 : ∀ t, t < L → inx 256 (V 1031 t)) (h5 : p ≤ L) : tkM (m_stp V L p) L := by
  have hb := tb_le (V 1031) (L - p) p
  have he := x_tkE_le (V 1031) (L := L) (a := tb (V 1031) (L - p) p) (by omega)
  refine ⟨by rw [m_stp_sc (by omega)]; exact h1, h2, fun t ht => by rw [m_stp_ne (by decide)]; exact h3 t ht, x_tkE (V 1031) L (tb (V 1031) (L - p) p), tb (V 1031) (L - p) p, x_tkE (V 1031) L (tb (V 1031) (L - p) p), ?_, he.2, ?_, ?_, he.1, he.2, ?_⟩
  · rw [m_stp, m_tokV, u2_sn (by decide), u2_sn (by decide), u2_ss]
  · rw [m_stp, m_tokV, u2_sn (by decide), u2_sn (by decide), u2_sn (by decide), u2_ss]
  · rw [m_stp, m_tokV, u2_ss]
  · intro h
    rw [m_stp, m_tokV, u2_sn (by decide), u2_ss] at h
    exact m_tkS4 h
theorem m_bad_ne {V : Mv} {a : Int32} {k : Nat} (h : k ≠ 1000) : m_bad V a k = V k := by
  unfold m_bad
  split
  · rw [u2_ne h, u2_ne h]
  · rfl
theorem m_bad_sc {V : Mv} {a : Int32} {j : Nat} (h : j ≠ 39) (h2 : j ≠ 40) : m_bad V a 1000 j = V 1000 j := by
  unfold m_bad
  split
  · rw [u2_sn h2, u2_sn h]
  · rfl
theorem tkM_bad {V : Mv} {L : Nat} {a : Int32} (h : tkM V L) : tkM (m_bad V a) L := by
  unfold tkM at h ⊢
  rw [m_bad_ne (k := 1031) (by decide), m_bad_sc (j := 34) (by decide) (by decide), m_bad_sc (j := 35) (by decide) (by decide), m_bad_sc (j := 37) (by decide) (by decide), m_bad_sc (j := 38) (by decide) (by decide), m_bad_sc (j := 36) (by decide) (by decide)]
  exact h
def m_take (V : Mv) (L p : Nat) (so : Int32) : Mv := if so = 0 then (if m_bad V 1 1000 39 = 0 then m_stp (m_bad V 1) L p else m_bad V 1) else (if V 1000 39 = 0 then m_stp V L p else V)
def m_takeV (V : Mv) (so : Int32) : Mv := m_take V (V 1000 34).toNatClampNeg (V 1000 35).toNatClampNeg so
theorem tkM_take {V : Mv} {L : Nat} {so : Int32} (h : tkM V L) : tkM (m_takeV V so) L := by
  obtain ⟨hsz, hL3, hby, p1, a1, e1, hat, hpL, hpl, hen, hae, heL, hs4⟩ := id h
  have hLe : (V 1000 34).toNatClampNeg = L := by rw [hsz, nI_clamp (by omega)]
  have hpe : (V 1000 35).toNatClampNeg = p1 := by rw [hat, nI_clamp (by omega)]
  rw [m_takeV, hLe, hpe, m_take]
  split
  · split
    · exact tkM_stp (by rw [m_bad_sc (by decide) (by decide)]; exact hsz) hL3 (fun t ht => by rw [m_bad_ne (by decide)]; exact hby t ht) hpL
    · exact tkM_bad h
  · split
    · exact tkM_stp hsz hL3 hby hpL
    · exact h
def agT (Vw V : Mv) : Prop := ∀ j, (j < 35 ∨ 40 < j) → Vw 1000 j = V 1000 j
theorem m_takeV_sc {V : Mv} {so : Int32} {j : Nat} (h : j < 35 ∨ 40 < j) : m_takeV V so 1000 j = V 1000 j := by
  rw [m_takeV, m_take]
  split
  · split
    · rw [m_stp_sc (by omega), m_bad_sc (by omega) (by omega)]
    · rw [m_bad_sc (by omega) (by omega)]
  · split
    · rw [m_stp_sc (by omega)]
    · rfl
theorem m_takeV_ne {V : Mv} {so : Int32} {k : Nat} (h : k ≠ 1000) : m_takeV V so k = V k := by
  rw [m_takeV, m_take]
  split
  · split
    · rw [m_stp_ne h, m_bad_ne h]
    · rw [m_bad_ne h]
  · split
    · rw [m_stp_ne h]
    · rfl
theorem agT_take {Vw V : Mv} {so : Int32} (h : agT Vw V) : agT (m_takeV Vw so) V := fun j hj => by
  rw [m_takeV_sc hj]
  exact h j hj
theorem agT_bad {Vw V : Mv} {a : Int32} (h : agT Vw V) : agT (m_bad Vw a) V := fun j hj => by
  rw [m_bad_sc (by omega) (by omega)]
  exact h j hj
abbrev m_is (V : Mv) (ch : Int32) : Prop := V 1000 36 = 4 ∧ V 1031 (V 1000 37).toNatClampNeg = ch
def m_nuL (V : Mv) : Nat → Nat → Int32 → Int32
  | 0, _, v => v
  | n + 1, t, v => if V 1000 36 = 3 then m_nuL V n (t + 1) (10 * v + V 1031 t - 48) else v
def m_nuR (V : Mv) : Int32 := m_nuL V ((V 1000 38).toNatClampNeg - (V 1000 37).toNatClampNeg) (V 1000 37).toNatClampNeg 0
def m_naL (V : Mv) : Nat → Nat → Int64 → Int64
  | 0, _, v => v
  | n + 1, t, v => if V 1000 36 = 2 then m_naL V n (t + 1) ((v <<< ((8 : Int32).toInt64 &&& 63)) ||| (V 1031 t).toInt64) else v
def m_naR (V : Mv) : Int64 := m_naL V ((V 1000 38).toNatClampNeg - (V 1000 37).toNatClampNeg) (V 1000 37).toNatClampNeg 0
def m_rJ (V : Mv) (d s4 a5 b6 : Int32) : Mv := if V 1000 39 = 0 then u2 (u2 (u2 (u2 (u2 V 1042 (V 1000 41).toNatClampNeg d) 1043 (V 1000 41).toNatClampNeg s4) 1044 (V 1000 41).toNatClampNeg a5) 1045 (V 1000 41).toNatClampNeg b6) 1000 41 (V 1000 41 + 1) else V
def m_rI (V : Mv) (d s4 a5 b6 : Int32) : Mv := m_rJ (m_takeV V (bz (m_is V 59))) d s4 a5 b6
def m_rH (V : Mv) (d s4 a5 : Int32) : Mv := m_rI (if s4 = 3 then m_takeV V (bz (V 1000 36 = 3)) else V) d s4 a5 (if s4 = 3 then m_nuR V else 0)
def m_rG (V : Mv) (d s4 : Int32) : Mv := m_rH (m_takeV V (bz (V 1000 36 = 3))) d s4 (m_nuR V)
def m_rF (V : Mv) (d s4 : Int32) : Mv := m_rG (if s4 = 3 then m_takeV V (bz (m_is V 60)) else V) d s4
def m_rE (V : Mv) (d s4 : Int32) : Mv := m_rF (m_takeV V (bz (0 < s4))) d s4
def m_rD (V : Mv) (d : Int32) : Mv := m_rE V d (if m_naR V = 1718378868 then 1 else if m_naR V = 491394656372 then 2 else if m_naR V = 1818588019 then 3 else 0)
def m_rC (V : Mv) : Mv := m_rD (m_takeV V (bz (V 1000 36 = 3))) (m_nuR V)
def m_rB (V : Mv) (nD : Nat) : Mv := m_rC (if V 1000 39 = 0 then (if V 1000 36 = 3 then (if inx nD (m_nuR V) then V else m_bad V 2) else V) else V)
def m_rA (V : Mv) (nD : Nat) : Mv := m_rB (m_takeV V (bz (m_naR V = 1684627820))) nD
set_option maxHeartbeats 4000000 in
set_option maxRecDepth 100000 in
theorem c_X8_take {X : (Nat → Prop) → State → Prop} (hxo : xok X) (l : Launch) (D : va_G) (q : Cq) {dm : List Nat} {kd ln ad : Nat → Nat} (V : Mv) (J : Mj) (R : Mr) (L : Nat) (so : Int32) (hM : okM dm kd ln R) (ht : tkM V L) : CtV X l yX8_take wsX8_take ({ frames := 2, cells := 0, slots := 0, locals := 42 }) D q dm kd ln ad V J R [.ref (ad 1000), .int so] (m_takeV V so) (J) (R) := by
  refine CtV_of (cc := cX8_take) (maxL := 2) (ret := none) (by decide +kernel) rfl (Nat.le_of_ble_eq_true rfl) ?_
  intro p e s m below meth c A hx hb hr hml hts hown hlk hmn hK hW hA hXs ls hl
  have hS : va_S A s.heap s.heap [] := va_S.rf
  have hl : lv_has ls 2 [(0, .ref (ad 1000)), (1, .int so)] := hl
  have hin_TX8 : ∀ w ∈ u_ws RX8 TX8 48, w ∈ wsX8_take := by decide +kernel
  obtain ⟨hsz, hL3, hby, p1, a1, e1, hat, hpL, hpl, hen, hae, heL, hs4⟩ := id ht
  have hLe : (V 1000 34).toNatClampNeg = L := by rw [hsz, nI_clamp (by omega)]
  have hpe : (V 1000 35).toNatClampNeg = p1 := by rw [hat, nI_clamp (by omega)]
  refine lv_iload_n hx hb dX8_take_0 rfl (lv_at hl 1 rfl) ?_
  refine lv_if_ne (tgt := 9) hx hb dX8_take_1 (by decide) (fun c_1 => ?_) (fun c_1 => ?_)
  · refine lv_aload_n hx hb dX8_take_9 rfl (lv_at hl 0 rfl) ?_
    refine w_get (ci := 9) (T := TX8) hx hb hts hin_TX8 hown hK hW hM.1.1 hM.1.2 (by decide) rfl 39 (by decide) (hts (.fieldLink RX8 219 "TownClocksModel" "fault" "I") (by decide +kernel)) (fun _ h9 => h9) rfl dX8_take_10 ?_
    refine lv_if_ne (tgt := 20) hx hb dX8_take_13 (by decide) (fun c_13 => ?_) (fun c_13 => ?_)
    · exact w_vret hx hb hr hlk hW hS (by simp only [m_takeV, m_take, hLe, hpe, if_neg c_1, if_neg c_13]) rfl rfl dX8_take_20
    · refine lv_aload_n hx hb dX8_take_16 rfl (lv_at hl 0 rfl) ?_
      refine w_cv (w_runV ⟨hx, hb, hml, hown, hts⟩ (c_X8_step hxo l D q V J R L p1 hM hsz hL3 hat hpL hby) hxo (cwV 0 hts gX8_take_X8_step rfl rfl rfl (by decide +kernel) ⟨Nat.le_of_ble_eq_true rfl, Nat.le_of_ble_eq_true rfl⟩) hK hW hS hA hXs (w_rcv hK hW hM.1.1 hM.1.2 (by decide) rfl) rfl hl.1 rfl (Nat.le_of_ble_eq_true rfl) dX8_take_17 ⟨Nat.zero_le _, Nat.zero_le _⟩) hW hS hA (fun H locs hW hS => ?_)
      exact w_vret hx hb hr hlk hW hS (by simp only [m_takeV, m_take, hLe, hpe, if_neg c_1, if_pos c_13]) rfl rfl dX8_take_20
  · refine lv_aload_n hx hb dX8_take_4 rfl (lv_at hl 0 rfl) ?_
    refine lv_iconst (v := 1) hx hb dX8_take_5 (by decide) ?_
    refine w_cv (w_runV ⟨hx, hb, hml, hown, hts⟩ (c_X8_bad hxo l D q V J R 1 hM) hxo (cwV 1 hts gX8_take_X8_bad rfl rfl rfl (by decide +kernel) ⟨Nat.le_of_ble_eq_true rfl, Nat.le_of_ble_eq_true rfl⟩) hK hW hS hA hXs (w_rcv hK hW hM.1.1 hM.1.2 (by decide) rfl) rfl hl.1 rfl (Nat.le_of_ble_eq_true rfl) dX8_take_6 ⟨Nat.zero_le _, Nat.zero_le _⟩) hW hS hA (fun H locs hW hS => ?_)
    refine lv_aload_n hx hb dX8_take_9 rfl (lv_at hl 0 rfl) ?_
    refine w_get (ci := 9) (T := TX8) hx hb hts hin_TX8 hown hK hW hM.1.1 hM.1.2 (by decide) rfl 39 (by decide) (hts (.fieldLink RX8 219 "TownClocksModel" "fault" "I") (by decide +kernel)) (fun _ h9 => h9) rfl dX8_take_10 ?_
    refine lv_if_ne (tgt := 20) hx hb dX8_take_13 (by decide) (fun c_13 => ?_) (fun c_13 => ?_)
    · exact w_vret hx hb hr hlk hW hS (by simp only [m_takeV, m_take, hLe, hpe, if_pos c_1, if_neg c_13]) rfl rfl dX8_take_20
    · refine lv_aload_n hx hb dX8_take_16 rfl (lv_at hl 0 rfl) ?_
      refine w_cv (w_runV ⟨hx, hb, hml, hown, hts⟩ (c_X8_step hxo l D q (m_bad V 1) J R L p1 hM (by rw [m_bad_sc (by decide) (by decide)]; exact hsz) hL3 (by rw [m_bad_sc (by decide) (by decide)]; exact hat) hpL (fun t h => by rw [m_bad_ne (by decide)]; exact hby t h)) hxo (cwV 0 hts gX8_take_X8_step rfl rfl rfl (by decide +kernel) ⟨Nat.le_of_ble_eq_true rfl, Nat.le_of_ble_eq_true rfl⟩) hK hW hS hA hXs (w_rcv hK hW hM.1.1 hM.1.2 (by decide) rfl) rfl hl.1 rfl (Nat.le_of_ble_eq_true rfl) dX8_take_17 ⟨Nat.zero_le _, Nat.zero_le _⟩) hW hS hA (fun H locs hW hS => ?_)
      exact w_vret hx hb hr hlk hW hS (by simp only [m_takeV, m_take, hLe, hpe, if_pos c_1, if_pos c_13]) rfl rfl dX8_take_20
set_option maxHeartbeats 4000000 in
set_option maxRecDepth 100000 in
theorem c_X8_is {X : (Nat → Prop) → State → Prop} (hxo : xok X) (l : Launch) (D : va_G) (q : Cq) {dm : List Nat} {kd ln ad : Nat → Nat} (V : Mv) (J : Mj) (R : Mr) (L : Nat) (ch : Int32) (hM : okM dm kd ln R) (ht : tkM V L) : CtI X l yX8_is wsX8_is ({ frames := 0, cells := 0, slots := 0, locals := 0 }) D q dm kd ln ad V J R [.ref (ad 1000), .int ch] (bz (m_is V ch)) (V) (J) (R) := by
  refine CtI_of (cc := cX8_is) (maxL := 2) (ret := (some .boolean)) (by decide +kernel) rfl (Nat.le_of_ble_eq_true rfl) ?_
  intro p e s m below meth c A hx hb hr hml hts hown hlk hmn hK hW hA hXs ls hl
  have hS : va_S A s.heap s.heap [] := va_S.rf
  have hl : lv_has ls 2 [(0, .ref (ad 1000)), (1, .int ch)] := hl
  have hin_TX8 : ∀ w ∈ u_ws RX8 TX8 48, w ∈ wsX8_is := by decide +kernel
  obtain ⟨hsz, hL3, hby, p1, a1, e1, hat, hpL, hpl, hen, hae, heL, hs4⟩ := id ht
  have hae2 : (V 1000 37).toNatClampNeg = a1 := by rw [hpl, nI_clamp (by omega)]
  refine lv_aload_n hx hb dX8_is_0 rfl (lv_at hl 0 rfl) ?_
  refine w_get (ci := 9) (T := TX8) hx hb hts hin_TX8 hown hK hW hM.1.1 hM.1.2 (by decide) rfl 36 (by decide) (hts (.fieldLink RX8 207 "TownClocksModel" "sort" "I") (by decide +kernel)) (fun _ h9 => h9) rfl dX8_is_1 ?_
  refine lv_iconst (v := 4) hx hb dX8_is_4 (by decide) ?_
  refine lv_icmp_ne (tgt := 25) hx hb dX8_is_5 (by decide) (fun c_5 => ?_) (fun c_5 => ?_)
  · refine lv_iconst (v := 0) hx hb dX8_is_25 (by decide) ?_
    exact w_zret hx hb hr hlk hW hS (Or.inl rfl) (Eq.symm (bz_f (fun h => c_5 h.1))) rfl rfl rfl dX8_is_26
  · refine lv_aload_n hx hb dX8_is_8 rfl (lv_at hl 0 rfl) ?_
    refine w_getr (ci := 9) (T := TX8) hx hb hts hin_TX8 hown hK hW hM.1.1 hM.1.2 (by decide) rfl 31 (by decide) (hts (.fieldLink RX8 77 "TownClocksModel" "tape" "[I") (by decide +kernel)) (fun _ h9 => h9) rfl (mo_31 hM).2.2.2 dX8_is_9 ?_
    refine lv_aload_n hx hb dX8_is_12 rfl (lv_at hl 0 rfl) ?_
    refine w_get (ci := 9) (T := TX8) hx hb hts hin_TX8 hown hK hW hM.1.1 hM.1.2 (by decide) rfl 37 (by decide) (hts (.fieldLink RX8 204 "TownClocksModel" "place" "I") (by decide +kernel)) (fun _ h9 => h9) rfl dX8_is_13 ?_
    refine w_iald hx hb hK hW (mo_31 hM).1 (mo_31 hM).2.1 (by rw [(mo_31 hM).2.2.1, hpl]; exact inx_v.mpr (inx_n (by have := hs4 c_5; omega) (by decide))) dX8_is_16 ?_
    refine lv_iload_n hx hb dX8_is_17 rfl (lv_at hl 1 rfl) ?_
    refine lv_icmp_ne (tgt := 25) hx hb dX8_is_18 (by decide) (fun c_18 => ?_) (fun c_18 => ?_)
    · refine lv_iconst (v := 0) hx hb dX8_is_25 (by decide) ?_
      exact w_zret hx hb hr hlk hW hS (Or.inl rfl) (Eq.symm (bz_f (fun h => c_18 h.2))) rfl rfl rfl dX8_is_26
    · refine lv_iconst (v := 1) hx hb dX8_is_21 (by decide) ?_
      refine lv_goto (tgt := 26) hx hb dX8_is_22 (by decide) ?_
      exact w_zret hx hb hr hlk hW hS (Or.inr rfl) (Eq.symm (bz_t ⟨c_5, c_18⟩)) rfl rfl rfl dX8_is_26
set_option maxHeartbeats 4000000 in
set_option maxRecDepth 100000 in
theorem c_X8_number {X : (Nat → Prop) → State → Prop} (hxo : xok X) (l : Launch) (D : va_G) (q : Cq) {dm : List Nat} {kd ln ad : Nat → Nat} (V : Mv) (J : Mj) (R : Mr) (L : Nat) (hM : okM dm kd ln R) (ht : tkM V L) : CtI X l yX8_number wsX8_number ({ frames := 0, cells := 0, slots := 0, locals := 0 }) D q dm kd ln ad V J R [.ref (ad 1000)] (m_nuR V) (V) (J) (R) := by
  refine CtI_of (cc := cX8_number) (maxL := 3) (ret := (some .int)) (by decide +kernel) rfl (Nat.le_of_ble_eq_true rfl) ?_
  intro p e s m below meth c A hx hb hr hml hts hown hlk hmn hK hW hA hXs ls hl
  have hS : va_S A s.heap s.heap [] := va_S.rf
  have hl : lv_has ls 3 [(0, .ref (ad 1000))] := hl
  have hin_TX8 : ∀ w ∈ u_ws RX8 TX8 48, w ∈ wsX8_number := by decide +kernel
  obtain ⟨hsz, hL3, hby, p1, a1, e1, hat, hpL, hpl, hen, hae, heL, hs4⟩ := id ht
  have hae2 : (V 1000 37).toNatClampNeg = a1 := by rw [hpl, nI_clamp (by omega)]
  have hee2 : (V 1000 38).toNatClampNeg = e1 := by rw [hen, nI_clamp (by omega)]
  obtain ⟨F, hFe⟩ : ∃ r, r = m_nuL V (e1 - a1) a1 0 := ⟨_, rfl⟩
  have JL : ∀ n : Nat, ∀ (t : Nat) (v : Int32) (hn : t + n = e1) (hF : m_nuL V n t v = F) (H : Heap) (locs : List Loc) (ls : Array Slot), wok A D q dm kd ln ad V J R H → va_S A s.heap H locs → lv_has ls 3 [(0, .ref (ad 1000)), (1, .int v), (2, .int (nI t))] → W p l e ({ frames := 0, cells := 0, slots := 0, locals := 0 }) s m ([.ref (ad 1000)] : List Value).toArray below meth c H locs 0 0 (MQ below (QI (m_nuR V) D q dm kd ln ad (V) (J) (R) A) ([.ref (ad 1000)] : List Value).toArray s 0 0 A) (F0 m 7 ls []) := by
    intro n
    induction n with
    | zero =>
      intro t v hn hF H locs ls hW hS hl
      refine lv_iload_n hx hb dX8_number_7 rfl (lv_at hl 2 rfl) ?_
      refine lv_aload_n hx hb dX8_number_8 rfl (lv_at hl 0 rfl) ?_
      refine w_get (ci := 9) (T := TX8) hx hb hts hin_TX8 hown hK hW hM.1.1 hM.1.2 (by decide) rfl 38 (by decide) (hts (.fieldLink RX8 216 "TownClocksModel" "end" "I") (by decide +kernel)) (fun _ h9 => h9) rfl dX8_number_9 ?_
      refine lv_icmp_ge (tgt := 44) hx hb dX8_number_12 (by decide) (fun c_12 => ?_) (fun c_12 => ?_)
      · refine lv_iload_n hx hb dX8_number_44 rfl (lv_at hl 1 rfl) ?_
        exact w_iret hx hb hr hlk hW hS (by rw [m_nuR, hae2, hee2, ← hFe, ← hF]; rfl) rfl rfl rfl dX8_number_45
      · exact absurd (by rw [hen]; exact nI_le (by omega) (by omega)) c_12
    | succ n ih =>
      intro t v hn hF H locs ls hW hS hl
      refine lv_iload_n hx hb dX8_number_7 rfl (lv_at hl 2 rfl) ?_
      refine lv_aload_n hx hb dX8_number_8 rfl (lv_at hl 0 rfl) ?_
      refine w_get (ci := 9) (T := TX8) hx hb hts hin_TX8 hown hK hW hM.1.1 hM.1.2 (by decide) rfl 38 (by decide) (hts (.fieldLink RX8 216 "TownClocksModel" "end" "I") (by decide +kernel)) (fun _ h9 => h9) rfl dX8_number_9 ?_
      refine lv_icmp_ge (tgt := 44) hx hb dX8_number_12 (by decide) (fun c_12 => ?_) (fun c_12 => ?_)
      · exact absurd c_12 (by rw [hen]; exact nI_ge (by omega) (by omega))
      · refine lv_aload_n hx hb dX8_number_15 rfl (lv_at hl 0 rfl) ?_
        refine w_get (ci := 9) (T := TX8) hx hb hts hin_TX8 hown hK hW hM.1.1 hM.1.2 (by decide) rfl 36 (by decide) (hts (.fieldLink RX8 207 "TownClocksModel" "sort" "I") (by decide +kernel)) (fun _ h9 => h9) rfl dX8_number_16 ?_
        refine lv_iconst (v := 3) hx hb dX8_number_19 (by decide) ?_
        refine lv_icmp_ne (tgt := 44) hx hb dX8_number_20 (by decide) (fun c_20 => ?_) (fun c_20 => ?_)
        · refine lv_iload_n hx hb dX8_number_44 rfl (lv_at hl 1 rfl) ?_
          exact w_iret hx hb hr hlk hW hS (by rw [m_nuR, hae2, hee2, ← hFe, ← hF]; simp only [m_nuL, if_neg c_20]) rfl rfl rfl dX8_number_45
        · refine lv_bipush (v := 10) hx hb dX8_number_23 (by decide) ?_
          refine lv_iload_n hx hb dX8_number_25 rfl (lv_at hl 1 rfl) ?_
          refine lv_imul hx hb dX8_number_26 ?_
          refine lv_aload_n hx hb dX8_number_27 rfl (lv_at hl 0 rfl) ?_
          refine w_getr (ci := 9) (T := TX8) hx hb hts hin_TX8 hown hK hW hM.1.1 hM.1.2 (by decide) rfl 31 (by decide) (hts (.fieldLink RX8 77 "TownClocksModel" "tape" "[I") (by decide +kernel)) (fun _ h9 => h9) rfl (mo_31 hM).2.2.2 dX8_number_28 ?_
          refine lv_iload_n hx hb dX8_number_31 rfl (lv_at hl 2 rfl) ?_
          refine w_ialdN (t := t) hx hb hK hW (mo_31 hM).1 (mo_31 hM).2.1 ⟨by rw [(mo_31 hM).2.2.1]; omega, by omega⟩ dX8_number_32 ?_
          refine lv_iadd hx hb dX8_number_33 ?_
          refine lv_bipush (v := 48) hx hb dX8_number_34 (by decide) ?_
          refine lv_isub hx hb dX8_number_36 ?_
          refine lv_istore_n (lv' := [(1, .int (((10 * v) + (V 1031 t)) - 48)), (0, .ref (ad 1000)), (2, .int (nI t))]) hx hb dX8_number_37 rfl hl (by decide) rfl (fun ls hl => ?_)
          refine lv_iinc (v := nI (t + 1)) (lv' := [(2, .int (nI (t + 1))), (1, .int (((10 * v) + (V 1031 t)) - 48)), (0, .ref (ad 1000))]) hx hb dX8_number_38 hl (k := 2) rfl (by rw [show Int32.ofInt 1 = 1 from by decide]; exact nI_1 _) (by decide) rfl (fun ls hl => ?_)
          refine lv_goto (tgt := 7) hx hb dX8_number_41 (by decide) ?_
          exact ih (t + 1) _ (by omega) (by have h := hF; simp only [m_nuL, if_pos c_20] at h; exact h) _ _ _ hW hS (lv_sub hl [2, 1, 0] rfl)
  refine lv_iconst (v := 0) hx hb dX8_number_0 (by decide) ?_
  refine lv_istore_n (lv' := [(1, .int 0), (0, .ref (ad 1000))]) hx hb dX8_number_1 rfl hl (by decide) rfl (fun ls hl => ?_)
  refine lv_aload_n hx hb dX8_number_2 rfl (lv_at hl 1 rfl) ?_
  refine w_get (ci := 9) (T := TX8) hx hb hts hin_TX8 hown hK hW hM.1.1 hM.1.2 (by decide) rfl 37 (by decide) (hts (.fieldLink RX8 204 "TownClocksModel" "place" "I") (by decide +kernel)) (fun _ h9 => h9) rfl dX8_number_3 ?_
  refine w_i hpl ?_
  refine lv_istore_n (lv' := [(2, .int (nI a1)), (1, .int 0), (0, .ref (ad 1000))]) hx hb dX8_number_6 rfl hl (by decide) rfl (fun ls hl => ?_)
  exact JL (e1 - a1) a1 0 (by omega) hFe.symm _ _ _ hW hS (lv_sub hl [2, 1, 0] rfl)
set_option maxHeartbeats 4000000 in
set_option maxRecDepth 100000 in
theorem c_X8_name {X : (Nat → Prop) → State → Prop} (hxo : xok X) (l : Launch) (D : va_G) (q : Cq) {dm : List Nat} {kd ln ad : Nat → Nat} (V : Mv) (J : Mj) (R : Mr) (L : Nat) (hM : okM dm kd ln R) (ht : tkM V L) : CtL X l yX8_name wsX8_name ({ frames := 0, cells := 0, slots := 0, locals := 0 }) D q dm kd ln ad V J R [.ref (ad 1000)] (m_naR V) (V) (J) (R) := by
  refine CtL_of (cc := cX8_name) (maxL := 4) (ret := (some .long)) (by decide +kernel) rfl (Nat.le_of_ble_eq_true rfl) ?_
  intro p e s m below meth c A hx hb hr hml hts hown hlk hmn hK hW hA hXs ls hl
  have hS : va_S A s.heap s.heap [] := va_S.rf
  have hl : lv_has ls 4 [(0, .ref (ad 1000))] := hl
  have hin_TX8 : ∀ w ∈ u_ws RX8 TX8 48, w ∈ wsX8_name := by decide +kernel
  obtain ⟨hsz, hL3, hby, p1, a1, e1, hat, hpL, hpl, hen, hae, heL, hs4⟩ := id ht
  have hae2 : (V 1000 37).toNatClampNeg = a1 := by rw [hpl, nI_clamp (by omega)]
  have hee2 : (V 1000 38).toNatClampNeg = e1 := by rw [hen, nI_clamp (by omega)]
  obtain ⟨F, hFe⟩ : ∃ r, r = m_naL V (e1 - a1) a1 0 := ⟨_, rfl⟩
  have JL : ∀ n : Nat, ∀ (t : Nat) (v : Int64) (hn : t + n = e1) (hF : m_naL V n t v = F) (H : Heap) (locs : List Loc) (ls : Array Slot), wok A D q dm kd ln ad V J R H → va_S A s.heap H locs → lv_has ls 4 [(0, .ref (ad 1000)), (1, .long v), (3, .int (nI t))] → W p l e ({ frames := 0, cells := 0, slots := 0, locals := 0 }) s m ([.ref (ad 1000)] : List Value).toArray below meth c H locs 0 0 (MQ below (QL (m_naR V) D q dm kd ln ad (V) (J) (R) A) ([.ref (ad 1000)] : List Value).toArray s 0 0 A) (F0 m 7 ls []) := by
    intro n
    induction n with
    | zero =>
      intro t v hn hF H locs ls hW hS hl
      refine lv_iload_n hx hb dX8_name_7 rfl (lv_at hl 2 rfl) ?_
      refine lv_aload_n hx hb dX8_name_8 rfl (lv_at hl 0 rfl) ?_
      refine w_get (ci := 9) (T := TX8) hx hb hts hin_TX8 hown hK hW hM.1.1 hM.1.2 (by decide) rfl 38 (by decide) (hts (.fieldLink RX8 216 "TownClocksModel" "end" "I") (by decide +kernel)) (fun _ h9 => h9) rfl dX8_name_9 ?_
      refine lv_icmp_ge (tgt := 42) hx hb dX8_name_12 (by decide) (fun c_12 => ?_) (fun c_12 => ?_)
      · refine lv_lload_n hx hb dX8_name_42 rfl (lv_at hl 1 rfl) ?_
        exact w_lret hx hb hr hlk hW hS (by rw [m_naR, hae2, hee2, ← hFe, ← hF]; rfl) rfl rfl rfl dX8_name_43
      · exact absurd (by rw [hen]; exact nI_le (by omega) (by omega)) c_12
    | succ n ih =>
      intro t v hn hF H locs ls hW hS hl
      refine lv_iload_n hx hb dX8_name_7 rfl (lv_at hl 2 rfl) ?_
      refine lv_aload_n hx hb dX8_name_8 rfl (lv_at hl 0 rfl) ?_
      refine w_get (ci := 9) (T := TX8) hx hb hts hin_TX8 hown hK hW hM.1.1 hM.1.2 (by decide) rfl 38 (by decide) (hts (.fieldLink RX8 216 "TownClocksModel" "end" "I") (by decide +kernel)) (fun _ h9 => h9) rfl dX8_name_9 ?_
      refine lv_icmp_ge (tgt := 42) hx hb dX8_name_12 (by decide) (fun c_12 => ?_) (fun c_12 => ?_)
      · exact absurd c_12 (by rw [hen]; exact nI_ge (by omega) (by omega))
      · refine lv_aload_n hx hb dX8_name_15 rfl (lv_at hl 0 rfl) ?_
        refine w_get (ci := 9) (T := TX8) hx hb hts hin_TX8 hown hK hW hM.1.1 hM.1.2 (by decide) rfl 36 (by decide) (hts (.fieldLink RX8 207 "TownClocksModel" "sort" "I") (by decide +kernel)) (fun _ h9 => h9) rfl dX8_name_16 ?_
        refine lv_iconst (v := 2) hx hb dX8_name_19 (by decide) ?_
        refine lv_icmp_ne (tgt := 42) hx hb dX8_name_20 (by decide) (fun c_20 => ?_) (fun c_20 => ?_)
        · refine lv_lload_n hx hb dX8_name_42 rfl (lv_at hl 1 rfl) ?_
          exact w_lret hx hb hr hlk hW hS (by rw [m_naR, hae2, hee2, ← hFe, ← hF]; simp only [m_naL, if_neg c_20]) rfl rfl rfl dX8_name_43
        · refine lv_lload_n hx hb dX8_name_23 rfl (lv_at hl 1 rfl) ?_
          refine lv_bipush (v := 8) hx hb dX8_name_24 (by decide) ?_
          refine lv_lshl hx hb dX8_name_26 rfl ?_
          refine lv_aload_n hx hb dX8_name_27 rfl (lv_at hl 0 rfl) ?_
          refine w_getr (ci := 9) (T := TX8) hx hb hts hin_TX8 hown hK hW hM.1.1 hM.1.2 (by decide) rfl 31 (by decide) (hts (.fieldLink RX8 77 "TownClocksModel" "tape" "[I") (by decide +kernel)) (fun _ h9 => h9) rfl (mo_31 hM).2.2.2 dX8_name_28 ?_
          refine lv_iload_n hx hb dX8_name_31 rfl (lv_at hl 2 rfl) ?_
          refine w_ialdN (t := t) hx hb hK hW (mo_31 hM).1 (mo_31 hM).2.1 ⟨by rw [(mo_31 hM).2.2.1]; omega, by omega⟩ dX8_name_32 ?_
          refine lv_i2l hx hb dX8_name_33 rfl ?_
          refine lv_lor hx hb dX8_name_34 ?_
          refine lv_lstore_n (lv' := [(1, .long ((v <<< ((8 : Int32).toInt64 &&& 63)) ||| ((V 1031 t).toInt64))), (0, .ref (ad 1000)), (3, .int (nI t))]) hx hb dX8_name_35 rfl hl (by decide) rfl (fun ls hl => ?_)
          refine lv_iinc (v := nI (t + 1)) (lv' := [(3, .int (nI (t + 1))), (1, .long ((v <<< ((8 : Int32).toInt64 &&& 63)) ||| ((V 1031 t).toInt64))), (0, .ref (ad 1000))]) hx hb dX8_name_36 hl (k := 2) rfl (by rw [show Int32.ofInt 1 = 1 from by decide]; exact nI_1 _) (by decide) rfl (fun ls hl => ?_)
          refine lv_goto (tgt := 7) hx hb dX8_name_39 (by decide) ?_
          exact ih (t + 1) _ (by omega) (by have h := hF; simp only [m_naL, if_pos c_20] at h; exact h) _ _ _ hW hS (lv_sub hl [2, 1, 0] rfl)
  refine lv_lconst (v := 0) hx hb dX8_name_0 (by decide) ?_
  refine lv_lstore_n (lv' := [(1, .long 0), (0, .ref (ad 1000))]) hx hb dX8_name_1 rfl hl (by decide) rfl (fun ls hl => ?_)
  refine lv_aload_n hx hb dX8_name_2 rfl (lv_at hl 1 rfl) ?_
  refine w_get (ci := 9) (T := TX8) hx hb hts hin_TX8 hown hK hW hM.1.1 hM.1.2 (by decide) rfl 37 (by decide) (hts (.fieldLink RX8 204 "TownClocksModel" "place" "I") (by decide +kernel)) (fun _ h9 => h9) rfl dX8_name_3 ?_
  refine w_i hpl ?_
  refine lv_istore_n (lv' := [(3, .int (nI a1)), (1, .long 0), (0, .ref (ad 1000))]) hx hb dX8_name_6 rfl hl (by decide) rfl (fun ls hl => ?_)
  exact JL (e1 - a1) a1 0 (by omega) hFe.symm _ _ _ hW hS (lv_sub hl [2, 1, 0] rfl)
set_option maxHeartbeats 4000000 in
set_option maxRecDepth 100000 in
theorem c_X8_readOne {X : (Nat → Prop) → State → Prop} (hxo : xok X) (l : Launch) (D : va_G) (q : Cq) {dm : List Nat} {kd ln ad : Nat → Nat} (V : Mv) (J : Mj) (R : Mr) (nP nD : Nat) (L T : Nat) (hM : okM dm kd ln R) (hmp : V 1000 1 = nI nP) (hnP : nP ≤ 30) (hmq : V 1000 7 = nI nD) (hnD : nD ≤ 40) (ht : tkM V L) (hT : V 1000 41 = nI T) (hT40 : T < 40) : CtV X l yX8_readOne wsX8_readOne ({ frames := 3, cells := 0, slots := 0, locals := 63 }) D q dm kd ln ad V J R [.ref (ad 1000)] (m_rA V nD) (J) (R) := by
  refine CtV_of (cc := cX8_readOne) (maxL := 7) (ret := none) (by decide +kernel) rfl (Nat.le_of_ble_eq_true rfl) ?_
  intro p e s m below meth c A hx hb hr hml hts hown hlk hmn hK hW hA hXs ls hl
  have hS : va_S A s.heap s.heap [] := va_S.rf
  have hl : lv_has ls 7 [(0, .ref (ad 1000))] := hl
  have hin_TX8 : ∀ w ∈ u_ws RX8 TX8 48, w ∈ wsX8_readOne := by decide +kernel
  obtain ⟨F, hFe⟩ : ∃ r, r = m_rA V nD := ⟨_, rfl⟩
  have J209 : ∀ (Vw : Mv) (ht : tkM Vw L) (hg : agT Vw V) (d s4 a5 b6 : Int32) (hF : m_rI Vw d s4 a5 b6 = F) (H : Heap) (locs : List Loc) (ls : Array Slot), wok A D q dm kd ln ad Vw J R H → va_S A s.heap H locs → lv_has ls 7 [(0, .ref (ad 1000)), (1, .int d), (4, .int s4), (5, .int a5), (6, .int b6)] → W p l e ({ frames := 3, cells := 0, slots := 0, locals := 63 }) s m ([.ref (ad 1000)] : List Value).toArray below meth c H locs 0 0 (MQ below (QV D q dm kd ln ad (m_rA V nD) (J) (R) A) ([.ref (ad 1000)] : List Value).toArray s 0 0 A) (F0 m 209 ls []) := by
    intro Vw ht hg d s4 a5 b6 hF H locs ls hW hS hl
    refine lv_aload_n hx hb dX8_readOne_209 rfl (lv_at hl 0 rfl) ?_
    refine lv_aload_n hx hb dX8_readOne_210 rfl (lv_at hl 0 rfl) ?_
    refine lv_bipush (v := 59) hx hb dX8_readOne_211 (by decide) ?_
    refine w_ci (w_runV ⟨hx, hb, hml, hown, hts⟩ (c_X8_is hxo l D q Vw J R L 59 hM ht) hxo (cwV 1 hts gX8_readOne_X8_is rfl rfl rfl (by decide +kernel) ⟨Nat.le_of_ble_eq_true rfl, Nat.le_of_ble_eq_true rfl⟩) hK hW hS hA hXs (w_rcv hK hW hM.1.1 hM.1.2 (by decide) rfl) rfl hl.1 rfl (Nat.le_of_ble_eq_true rfl) dX8_readOne_213 ⟨Nat.zero_le _, Nat.zero_le _⟩) hW hS hA (fun H locs hW hS => ?_)
    refine w_cv (w_runV ⟨hx, hb, hml, hown, hts⟩ (c_X8_take hxo l D q Vw J R L (bz (m_is Vw 59)) hM ht) hxo (cwV 1 hts gX8_readOne_X8_take rfl rfl rfl (by decide +kernel) ⟨Nat.le_of_ble_eq_true rfl, Nat.le_of_ble_eq_true rfl⟩) hK hW hS hA hXs (w_rcv hK hW hM.1.1 hM.1.2 (by decide) rfl) rfl hl.1 rfl (Nat.le_of_ble_eq_true rfl) dX8_readOne_216 ⟨Nat.zero_le _, Nat.zero_le _⟩) hW hS hA (fun H locs hW hS => ?_)
    rw [m_rI] at hF
    obtain ⟨V2, hV2⟩ : ∃ r, r = m_takeV Vw (bz (m_is Vw 59)) := ⟨_, rfl⟩
    rw [← hV2] at hW hF
    have ht2 : tkM V2 L := by rw [hV2]; exact tkM_take ht
    have hg2 : agT V2 V := by rw [hV2]; exact agT_take hg
    refine lv_aload_n hx hb dX8_readOne_219 rfl (lv_at hl 0 rfl) ?_
    refine w_get (ci := 9) (T := TX8) hx hb hts hin_TX8 hown hK hW hM.1.1 hM.1.2 (by decide) rfl 39 (by decide) (hts (.fieldLink RX8 219 "TownClocksModel" "fault" "I") (by decide +kernel)) (fun _ h9 => h9) rfl dX8_readOne_220 ?_
    refine lv_if_ne (tgt := 279) hx hb dX8_readOne_223 (by decide) (fun c_223 => ?_) (fun c_223 => ?_)
    · exact w_vret hx hb hr hlk hW hS (by rw [← hFe, ← hF, m_rJ, if_neg c_223]) rfl rfl dX8_readOne_279
    · refine lv_aload_n hx hb dX8_readOne_226 rfl (lv_at hl 0 rfl) ?_
      refine w_getr (ci := 9) (T := TX8) hx hb hts hin_TX8 hown hK hW hM.1.1 hM.1.2 (by decide) rfl 42 (by decide) (hts (.fieldLink RX8 80 "TownClocksModel" "toldDial" "[I") (by decide +kernel)) (fun _ h9 => h9) rfl (mo_42 hM).2.2.2 dX8_readOne_227 ?_
      refine lv_aload_n hx hb dX8_readOne_230 rfl (lv_at hl 0 rfl) ?_
      refine w_get (ci := 9) (T := TX8) hx hb hts hin_TX8 hown hK hW hM.1.1 hM.1.2 (by decide) rfl 41 (by decide) (hts (.fieldLink RX8 254 "TownClocksModel" "told" "I") (by decide +kernel)) (fun _ h9 => h9) rfl dX8_readOne_231 ?_
      refine w_i (show V2 1000 41 = nI T by rw [hg2 41 (by decide), hT]) ?_
      refine lv_iload_n hx hb dX8_readOne_234 rfl (lv_at hl 1 rfl) ?_
      refine w_iastN (t := T) hx hb hK hW hS (mo_42 hM).1 (mo_42 hM).2.1 ⟨by rw [(mo_42 hM).2.2.1]; omega, by omega⟩ dX8_readOne_235 (fun H locs hW hS => ?_)
      refine lv_aload_n hx hb dX8_readOne_236 rfl (lv_at hl 0 rfl) ?_
      refine w_getr (ci := 9) (T := TX8) hx hb hts hin_TX8 hown hK hW hM.1.1 hM.1.2 (by decide) rfl 43 (by decide) (hts (.fieldLink RX8 83 "TownClocksModel" "toldSort" "[I") (by decide +kernel)) (fun _ h9 => h9) rfl (mo_43 hM).2.2.2 dX8_readOne_237 ?_
      refine lv_aload_n hx hb dX8_readOne_240 rfl (lv_at hl 0 rfl) ?_
      refine w_get (ci := 9) (T := TX8) hx hb hts hin_TX8 hown hK hW hM.1.1 hM.1.2 (by decide) rfl 41 (by decide) (hts (.fieldLink RX8 254 "TownClocksModel" "told" "I") (by decide +kernel)) (fun _ h9 => h9) rfl dX8_readOne_241 ?_
      refine w_i (by rw [u2_ne (by decide)]) ?_
      refine w_i (show V2 1000 41 = nI T by rw [hg2 41 (by decide), hT]) ?_
      refine lv_iload hx hb dX8_readOne_244 (lv_at hl 2 rfl) ?_
      refine w_iastN (t := T) hx hb hK hW hS (mo_43 hM).1 (mo_43 hM).2.1 ⟨by rw [(mo_43 hM).2.2.1]; omega, by omega⟩ dX8_readOne_246 (fun H locs hW hS => ?_)
      refine lv_aload_n hx hb dX8_readOne_247 rfl (lv_at hl 0 rfl) ?_
      refine w_getr (ci := 9) (T := TX8) hx hb hts hin_TX8 hown hK hW hM.1.1 hM.1.2 (by decide) rfl 44 (by decide) (hts (.fieldLink RX8 86 "TownClocksModel" "toldFirst" "[I") (by decide +kernel)) (fun _ h9 => h9) rfl (mo_44 hM).2.2.2 dX8_readOne_248 ?_
      refine lv_aload_n hx hb dX8_readOne_251 rfl (lv_at hl 0 rfl) ?_
      refine w_get (ci := 9) (T := TX8) hx hb hts hin_TX8 hown hK hW hM.1.1 hM.1.2 (by decide) rfl 41 (by decide) (hts (.fieldLink RX8 254 "TownClocksModel" "told" "I") (by decide +kernel)) (fun _ h9 => h9) rfl dX8_readOne_252 ?_
      refine w_i (by rw [u2_ne (by decide), u2_ne (by decide)]) ?_
      refine w_i (show V2 1000 41 = nI T by rw [hg2 41 (by decide), hT]) ?_
      refine lv_iload hx hb dX8_readOne_255 (lv_at hl 3 rfl) ?_
      refine w_iastN (t := T) hx hb hK hW hS (mo_44 hM).1 (mo_44 hM).2.1 ⟨by rw [(mo_44 hM).2.2.1]; omega, by omega⟩ dX8_readOne_257 (fun H locs hW hS => ?_)
      refine lv_aload_n hx hb dX8_readOne_258 rfl (lv_at hl 0 rfl) ?_
      refine w_getr (ci := 9) (T := TX8) hx hb hts hin_TX8 hown hK hW hM.1.1 hM.1.2 (by decide) rfl 45 (by decide) (hts (.fieldLink RX8 89 "TownClocksModel" "toldSecond" "[I") (by decide +kernel)) (fun _ h9 => h9) rfl (mo_45 hM).2.2.2 dX8_readOne_259 ?_
      refine lv_aload_n hx hb dX8_readOne_262 rfl (lv_at hl 0 rfl) ?_
      refine w_get (ci := 9) (T := TX8) hx hb hts hin_TX8 hown hK hW hM.1.1 hM.1.2 (by decide) rfl 41 (by decide) (hts (.fieldLink RX8 254 "TownClocksModel" "told" "I") (by decide +kernel)) (fun _ h9 => h9) rfl dX8_readOne_263 ?_
      refine w_i (by rw [u2_ne (by decide), u2_ne (by decide), u2_ne (by decide)]) ?_
      refine w_i (show V2 1000 41 = nI T by rw [hg2 41 (by decide), hT]) ?_
      refine lv_iload hx hb dX8_readOne_266 (lv_at hl 4 rfl) ?_
      refine w_iastN (t := T) hx hb hK hW hS (mo_45 hM).1 (mo_45 hM).2.1 ⟨by rw [(mo_45 hM).2.2.1]; omega, by omega⟩ dX8_readOne_268 (fun H locs hW hS => ?_)
      refine lv_aload_n hx hb dX8_readOne_269 rfl (lv_at hl 0 rfl) ?_
      refine lv_dup hx hb dX8_readOne_270 rfl ?_
      refine w_get (ci := 9) (T := TX8) hx hb hts hin_TX8 hown hK hW hM.1.1 hM.1.2 (by decide) rfl 41 (by decide) (hts (.fieldLink RX8 254 "TownClocksModel" "told" "I") (by decide +kernel)) (fun _ h9 => h9) rfl dX8_readOne_271 ?_
      refine w_i (by rw [u2_ne (by decide), u2_ne (by decide), u2_ne (by decide), u2_ne (by decide)]) ?_
      refine lv_iconst (v := 1) hx hb dX8_readOne_274 (by decide) ?_
      refine lv_iadd hx hb dX8_readOne_275 ?_
      refine w_puti (ci := 9) (T := TX8) (ty := .int) hx hb hts hin_TX8 tyX8 tyX8_ok nmX8 hown hK hW hS hM.1.1 hM.1.2 (by decide) rfl 41 (by decide) (hts (.fieldLink RX8 254 "TownClocksModel" "told" "I") (by decide +kernel)) (fun _ h9 => h9) rfl (tyX8_ok 41 (by decide)) rfl rfl (Nat.le_of_ble_eq_true rfl) rfl dX8_readOne_276 (fun H locs hW hS => ?_)
      exact w_vret hx hb hr hlk hW hS (by rw [← hFe, ← hF, m_rJ, if_pos c_223]; simp only [show (V2 1000 41).toNatClampNeg = T from by rw [hg2 41 (by decide), hT, nI_clamp (by omega)]]) rfl rfl dX8_readOne_279
  have J206 : ∀ (Vw : Mv) (ht : tkM Vw L) (hg : agT Vw V) (d s4 a5 b6 so : Int32) (hF : m_rI (m_takeV Vw so) d s4 a5 b6 = F) (H : Heap) (locs : List Loc) (ls : Array Slot), wok A D q dm kd ln ad Vw J R H → va_S A s.heap H locs → lv_has ls 7 [(0, .ref (ad 1000)), (1, .int d), (4, .int s4), (5, .int a5), (6, .int b6)] → W p l e ({ frames := 3, cells := 0, slots := 0, locals := 63 }) s m ([.ref (ad 1000)] : List Value).toArray below meth c H locs 0 0 (MQ below (QV D q dm kd ln ad (m_rA V nD) (J) (R) A) ([.ref (ad 1000)] : List Value).toArray s 0 0 A) (F0 m 206 ls [.int so, .ref (ad 1000)]) := by
    intro Vw ht hg d s4 a5 b6 so hF H locs ls hW hS hl
    refine w_cv (w_runV ⟨hx, hb, hml, hown, hts⟩ (c_X8_take hxo l D q Vw J R L so hM ht) hxo (cwV 1 hts gX8_readOne_X8_take rfl rfl rfl (by decide +kernel) ⟨Nat.le_of_ble_eq_true rfl, Nat.le_of_ble_eq_true rfl⟩) hK hW hS hA hXs (w_rcv hK hW hM.1.1 hM.1.2 (by decide) rfl) rfl hl.1 rfl (Nat.le_of_ble_eq_true rfl) dX8_readOne_206 ⟨Nat.zero_le _, Nat.zero_le _⟩) hW hS hA (fun H locs hW hS => ?_)
    obtain ⟨V2, hV2⟩ : ∃ r, r = m_takeV Vw so := ⟨_, rfl⟩
    rw [← hV2] at hW hF
    have ht2 : tkM V2 L := by rw [hV2]; exact tkM_take ht
    have hg2 : agT V2 V := by rw [hV2]; exact agT_take hg
    exact J209 V2 ht2 hg2 d s4 a5 b6 hF _ _ _ hW hS (lv_sub hl [0, 1, 2, 3, 4] rfl)
  have J184 : ∀ (Vw : Mv) (ht : tkM Vw L) (hg : agT Vw V) (d s4 a5 b6 : Int32) (hF : m_rI (if s4 = 3 then m_takeV Vw (bz (Vw 1000 36 = 3)) else Vw) d s4 a5 b6 = F) (H : Heap) (locs : List Loc) (ls : Array Slot), wok A D q dm kd ln ad Vw J R H → va_S A s.heap H locs → lv_has ls 7 [(0, .ref (ad 1000)), (1, .int d), (4, .int s4), (5, .int a5)] → W p l e ({ frames := 3, cells := 0, slots := 0, locals := 63 }) s m ([.ref (ad 1000)] : List Value).toArray below meth c H locs 0 0 (MQ below (QV D q dm kd ln ad (m_rA V nD) (J) (R) A) ([.ref (ad 1000)] : List Value).toArray s 0 0 A) (F0 m 184 ls [.int b6]) := by
    intro Vw ht hg d s4 a5 b6 hF H locs ls hW hS hl
    refine lv_istore (lv' := [(6, .int b6), (0, .ref (ad 1000)), (1, .int d), (4, .int s4), (5, .int a5)]) hx hb dX8_readOne_184 hl (by decide) rfl (fun ls hl => ?_)
    refine lv_iload hx hb dX8_readOne_186 (lv_at hl 3 rfl) ?_
    refine lv_iconst (v := 3) hx hb dX8_readOne_188 (by decide) ?_
    refine lv_icmp_ne (tgt := 209) hx hb dX8_readOne_189 (by decide) (fun c_189 => ?_) (fun c_189 => ?_)
    · exact J209 Vw ht hg d s4 a5 b6 (by rw [← hF, if_neg c_189]) _ _ _ hW hS (lv_sub hl [1, 2, 3, 4, 0] rfl)
    · refine lv_aload_n hx hb dX8_readOne_192 rfl (lv_at hl 1 rfl) ?_
      refine lv_aload_n hx hb dX8_readOne_193 rfl (lv_at hl 1 rfl) ?_
      refine w_get (ci := 9) (T := TX8) hx hb hts hin_TX8 hown hK hW hM.1.1 hM.1.2 (by decide) rfl 36 (by decide) (hts (.fieldLink RX8 207 "TownClocksModel" "sort" "I") (by decide +kernel)) (fun _ h9 => h9) rfl dX8_readOne_194 ?_
      refine lv_iconst (v := 3) hx hb dX8_readOne_197 (by decide) ?_
      refine lv_icmp_ne (tgt := 205) hx hb dX8_readOne_198 (by decide) (fun c_198 => ?_) (fun c_198 => ?_)
      · refine lv_iconst (v := 0) hx hb dX8_readOne_205 (by decide) ?_
        exact J206 Vw ht hg d s4 a5 b6 0 (by rw [← hF, if_pos c_189, bz_f c_198]) _ _ _ hW hS (lv_sub hl [1, 2, 3, 4, 0] rfl)
      · refine lv_iconst (v := 1) hx hb dX8_readOne_201 (by decide) ?_
        refine lv_goto (tgt := 206) hx hb dX8_readOne_202 (by decide) ?_
        exact J206 Vw ht hg d s4 a5 b6 1 (by rw [← hF, if_pos c_189, bz_t c_198]) _ _ _ hW hS (lv_sub hl [1, 2, 3, 4, 0] rfl)
  have J167 : ∀ (Vw : Mv) (ht : tkM Vw L) (hg : agT Vw V) (d s4 a5 so : Int32) (hF : m_rH (m_takeV Vw so) d s4 a5 = F) (H : Heap) (locs : List Loc) (ls : Array Slot), wok A D q dm kd ln ad Vw J R H → va_S A s.heap H locs → lv_has ls 7 [(0, .ref (ad 1000)), (1, .int d), (4, .int s4), (5, .int a5)] → W p l e ({ frames := 3, cells := 0, slots := 0, locals := 63 }) s m ([.ref (ad 1000)] : List Value).toArray below meth c H locs 0 0 (MQ below (QV D q dm kd ln ad (m_rA V nD) (J) (R) A) ([.ref (ad 1000)] : List Value).toArray s 0 0 A) (F0 m 167 ls [.int so, .ref (ad 1000)]) := by
    intro Vw ht hg d s4 a5 so hF H locs ls hW hS hl
    refine w_cv (w_runV ⟨hx, hb, hml, hown, hts⟩ (c_X8_take hxo l D q Vw J R L so hM ht) hxo (cwV 1 hts gX8_readOne_X8_take rfl rfl rfl (by decide +kernel) ⟨Nat.le_of_ble_eq_true rfl, Nat.le_of_ble_eq_true rfl⟩) hK hW hS hA hXs (w_rcv hK hW hM.1.1 hM.1.2 (by decide) rfl) rfl hl.1 rfl (Nat.le_of_ble_eq_true rfl) dX8_readOne_167 ⟨Nat.zero_le _, Nat.zero_le _⟩) hW hS hA (fun H locs hW hS => ?_)
    obtain ⟨V2, hV2⟩ : ∃ r, r = m_takeV Vw so := ⟨_, rfl⟩
    rw [← hV2] at hW hF
    have ht2 : tkM V2 L := by rw [hV2]; exact tkM_take ht
    have hg2 : agT V2 V := by rw [hV2]; exact agT_take hg
    refine lv_iload hx hb dX8_readOne_170 (lv_at hl 2 rfl) ?_
    refine lv_iconst (v := 3) hx hb dX8_readOne_172 (by decide) ?_
    refine lv_icmp_ne (tgt := 183) hx hb dX8_readOne_173 (by decide) (fun c_173 => ?_) (fun c_173 => ?_)
    · refine lv_iconst (v := 0) hx hb dX8_readOne_183 (by decide) ?_
      exact J184 V2 ht2 hg2 d s4 a5 0 (by rw [← hF, m_rH, if_neg c_173, if_neg c_173]) _ _ _ hW hS (lv_sub hl [0, 1, 2, 3] rfl)
    · refine lv_aload_n hx hb dX8_readOne_176 rfl (lv_at hl 0 rfl) ?_
      refine w_ci (w_runV ⟨hx, hb, hml, hown, hts⟩ (c_X8_number hxo l D q V2 J R L hM ht2) hxo (cwV 0 hts gX8_readOne_X8_number rfl rfl rfl (by decide +kernel) ⟨Nat.le_of_ble_eq_true rfl, Nat.le_of_ble_eq_true rfl⟩) hK hW hS hA hXs (w_rcv hK hW hM.1.1 hM.1.2 (by decide) rfl) rfl hl.1 rfl (Nat.le_of_ble_eq_true rfl) dX8_readOne_177 ⟨Nat.zero_le _, Nat.zero_le _⟩) hW hS hA (fun H locs hW hS => ?_)
      refine lv_goto (tgt := 184) hx hb dX8_readOne_180 (by decide) ?_
      exact J184 V2 ht2 hg2 d s4 a5 (m_nuR V2) (by rw [← hF, m_rH, if_pos c_173, if_pos c_173]) _ _ _ hW hS (lv_sub hl [0, 1, 2, 3] rfl)
  have J147 : ∀ (Vw : Mv) (ht : tkM Vw L) (hg : agT Vw V) (d s4 : Int32) (hF : m_rG Vw d s4 = F) (H : Heap) (locs : List Loc) (ls : Array Slot), wok A D q dm kd ln ad Vw J R H → va_S A s.heap H locs → lv_has ls 7 [(0, .ref (ad 1000)), (1, .int d), (4, .int s4)] → W p l e ({ frames := 3, cells := 0, slots := 0, locals := 63 }) s m ([.ref (ad 1000)] : List Value).toArray below meth c H locs 0 0 (MQ below (QV D q dm kd ln ad (m_rA V nD) (J) (R) A) ([.ref (ad 1000)] : List Value).toArray s 0 0 A) (F0 m 147 ls []) := by
    intro Vw ht hg d s4 hF H locs ls hW hS hl
    refine lv_aload_n hx hb dX8_readOne_147 rfl (lv_at hl 0 rfl) ?_
    refine w_ci (w_runV ⟨hx, hb, hml, hown, hts⟩ (c_X8_number hxo l D q Vw J R L hM ht) hxo (cwV 0 hts gX8_readOne_X8_number rfl rfl rfl (by decide +kernel) ⟨Nat.le_of_ble_eq_true rfl, Nat.le_of_ble_eq_true rfl⟩) hK hW hS hA hXs (w_rcv hK hW hM.1.1 hM.1.2 (by decide) rfl) rfl hl.1 rfl (Nat.le_of_ble_eq_true rfl) dX8_readOne_148 ⟨Nat.zero_le _, Nat.zero_le _⟩) hW hS hA (fun H locs hW hS => ?_)
    refine lv_istore (lv' := [(5, .int (m_nuR Vw)), (0, .ref (ad 1000)), (1, .int d), (4, .int s4)]) hx hb dX8_readOne_151 hl (by decide) rfl (fun ls hl => ?_)
    refine lv_aload_n hx hb dX8_readOne_153 rfl (lv_at hl 1 rfl) ?_
    refine lv_aload_n hx hb dX8_readOne_154 rfl (lv_at hl 1 rfl) ?_
    refine w_get (ci := 9) (T := TX8) hx hb hts hin_TX8 hown hK hW hM.1.1 hM.1.2 (by decide) rfl 36 (by decide) (hts (.fieldLink RX8 207 "TownClocksModel" "sort" "I") (by decide +kernel)) (fun _ h9 => h9) rfl dX8_readOne_155 ?_
    refine lv_iconst (v := 3) hx hb dX8_readOne_158 (by decide) ?_
    refine lv_icmp_ne (tgt := 166) hx hb dX8_readOne_159 (by decide) (fun c_159 => ?_) (fun c_159 => ?_)
    · refine lv_iconst (v := 0) hx hb dX8_readOne_166 (by decide) ?_
      exact J167 Vw ht hg d s4 (m_nuR Vw) 0 (by rw [← hF, m_rG, bz_f c_159]) _ _ _ hW hS (lv_sub hl [1, 2, 3, 0] rfl)
    · refine lv_iconst (v := 1) hx hb dX8_readOne_162 (by decide) ?_
      refine lv_goto (tgt := 167) hx hb dX8_readOne_163 (by decide) ?_
      exact J167 Vw ht hg d s4 (m_nuR Vw) 1 (by rw [← hF, m_rG, bz_t c_159]) _ _ _ hW hS (lv_sub hl [1, 2, 3, 0] rfl)
  have J128 : ∀ (Vw : Mv) (ht : tkM Vw L) (hg : agT Vw V) (d s4 so : Int32) (hF : m_rF (m_takeV Vw so) d s4 = F) (H : Heap) (locs : List Loc) (ls : Array Slot), wok A D q dm kd ln ad Vw J R H → va_S A s.heap H locs → lv_has ls 7 [(0, .ref (ad 1000)), (1, .int d), (4, .int s4)] → W p l e ({ frames := 3, cells := 0, slots := 0, locals := 63 }) s m ([.ref (ad 1000)] : List Value).toArray below meth c H locs 0 0 (MQ below (QV D q dm kd ln ad (m_rA V nD) (J) (R) A) ([.ref (ad 1000)] : List Value).toArray s 0 0 A) (F0 m 128 ls [.int so, .ref (ad 1000)]) := by
    intro Vw ht hg d s4 so hF H locs ls hW hS hl
    refine w_cv (w_runV ⟨hx, hb, hml, hown, hts⟩ (c_X8_take hxo l D q Vw J R L so hM ht) hxo (cwV 1 hts gX8_readOne_X8_take rfl rfl rfl (by decide +kernel) ⟨Nat.le_of_ble_eq_true rfl, Nat.le_of_ble_eq_true rfl⟩) hK hW hS hA hXs (w_rcv hK hW hM.1.1 hM.1.2 (by decide) rfl) rfl hl.1 rfl (Nat.le_of_ble_eq_true rfl) dX8_readOne_128 ⟨Nat.zero_le _, Nat.zero_le _⟩) hW hS hA (fun H locs hW hS => ?_)
    obtain ⟨V2, hV2⟩ : ∃ r, r = m_takeV Vw so := ⟨_, rfl⟩
    rw [← hV2] at hW hF
    have ht2 : tkM V2 L := by rw [hV2]; exact tkM_take ht
    have hg2 : agT V2 V := by rw [hV2]; exact agT_take hg
    refine lv_iload hx hb dX8_readOne_131 (lv_at hl 2 rfl) ?_
    refine lv_iconst (v := 3) hx hb dX8_readOne_133 (by decide) ?_
    refine lv_icmp_ne (tgt := 147) hx hb dX8_readOne_134 (by decide) (fun c_134 => ?_) (fun c_134 => ?_)
    · exact J147 V2 ht2 hg2 d s4 (by rw [← hF, m_rF, if_neg c_134]) _ _ _ hW hS (lv_sub hl [0, 1, 2] rfl)
    · refine lv_aload_n hx hb dX8_readOne_137 rfl (lv_at hl 0 rfl) ?_
      refine lv_aload_n hx hb dX8_readOne_138 rfl (lv_at hl 0 rfl) ?_
      refine lv_bipush (v := 60) hx hb dX8_readOne_139 (by decide) ?_
      refine w_ci (w_runV ⟨hx, hb, hml, hown, hts⟩ (c_X8_is hxo l D q V2 J R L 60 hM ht2) hxo (cwV 1 hts gX8_readOne_X8_is rfl rfl rfl (by decide +kernel) ⟨Nat.le_of_ble_eq_true rfl, Nat.le_of_ble_eq_true rfl⟩) hK hW hS hA hXs (w_rcv hK hW hM.1.1 hM.1.2 (by decide) rfl) rfl hl.1 rfl (Nat.le_of_ble_eq_true rfl) dX8_readOne_141 ⟨Nat.zero_le _, Nat.zero_le _⟩) hW hS hA (fun H locs hW hS => ?_)
      refine w_cv (w_runV ⟨hx, hb, hml, hown, hts⟩ (c_X8_take hxo l D q V2 J R L (bz (m_is V2 60)) hM ht2) hxo (cwV 1 hts gX8_readOne_X8_take rfl rfl rfl (by decide +kernel) ⟨Nat.le_of_ble_eq_true rfl, Nat.le_of_ble_eq_true rfl⟩) hK hW hS hA hXs (w_rcv hK hW hM.1.1 hM.1.2 (by decide) rfl) rfl hl.1 rfl (Nat.le_of_ble_eq_true rfl) dX8_readOne_144 ⟨Nat.zero_le _, Nat.zero_le _⟩) hW hS hA (fun H locs hW hS => ?_)
      exact J147 _ (tkM_take ht2) (agT_take hg2) d s4 (by rw [← hF, m_rF, if_pos c_134]) _ _ _ hW hS (lv_sub hl [0, 1, 2] rfl)
  have J115 : ∀ (Vw : Mv) (ht : tkM Vw L) (hg : agT Vw V) (d s4 : Int32) (hF : m_rE Vw d s4 = F) (H : Heap) (locs : List Loc) (ls : Array Slot), wok A D q dm kd ln ad Vw J R H → va_S A s.heap H locs → lv_has ls 7 [(0, .ref (ad 1000)), (1, .int d)] → W p l e ({ frames := 3, cells := 0, slots := 0, locals := 63 }) s m ([.ref (ad 1000)] : List Value).toArray below meth c H locs 0 0 (MQ below (QV D q dm kd ln ad (m_rA V nD) (J) (R) A) ([.ref (ad 1000)] : List Value).toArray s 0 0 A) (F0 m 115 ls [.int s4]) := by
    intro Vw ht hg d s4 hF H locs ls hW hS hl
    refine lv_istore (lv' := [(4, .int s4), (0, .ref (ad 1000)), (1, .int d)]) hx hb dX8_readOne_115 hl (by decide) rfl (fun ls hl => ?_)
    refine lv_aload_n hx hb dX8_readOne_117 rfl (lv_at hl 1 rfl) ?_
    refine lv_iload hx hb dX8_readOne_118 (lv_at hl 0 rfl) ?_
    refine lv_if_le (tgt := 127) hx hb dX8_readOne_120 (by decide) (fun c_120 => ?_) (fun c_120 => ?_)
    · refine lv_iconst (v := 0) hx hb dX8_readOne_127 (by decide) ?_
      exact J128 Vw ht hg d s4 0 (by rw [← hF, m_rE, bz_f (Int32.not_lt.mpr c_120)]) _ _ _ hW hS (lv_sub hl [1, 2, 0] rfl)
    · refine lv_iconst (v := 1) hx hb dX8_readOne_123 (by decide) ?_
      refine lv_goto (tgt := 128) hx hb dX8_readOne_124 (by decide) ?_
      exact J128 Vw ht hg d s4 1 (by rw [← hF, m_rE, bz_t (Int32.not_le.mp c_120)]) _ _ _ hW hS (lv_sub hl [1, 2, 0] rfl)
  have J70 : ∀ (Vw : Mv) (ht : tkM Vw L) (hg : agT Vw V) (d so : Int32) (hF : m_rD (m_takeV Vw so) d = F) (H : Heap) (locs : List Loc) (ls : Array Slot), wok A D q dm kd ln ad Vw J R H → va_S A s.heap H locs → lv_has ls 7 [(0, .ref (ad 1000)), (1, .int d)] → W p l e ({ frames := 3, cells := 0, slots := 0, locals := 63 }) s m ([.ref (ad 1000)] : List Value).toArray below meth c H locs 0 0 (MQ below (QV D q dm kd ln ad (m_rA V nD) (J) (R) A) ([.ref (ad 1000)] : List Value).toArray s 0 0 A) (F0 m 70 ls [.int so, .ref (ad 1000)]) := by
    intro Vw ht hg d so hF H locs ls hW hS hl
    refine w_cv (w_runV ⟨hx, hb, hml, hown, hts⟩ (c_X8_take hxo l D q Vw J R L so hM ht) hxo (cwV 1 hts gX8_readOne_X8_take rfl rfl rfl (by decide +kernel) ⟨Nat.le_of_ble_eq_true rfl, Nat.le_of_ble_eq_true rfl⟩) hK hW hS hA hXs (w_rcv hK hW hM.1.1 hM.1.2 (by decide) rfl) rfl hl.1 rfl (Nat.le_of_ble_eq_true rfl) dX8_readOne_70 ⟨Nat.zero_le _, Nat.zero_le _⟩) hW hS hA (fun H locs hW hS => ?_)
    obtain ⟨V2, hV2⟩ : ∃ r, r = m_takeV Vw so := ⟨_, rfl⟩
    rw [← hV2] at hW hF
    have ht2 : tkM V2 L := by rw [hV2]; exact tkM_take ht
    have hg2 : agT V2 V := by rw [hV2]; exact agT_take hg
    refine lv_aload_n hx hb dX8_readOne_73 rfl (lv_at hl 0 rfl) ?_
    refine w_cl (w_runV ⟨hx, hb, hml, hown, hts⟩ (c_X8_name hxo l D q V2 J R L hM ht2) hxo (cwV 0 hts gX8_readOne_X8_name rfl rfl rfl (by decide +kernel) ⟨Nat.le_of_ble_eq_true rfl, Nat.le_of_ble_eq_true rfl⟩) hK hW hS hA hXs (w_rcv hK hW hM.1.1 hM.1.2 (by decide) rfl) rfl hl.1 rfl (Nat.le_of_ble_eq_true rfl) dX8_readOne_74 ⟨Nat.zero_le _, Nat.zero_le _⟩) hW hS hA (fun H locs hW hS => ?_)
    refine lv_lstore_n (lv' := [(2, .long (m_naR V2)), (0, .ref (ad 1000)), (1, .int d)]) hx hb dX8_readOne_77 rfl hl (by decide) rfl (fun ls hl => ?_)
    refine lv_lload_n hx hb dX8_readOne_78 rfl (lv_at hl 0 rfl) ?_
    refine lv_ldc2 (v := 1718378868) hx hb hown (hts (.constantLong RX8 245 (1718378868)) (by decide +kernel)) dX8_readOne_79 ?_
    refine W.lcmp hx hb dX8_readOne_82 ?_
    refine lv_if_ne (tgt := 90) hx hb dX8_readOne_83 (by decide) (fun c_83 => ?_) (fun c_83 => ?_)
    · refine lv_lload_n hx hb dX8_readOne_90 rfl (lv_at hl 0 rfl) ?_
      refine lv_ldc2 (v := 491394656372) hx hb hown (hts (.constantLong RX8 247 (491394656372)) (by decide +kernel)) dX8_readOne_91 ?_
      refine W.lcmp hx hb dX8_readOne_94 ?_
      refine lv_if_ne (tgt := 102) hx hb dX8_readOne_95 (by decide) (fun c_95 => ?_) (fun c_95 => ?_)
      · refine lv_lload_n hx hb dX8_readOne_102 rfl (lv_at hl 0 rfl) ?_
        refine lv_ldc2 (v := 1818588019) hx hb hown (hts (.constantLong RX8 249 (1818588019)) (by decide +kernel)) dX8_readOne_103 ?_
        refine W.lcmp hx hb dX8_readOne_106 ?_
        refine lv_if_ne (tgt := 114) hx hb dX8_readOne_107 (by decide) (fun c_107 => ?_) (fun c_107 => ?_)
        · refine lv_iconst (v := 0) hx hb dX8_readOne_114 (by decide) ?_
          exact J115 V2 ht2 hg2 d 0 (by rw [← hF, m_rD, if_neg (fun h => c_83 ((lg_cmp_eq _ _).mpr h)), if_neg (fun h => c_95 ((lg_cmp_eq _ _).mpr h)), if_neg (fun h => c_107 ((lg_cmp_eq _ _).mpr h))]) _ _ _ hW hS (lv_sub hl [1, 2] rfl)
        · refine lv_iconst (v := 3) hx hb dX8_readOne_110 (by decide) ?_
          refine lv_goto (tgt := 115) hx hb dX8_readOne_111 (by decide) ?_
          exact J115 V2 ht2 hg2 d 3 (by rw [← hF, m_rD, if_neg (fun h => c_83 ((lg_cmp_eq _ _).mpr h)), if_neg (fun h => c_95 ((lg_cmp_eq _ _).mpr h)), if_pos ((lg_cmp_eq _ _).mp c_107)]) _ _ _ hW hS (lv_sub hl [1, 2] rfl)
      · refine lv_iconst (v := 2) hx hb dX8_readOne_98 (by decide) ?_
        refine lv_goto (tgt := 115) hx hb dX8_readOne_99 (by decide) ?_
        exact J115 V2 ht2 hg2 d 2 (by rw [← hF, m_rD, if_neg (fun h => c_83 ((lg_cmp_eq _ _).mpr h)), if_pos ((lg_cmp_eq _ _).mp c_95)]) _ _ _ hW hS (lv_sub hl [1, 2] rfl)
    · refine lv_iconst (v := 1) hx hb dX8_readOne_86 (by decide) ?_
      refine lv_goto (tgt := 115) hx hb dX8_readOne_87 (by decide) ?_
      exact J115 V2 ht2 hg2 d 1 (by rw [← hF, m_rD, if_pos ((lg_cmp_eq _ _).mp c_83)]) _ _ _ hW hS (lv_sub hl [1, 2] rfl)
  have J51 : ∀ (Vw : Mv) (ht : tkM Vw L) (hg : agT Vw V) (hF : m_rC Vw = F) (H : Heap) (locs : List Loc) (ls : Array Slot), wok A D q dm kd ln ad Vw J R H → va_S A s.heap H locs → lv_has ls 7 [(0, .ref (ad 1000))] → W p l e ({ frames := 3, cells := 0, slots := 0, locals := 63 }) s m ([.ref (ad 1000)] : List Value).toArray below meth c H locs 0 0 (MQ below (QV D q dm kd ln ad (m_rA V nD) (J) (R) A) ([.ref (ad 1000)] : List Value).toArray s 0 0 A) (F0 m 51 ls []) := by
    intro Vw ht hg hF H locs ls hW hS hl
    refine lv_aload_n hx hb dX8_readOne_51 rfl (lv_at hl 0 rfl) ?_
    refine w_ci (w_runV ⟨hx, hb, hml, hown, hts⟩ (c_X8_number hxo l D q Vw J R L hM ht) hxo (cwV 0 hts gX8_readOne_X8_number rfl rfl rfl (by decide +kernel) ⟨Nat.le_of_ble_eq_true rfl, Nat.le_of_ble_eq_true rfl⟩) hK hW hS hA hXs (w_rcv hK hW hM.1.1 hM.1.2 (by decide) rfl) rfl hl.1 rfl (Nat.le_of_ble_eq_true rfl) dX8_readOne_52 ⟨Nat.zero_le _, Nat.zero_le _⟩) hW hS hA (fun H locs hW hS => ?_)
    refine lv_istore_n (lv' := [(1, .int (m_nuR Vw)), (0, .ref (ad 1000))]) hx hb dX8_readOne_55 rfl hl (by decide) rfl (fun ls hl => ?_)
    refine lv_aload_n hx hb dX8_readOne_56 rfl (lv_at hl 1 rfl) ?_
    refine lv_aload_n hx hb dX8_readOne_57 rfl (lv_at hl 1 rfl) ?_
    refine w_get (ci := 9) (T := TX8) hx hb hts hin_TX8 hown hK hW hM.1.1 hM.1.2 (by decide) rfl 36 (by decide) (hts (.fieldLink RX8 207 "TownClocksModel" "sort" "I") (by decide +kernel)) (fun _ h9 => h9) rfl dX8_readOne_58 ?_
    refine lv_iconst (v := 3) hx hb dX8_readOne_61 (by decide) ?_
    refine lv_icmp_ne (tgt := 69) hx hb dX8_readOne_62 (by decide) (fun c_62 => ?_) (fun c_62 => ?_)
    · refine lv_iconst (v := 0) hx hb dX8_readOne_69 (by decide) ?_
      exact J70 Vw ht hg (m_nuR Vw) 0 (by rw [← hF, m_rC, bz_f c_62]) _ _ _ hW hS (lv_sub hl [1, 0] rfl)
    · refine lv_iconst (v := 1) hx hb dX8_readOne_65 (by decide) ?_
      refine lv_goto (tgt := 70) hx hb dX8_readOne_66 (by decide) ?_
      exact J70 Vw ht hg (m_nuR Vw) 1 (by rw [← hF, m_rC, bz_t c_62]) _ _ _ hW hS (lv_sub hl [1, 0] rfl)
  have J17 : ∀ (so : Int32) (ht : tkM V L) (hg : agT V V) (hF : m_rB (m_takeV V so) nD = F) (H : Heap) (locs : List Loc) (ls : Array Slot), wok A D q dm kd ln ad V J R H → va_S A s.heap H locs → lv_has ls 7 [(0, .ref (ad 1000))] → W p l e ({ frames := 3, cells := 0, slots := 0, locals := 63 }) s m ([.ref (ad 1000)] : List Value).toArray below meth c H locs 0 0 (MQ below (QV D q dm kd ln ad (m_rA V nD) (J) (R) A) ([.ref (ad 1000)] : List Value).toArray s 0 0 A) (F0 m 17 ls [.int so, .ref (ad 1000)]) := by
    intro so ht hg hF H locs ls hW hS hl
    refine w_cv (w_runV ⟨hx, hb, hml, hown, hts⟩ (c_X8_take hxo l D q V J R L so hM ht) hxo (cwV 1 hts gX8_readOne_X8_take rfl rfl rfl (by decide +kernel) ⟨Nat.le_of_ble_eq_true rfl, Nat.le_of_ble_eq_true rfl⟩) hK hW hS hA hXs (w_rcv hK hW hM.1.1 hM.1.2 (by decide) rfl) rfl hl.1 rfl (Nat.le_of_ble_eq_true rfl) dX8_readOne_17 ⟨Nat.zero_le _, Nat.zero_le _⟩) hW hS hA (fun H locs hW hS => ?_)
    obtain ⟨V2, hV2⟩ : ∃ r, r = m_takeV V so := ⟨_, rfl⟩
    rw [← hV2] at hW hF
    have ht2 : tkM V2 L := by rw [hV2]; exact tkM_take ht
    have hg2 : agT V2 V := by rw [hV2]; exact agT_take hg
    refine lv_aload_n hx hb dX8_readOne_20 rfl (lv_at hl 0 rfl) ?_
    refine w_get (ci := 9) (T := TX8) hx hb hts hin_TX8 hown hK hW hM.1.1 hM.1.2 (by decide) rfl 39 (by decide) (hts (.fieldLink RX8 219 "TownClocksModel" "fault" "I") (by decide +kernel)) (fun _ h9 => h9) rfl dX8_readOne_21 ?_
    refine lv_if_ne (tgt := 51) hx hb dX8_readOne_24 (by decide) (fun c_24 => ?_) (fun c_24 => ?_)
    · exact J51 V2 ht2 hg2 (by rw [← hF, m_rB]; simp only [if_neg c_24]) _ _ _ hW hS (lv_sub hl [0] rfl)
    · refine lv_aload_n hx hb dX8_readOne_27 rfl (lv_at hl 0 rfl) ?_
      refine w_get (ci := 9) (T := TX8) hx hb hts hin_TX8 hown hK hW hM.1.1 hM.1.2 (by decide) rfl 36 (by decide) (hts (.fieldLink RX8 207 "TownClocksModel" "sort" "I") (by decide +kernel)) (fun _ h9 => h9) rfl dX8_readOne_28 ?_
      refine lv_iconst (v := 3) hx hb dX8_readOne_31 (by decide) ?_
      refine lv_icmp_ne (tgt := 51) hx hb dX8_readOne_32 (by decide) (fun c_32 => ?_) (fun c_32 => ?_)
      · exact J51 V2 ht2 hg2 (by rw [← hF, m_rB]; simp only [if_pos c_24, if_neg c_32]) _ _ _ hW hS (lv_sub hl [0] rfl)
      · refine lv_aload_n hx hb dX8_readOne_35 rfl (lv_at hl 0 rfl) ?_
        refine lv_aload_n hx hb dX8_readOne_36 rfl (lv_at hl 0 rfl) ?_
        refine w_ci (w_runV ⟨hx, hb, hml, hown, hts⟩ (c_X8_number hxo l D q V2 J R L hM ht2) hxo (cwV 0 hts gX8_readOne_X8_number rfl rfl rfl (by decide +kernel) ⟨Nat.le_of_ble_eq_true rfl, Nat.le_of_ble_eq_true rfl⟩) hK hW hS hA hXs (w_rcv hK hW hM.1.1 hM.1.2 (by decide) rfl) rfl hl.1 rfl (Nat.le_of_ble_eq_true rfl) dX8_readOne_37 ⟨Nat.zero_le _, Nat.zero_le _⟩) hW hS hA (fun H locs hW hS => ?_)
        refine w_ci (w_runV ⟨hx, hb, hml, hown, hts⟩ (c_X8_isDial hxo l D q V2 J R nD (m_nuR V2) hM (by rw [hg2 7 (by decide)]; exact hmq) hnD) hxo (cwV 1 hts gX8_readOne_X8_isDial rfl rfl rfl (by decide +kernel) ⟨Nat.le_of_ble_eq_true rfl, Nat.le_of_ble_eq_true rfl⟩) hK hW hS hA hXs (w_rcv hK hW hM.1.1 hM.1.2 (by decide) rfl) rfl hl.1 rfl (Nat.le_of_ble_eq_true rfl) dX8_readOne_40 ⟨Nat.zero_le _, Nat.zero_le _⟩) hW hS hA (fun H locs hW hS => ?_)
        refine w_ifnz (tgt := 51) hx hb dX8_readOne_43 (by decide) (fun c_43 => ?_) (fun c_43 => ?_)
        · exact J51 V2 ht2 hg2 (by rw [← hF, m_rB]; simp only [if_pos c_24, if_pos c_32, if_pos c_43]) _ _ _ hW hS (lv_sub hl [0] rfl)
        · refine lv_aload_n hx hb dX8_readOne_46 rfl (lv_at hl 0 rfl) ?_
          refine lv_iconst (v := 2) hx hb dX8_readOne_47 (by decide) ?_
          refine w_cv (w_runV ⟨hx, hb, hml, hown, hts⟩ (c_X8_bad hxo l D q V2 J R 2 hM) hxo (cwV 1 hts gX8_readOne_X8_bad rfl rfl rfl (by decide +kernel) ⟨Nat.le_of_ble_eq_true rfl, Nat.le_of_ble_eq_true rfl⟩) hK hW hS hA hXs (w_rcv hK hW hM.1.1 hM.1.2 (by decide) rfl) rfl hl.1 rfl (Nat.le_of_ble_eq_true rfl) dX8_readOne_48 ⟨Nat.zero_le _, Nat.zero_le _⟩) hW hS hA (fun H locs hW hS => ?_)
          exact J51 _ (tkM_bad ht2) (agT_bad hg2) (by rw [← hF, m_rB]; simp only [if_pos c_24, if_pos c_32, if_neg c_43]) _ _ _ hW hS (lv_sub hl [0] rfl)
  refine lv_aload_n hx hb dX8_readOne_0 rfl (lv_at hl 0 rfl) ?_
  refine lv_aload_n hx hb dX8_readOne_1 rfl (lv_at hl 0 rfl) ?_
  refine w_cl (w_runV ⟨hx, hb, hml, hown, hts⟩ (c_X8_name hxo l D q V J R L hM ht) hxo (cwV 0 hts gX8_readOne_X8_name rfl rfl rfl (by decide +kernel) ⟨Nat.le_of_ble_eq_true rfl, Nat.le_of_ble_eq_true rfl⟩) hK hW hS hA hXs (w_rcv hK hW hM.1.1 hM.1.2 (by decide) rfl) rfl hl.1 rfl (Nat.le_of_ble_eq_true rfl) dX8_readOne_2 ⟨Nat.zero_le _, Nat.zero_le _⟩) hW hS hA (fun H locs hW hS => ?_)
  refine lv_ldc2 (v := 1684627820) hx hb hown (hts (.constantLong RX8 235 (1684627820)) (by decide +kernel)) dX8_readOne_5 ?_
  refine W.lcmp hx hb dX8_readOne_8 ?_
  refine lv_if_ne (tgt := 16) hx hb dX8_readOne_9 (by decide) (fun c_9 => ?_) (fun c_9 => ?_)
  · refine lv_iconst (v := 0) hx hb dX8_readOne_16 (by decide) ?_
    exact J17 0 ht (fun _ _ => rfl) (by rw [hFe, m_rA, bz_f (fun h => c_9 ((lg_cmp_eq _ _).mpr h))]) _ _ _ hW hS (lv_sub hl [0] rfl)
  · refine lv_iconst (v := 1) hx hb dX8_readOne_12 (by decide) ?_
    refine lv_goto (tgt := 17) hx hb dX8_readOne_13 (by decide) ?_
    exact J17 1 ht (fun _ _ => rfl) (by rw [hFe, m_rA, bz_t ((lg_cmp_eq _ _).mp c_9)]) _ _ _ hW hS (lv_sub hl [0] rfl)
