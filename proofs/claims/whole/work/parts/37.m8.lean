def m_c0 (V : Mv) (L : Nat) : Mv := u2 (u2 (u2 (u2 (u2 (u2 V 1000 0 0) 1000 34 (nI L)) 1000 32 0) 1000 35 0) 1000 39 0) 1000 41 0
def m_go (nD : Nat) : Nat → Mv → Mv
  | 0, V => V
  | n + 1, V => if V 1000 39 = 0 then (if V 1000 36 = 1 then V else m_go nD n (m_rA V nD)) else V
def m_okr (nD : Nat) : Nat → Nat → Mv → Prop
  | 0, _, V => ¬ (V 1000 39 = 0 ∧ ¬ V 1000 36 = 1)
  | n + 1, i, V => V 1000 39 = 0 → ¬ V 1000 36 = 1 → V 1000 41 = nI i ∧ i < 40 ∧ m_okr nD n (i + 1) (m_rA V nD)
def m_ctF (V : Mv) (L nD : Nat) : Mv := m_go nD 40 (m_stp (m_c0 V L) L 0)
def m_ct1 (V : Mv) (t : Nat) : Mv := u2 (u2 (u2 (u2 V 1017 (V 1042 t).toNatClampNeg (V 1043 t)) 1018 (V 1042 t).toNatClampNeg (V 1044 t)) 1019 (V 1042 t).toNatClampNeg (V 1045 t)) 1020 (V 1042 t).toNatClampNeg 0
def m_cf : Nat → Nat → Mv → Mv
  | 0, _, V => V
  | n + 1, t, V => m_cf n (t + 1) (m_ct1 V t)
def m_fin (F : Mv) : Mv := if F 1000 39 ≤ 0 then m_cf (F 1000 41).toNatClampNeg 0 F else u2 F 1000 33 (F 1000 39)
def m_finr (F : Mv) : Int32 := if F 1000 39 ≤ 0 then F 1000 41 else -1000100 - F 1000 40
theorem m_rA_ind {P : Mv → Prop} (h1 : ∀ V so, P V → P (m_takeV V so)) (h2 : ∀ V, P V → P (m_bad V 2)) (h3 : ∀ V d s4 a5 b6, P V → P (m_rJ V d s4 a5 b6)) {V : Mv} {nD : Nat} (h : P V) : P (m_rA V nD) := by
  have hI : ∀ V d s4 a5 b6, P V → P (m_rI V d s4 a5 b6) := fun V d s4 a5 b6 h => h3 _ _ _ _ _ (h1 _ _ h)
  have hH : ∀ V d s4 a5, P V → P (m_rH V d s4 a5) := fun V d s4 a5 h => by
    rw [m_rH]
    refine hI _ _ _ _ _ ?_
    split
    · exact h1 _ _ h
    · exact h
  have hG : ∀ V d s4, P V → P (m_rG V d s4) := fun V d s4 h => hH _ _ _ _ (h1 _ _ h)
  have hF : ∀ V d s4, P V → P (m_rF V d s4) := fun V d s4 h => by
    rw [m_rF]
    refine hG _ _ _ ?_
    split
    · exact h1 _ _ h
    · exact h
  have hE : ∀ V d s4, P V → P (m_rE V d s4) := fun V d s4 h => hF _ _ _ (h1 _ _ h)
  have hD : ∀ V d, P V → P (m_rD V d) := fun V d h => hE _ _ _ h
  have hC : ∀ V, P V → P (m_rC V) := fun V h => hD _ _ (h1 _ _ h)
  have hB : ∀ V, P V → P (m_rB V nD) := fun V h => by
    rw [m_rB]
    refine hC _ ?_
    split
    · split
      · split
        · exact h
        · exact h2 _ h
      · exact h
    · exact h
  exact hB _ (h1 _ _ h)
theorem m_rJ_sc {V : Mv} {d s4 a5 b6 : Int32} {j : Nat} (h : j ≠ 41) : m_rJ V d s4 a5 b6 1000 j = V 1000 j := by
  rw [m_rJ]
  split
  · rw [u2_sn h, u2_ne (by decide), u2_ne (by decide), u2_ne (by decide), u2_ne (by decide)]
  · rfl
theorem m_rJ_ne {V : Mv} {d s4 a5 b6 : Int32} {k : Nat} (h : k < 1000 ∨ (1000 < k ∧ k < 1042) ∨ 1045 < k) : m_rJ V d s4 a5 b6 k = V k := by
  rw [m_rJ]
  split
  · rw [u2_ne (by omega), u2_ne (by omega), u2_ne (by omega), u2_ne (by omega), u2_ne (by omega)]
  · rfl
theorem m_rA_sc {V : Mv} {nD j : Nat} (h : j < 35) : m_rA V nD 1000 j = V 1000 j :=
  m_rA_ind (P := fun W => W 1000 j = V 1000 j) (fun W so hp => (m_takeV_sc (Or.inl h)).trans hp) (fun W hp => (m_bad_sc (by omega) (by omega)).trans hp) (fun W _ _ _ _ hp => (m_rJ_sc (by omega)).trans hp) rfl
theorem m_rA_ne {V : Mv} {nD k : Nat} (h : k < 1000 ∨ (1000 < k ∧ k < 1042) ∨ 1045 < k) : m_rA V nD k = V k :=
  m_rA_ind (P := fun W => W k = V k) (fun W so hp => (m_takeV_ne (by omega)).trans hp) (fun W hp => (m_bad_ne (by omega)).trans hp) (fun W _ _ _ _ hp => (m_rJ_ne h).trans hp) rfl
theorem tkM_rJ {V : Mv} {L : Nat} {d s4 a5 b6 : Int32} (h : tkM V L) : tkM (m_rJ V d s4 a5 b6) L := by
  unfold tkM at h ⊢
  rw [m_rJ_ne (k := 1031) (by decide), m_rJ_sc (j := 34) (by decide), m_rJ_sc (j := 35) (by decide), m_rJ_sc (j := 37) (by decide), m_rJ_sc (j := 38) (by decide), m_rJ_sc (j := 36) (by decide)]
  exact h
theorem m_rA_tk {V : Mv} {nD L : Nat} (h : tkM V L) : tkM (m_rA V nD) L :=
  m_rA_ind (P := fun W => tkM W L) (fun _ _ hp => tkM_take hp) (fun _ hp => tkM_bad hp) (fun _ _ _ _ _ hp => tkM_rJ hp) h
theorem m_c0_tk {V : Mv} {L : Nat} (hL3 : L ≤ 300) (hby : ∀ t, t < L → inx 256 (V 1031 t)) : tkM (m_stp (m_c0 V L) L 0) L := by
  refine tkM_stp ?_ hL3 (fun t h => ?_) (Nat.zero_le L)
  · rw [m_c0, u2_sn (by decide), u2_sn (by decide), u2_sn (by decide), u2_sn (by decide), u2_ss]
  · rw [m_c0, u2_ne (by decide), u2_ne (by decide), u2_ne (by decide), u2_ne (by decide), u2_ne (by decide), u2_ne (by decide)]
    exact hby t h
theorem m_c0_sc {V : Mv} {L j : Nat} {v : Int32} (h : j < 32) (h0 : j ≠ 0) (hv : V 1000 j = v) : m_stp (m_c0 V L) L 0 1000 j = v := by
  rw [m_stp_sc (by omega), m_c0, u2_sn (by omega), u2_sn (by omega), u2_sn (by omega), u2_sn (by omega), u2_sn (by omega), u2_sn h0]
  exact hv
set_option maxHeartbeats 4000000 in
set_option maxRecDepth 100000 in
theorem c_X8_contracts {X : (Nat → Prop) → State → Prop} (hxo : xok X) (l : Launch) (D : va_G) (q : Cq) {dm : List Nat} {kd ln ad : Nat → Nat} (V : Mv) (J : Mj) (R : Mr) (nP nD : Nat) (L : Nat) (hM : okM dm kd ln R) (hmp : V 1000 1 = nI nP) (hnP : nP ≤ 30) (hmq : V 1000 7 = nI nD) (hnD : nD ≤ 40) (hta : V 1000 32 = nI L) (hL3 : L ≤ 300) (hby : ∀ t, t < L → inx 256 (V 1031 t)) (hok : m_okr nD 40 0 (m_stp (m_c0 V L) L 0)) (hfin : m_ctF V L nD 1000 39 ≤ 0 → ∃ T2, T2 ≤ 40 ∧ m_ctF V L nD 1000 41 = nI T2 ∧ ∀ t, t < T2 → inx 40 (m_ctF V L nD 1042 t)) : CtI X l yX8_contracts wsX8_contracts ({ frames := 4, cells := 0, slots := 0, locals := 89 }) D q dm kd ln ad V J R [.ref (ad 1000)] (m_finr (m_ctF V L nD)) (m_fin (m_ctF V L nD)) (J) (R) := by
  refine CtI_of (cc := cX8_contracts) (maxL := 3) (ret := (some .int)) (by decide +kernel) rfl (Nat.le_of_ble_eq_true rfl) ?_
  intro p e s m below meth c A hx hb hr hml hts hown hlk hmn hK hW hA hXs ls hl
  have hS : va_S A s.heap s.heap [] := va_S.rf
  have hl : lv_has ls 3 [(0, .ref (ad 1000))] := hl
  have hin_TX8 : ∀ w ∈ u_ws RX8 TX8 48, w ∈ wsX8_contracts := by decide +kernel
  obtain ⟨F, hFe⟩ : ∃ r, r = m_ctF V L nD := ⟨_, rfl⟩
  rw [← hFe] at hfin
  have J85 : ∀ n : Nat, ∀ (t T2 : Nat) (Vw : Mv) (hn : t + n = T2) (h2 : T2 ≤ 40) (hto : Vw 1000 41 = nI T2) (hdd : ∀ t, t < T2 → inx 40 (Vw 1042 t)) (hG : m_cf n t Vw = m_fin F) (hr3 : nI T2 = m_finr F) (H : Heap) (locs : List Loc) (ls : Array Slot), wok A D q dm kd ln ad Vw J R H → va_S A s.heap H locs → lv_has ls 3 [(0, .ref (ad 1000)), (1, .int (nI t))] → W p l e ({ frames := 4, cells := 0, slots := 0, locals := 89 }) s m ([.ref (ad 1000)] : List Value).toArray below meth c H locs 0 0 (MQ below (QI (m_finr (m_ctF V L nD)) D q dm kd ln ad (m_fin (m_ctF V L nD)) (J) (R) A) ([.ref (ad 1000)] : List Value).toArray s 0 0 A) (F0 m 85 ls []) := by
    intro n
    induction n with
    | zero =>
      intro t T2 Vw hn h2 hto hdd hG hr3 H locs ls hW hS hl
      refine lv_iload_n hx hb dX8_contracts_85 rfl (lv_at hl 1 rfl) ?_
      refine lv_aload_n hx hb dX8_contracts_86 rfl (lv_at hl 0 rfl) ?_
      refine w_get (ci := 9) (T := TX8) hx hb hts hin_TX8 hown hK hW hM.1.1 hM.1.2 (by decide) rfl 41 (by decide) (hts (.fieldLink RX8 254 "TownClocksModel" "told" "I") (by decide +kernel)) (fun _ h9 => h9) rfl dX8_contracts_87 ?_
      refine w_i hto ?_
      refine lv_icmp_ge (tgt := 149) hx hb dX8_contracts_90 (by decide) (fun c_90 => ?_) (fun c_90 => ?_)
      · refine lv_aload_n hx hb dX8_contracts_149 rfl (lv_at hl 0 rfl) ?_
        refine w_get (ci := 9) (T := TX8) hx hb hts hin_TX8 hown hK hW hM.1.1 hM.1.2 (by decide) rfl 41 (by decide) (hts (.fieldLink RX8 254 "TownClocksModel" "told" "I") (by decide +kernel)) (fun _ h9 => h9) rfl dX8_contracts_150 ?_
        refine w_i hto ?_
        exact w_iret hx hb hr hlk hW hS (by rw [← hFe]; exact hr3) (by rw [← hFe]; exact hG) rfl rfl dX8_contracts_153
      · exact absurd (nI_le (by omega) (by omega)) c_90
    | succ n ih =>
      intro t T2 Vw hn h2 hto hdd hG hr3 H locs ls hW hS hl
      refine lv_iload_n hx hb dX8_contracts_85 rfl (lv_at hl 1 rfl) ?_
      refine lv_aload_n hx hb dX8_contracts_86 rfl (lv_at hl 0 rfl) ?_
      refine w_get (ci := 9) (T := TX8) hx hb hts hin_TX8 hown hK hW hM.1.1 hM.1.2 (by decide) rfl 41 (by decide) (hts (.fieldLink RX8 254 "TownClocksModel" "told" "I") (by decide +kernel)) (fun _ h9 => h9) rfl dX8_contracts_87 ?_
      refine w_i hto ?_
      refine lv_icmp_ge (tgt := 149) hx hb dX8_contracts_90 (by decide) (fun c_90 => ?_) (fun c_90 => ?_)
      · exact absurd c_90 (nI_ge (by omega) (by omega))
      · refine lv_aload_n hx hb dX8_contracts_93 rfl (lv_at hl 0 rfl) ?_
        refine w_getr (ci := 9) (T := TX8) hx hb hts hin_TX8 hown hK hW hM.1.1 hM.1.2 (by decide) rfl 42 (by decide) (hts (.fieldLink RX8 80 "TownClocksModel" "toldDial" "[I") (by decide +kernel)) (fun _ h9 => h9) rfl (mo_42 hM).2.2.2 dX8_contracts_94 ?_
        refine lv_iload_n hx hb dX8_contracts_97 rfl (lv_at hl 1 rfl) ?_
        refine w_ialdN (t := t) hx hb hK hW (mo_42 hM).1 (mo_42 hM).2.1 ⟨by rw [(mo_42 hM).2.2.1]; omega, by omega⟩ dX8_contracts_98 ?_
        refine lv_istore_n (lv' := [(2, .int (Vw 1042 t)), (0, .ref (ad 1000)), (1, .int (nI t))]) hx hb dX8_contracts_99 rfl hl (by decide) rfl (fun ls hl => ?_)
        refine lv_aload_n hx hb dX8_contracts_100 rfl (lv_at hl 1 rfl) ?_
        refine w_getr (ci := 9) (T := TX8) hx hb hts hin_TX8 hown hK hW hM.1.1 hM.1.2 (by decide) rfl 17 (by decide) (hts (.fieldLink RX8 53 "TownClocksModel" "contract" "[I") (by decide +kernel)) (fun _ h9 => h9) rfl (mo_17 hM).2.2.2 dX8_contracts_101 ?_
        refine lv_iload_n hx hb dX8_contracts_104 rfl (lv_at hl 0 rfl) ?_
        refine lv_aload_n hx hb dX8_contracts_105 rfl (lv_at hl 1 rfl) ?_
        refine w_getr (ci := 9) (T := TX8) hx hb hts hin_TX8 hown hK hW hM.1.1 hM.1.2 (by decide) rfl 43 (by decide) (hts (.fieldLink RX8 83 "TownClocksModel" "toldSort" "[I") (by decide +kernel)) (fun _ h9 => h9) rfl (mo_43 hM).2.2.2 dX8_contracts_106 ?_
        refine lv_iload_n hx hb dX8_contracts_109 rfl (lv_at hl 2 rfl) ?_
        refine w_ialdN (t := t) hx hb hK hW (mo_43 hM).1 (mo_43 hM).2.1 ⟨by rw [(mo_43 hM).2.2.1]; omega, by omega⟩ dX8_contracts_110 ?_
        refine w_iast hx hb hK hW hS (mo_17 hM).1 (mo_17 hM).2.1 (by rw [(mo_17 hM).2.2.1]; exact inx_v.mpr (hdd t (by omega))) dX8_contracts_111 (fun H locs hW hS => ?_)
        refine lv_aload_n hx hb dX8_contracts_112 rfl (lv_at hl 1 rfl) ?_
        refine w_getr (ci := 9) (T := TX8) hx hb hts hin_TX8 hown hK hW hM.1.1 hM.1.2 (by decide) rfl 18 (by decide) (hts (.fieldLink RX8 56 "TownClocksModel" "first" "[I") (by decide +kernel)) (fun _ h9 => h9) rfl (mo_18 hM).2.2.2 dX8_contracts_113 ?_
        refine lv_iload_n hx hb dX8_contracts_116 rfl (lv_at hl 0 rfl) ?_
        refine lv_aload_n hx hb dX8_contracts_117 rfl (lv_at hl 1 rfl) ?_
        refine w_getr (ci := 9) (T := TX8) hx hb hts hin_TX8 hown hK hW hM.1.1 hM.1.2 (by decide) rfl 44 (by decide) (hts (.fieldLink RX8 86 "TownClocksModel" "toldFirst" "[I") (by decide +kernel)) (fun _ h9 => h9) rfl (mo_44 hM).2.2.2 dX8_contracts_118 ?_
        refine lv_iload_n hx hb dX8_contracts_121 rfl (lv_at hl 2 rfl) ?_
        refine w_ialdN (t := t) hx hb hK hW (mo_44 hM).1 (mo_44 hM).2.1 ⟨by rw [(mo_44 hM).2.2.1]; omega, by omega⟩ dX8_contracts_122 ?_
        refine w_i (by rw [u2_ne (by decide)]) ?_
        refine w_iast hx hb hK hW hS (mo_18 hM).1 (mo_18 hM).2.1 (by rw [(mo_18 hM).2.2.1]; exact inx_v.mpr (hdd t (by omega))) dX8_contracts_123 (fun H locs hW hS => ?_)
        refine lv_aload_n hx hb dX8_contracts_124 rfl (lv_at hl 1 rfl) ?_
        refine w_getr (ci := 9) (T := TX8) hx hb hts hin_TX8 hown hK hW hM.1.1 hM.1.2 (by decide) rfl 19 (by decide) (hts (.fieldLink RX8 59 "TownClocksModel" "second" "[I") (by decide +kernel)) (fun _ h9 => h9) rfl (mo_19 hM).2.2.2 dX8_contracts_125 ?_
        refine lv_iload_n hx hb dX8_contracts_128 rfl (lv_at hl 0 rfl) ?_
        refine lv_aload_n hx hb dX8_contracts_129 rfl (lv_at hl 1 rfl) ?_
        refine w_getr (ci := 9) (T := TX8) hx hb hts hin_TX8 hown hK hW hM.1.1 hM.1.2 (by decide) rfl 45 (by decide) (hts (.fieldLink RX8 89 "TownClocksModel" "toldSecond" "[I") (by decide +kernel)) (fun _ h9 => h9) rfl (mo_45 hM).2.2.2 dX8_contracts_130 ?_
        refine lv_iload_n hx hb dX8_contracts_133 rfl (lv_at hl 2 rfl) ?_
        refine w_ialdN (t := t) hx hb hK hW (mo_45 hM).1 (mo_45 hM).2.1 ⟨by rw [(mo_45 hM).2.2.1]; omega, by omega⟩ dX8_contracts_134 ?_
        refine w_i (by rw [u2_ne (by decide), u2_ne (by decide)]) ?_
        refine w_iast hx hb hK hW hS (mo_19 hM).1 (mo_19 hM).2.1 (by rw [(mo_19 hM).2.2.1]; exact inx_v.mpr (hdd t (by omega))) dX8_contracts_135 (fun H locs hW hS => ?_)
        refine lv_aload_n hx hb dX8_contracts_136 rfl (lv_at hl 1 rfl) ?_
        refine w_getr (ci := 9) (T := TX8) hx hb hts hin_TX8 hown hK hW hM.1.1 hM.1.2 (by decide) rfl 20 (by decide) (hts (.fieldLink RX8 62 "TownClocksModel" "owed" "[I") (by decide +kernel)) (fun _ h9 => h9) rfl (mo_20 hM).2.2.2 dX8_contracts_137 ?_
        refine lv_iload_n hx hb dX8_contracts_140 rfl (lv_at hl 0 rfl) ?_
        refine lv_iconst (v := 0) hx hb dX8_contracts_141 (by decide) ?_
        refine w_iast hx hb hK hW hS (mo_20 hM).1 (mo_20 hM).2.1 (by rw [(mo_20 hM).2.2.1]; exact inx_v.mpr (hdd t (by omega))) dX8_contracts_142 (fun H locs hW hS => ?_)
        refine lv_iinc (v := nI (t + 1)) (lv' := [(1, .int (nI (t + 1))), (2, .int (Vw 1042 t)), (0, .ref (ad 1000))]) hx hb dX8_contracts_143 hl (k := 2) rfl (by rw [show Int32.ofInt 1 = 1 from by decide]; exact nI_1 _) (by decide) rfl (fun ls hl => ?_)
        refine lv_goto (tgt := 85) hx hb dX8_contracts_146 (by decide) ?_
        exact ih (t + 1) T2 _ (by omega) h2 (by rw [m_ct1, u2_ne (by decide), u2_ne (by decide), u2_ne (by decide), u2_ne (by decide)]; exact hto) (fun t h => by rw [m_ct1, u2_ne (by decide), u2_ne (by decide), u2_ne (by decide), u2_ne (by decide)]; exact hdd t h) hG hr3 _ _ _ hW hS (lv_sub hl [2, 0] rfl)
  have J59 : ∀ (Vw : Mv) (hE : Vw = F) (H : Heap) (locs : List Loc) (ls : Array Slot), wok A D q dm kd ln ad Vw J R H → va_S A s.heap H locs → lv_has ls 3 [(0, .ref (ad 1000))] → W p l e ({ frames := 4, cells := 0, slots := 0, locals := 89 }) s m ([.ref (ad 1000)] : List Value).toArray below meth c H locs 0 0 (MQ below (QI (m_finr (m_ctF V L nD)) D q dm kd ln ad (m_fin (m_ctF V L nD)) (J) (R) A) ([.ref (ad 1000)] : List Value).toArray s 0 0 A) (F0 m 59 ls []) := by
    intro Vw hE H locs ls hW hS hl
    refine lv_aload_n hx hb dX8_contracts_59 rfl (lv_at hl 0 rfl) ?_
    refine w_get (ci := 9) (T := TX8) hx hb hts hin_TX8 hown hK hW hM.1.1 hM.1.2 (by decide) rfl 39 (by decide) (hts (.fieldLink RX8 219 "TownClocksModel" "fault" "I") (by decide +kernel)) (fun _ h9 => h9) rfl dX8_contracts_60 ?_
    refine lv_if_le (tgt := 83) hx hb dX8_contracts_63 (by decide) (fun c_63 => ?_) (fun c_63 => ?_)
    · obtain ⟨T2, hT2, hto, hdd⟩ := hfin (by rw [← hE]; exact c_63)
      refine lv_iconst (v := 0) hx hb dX8_contracts_83 (by decide) ?_
      refine lv_istore_n (lv' := [(1, .int 0), (0, .ref (ad 1000))]) hx hb dX8_contracts_84 rfl hl (by decide) rfl (fun ls hl => ?_)
      exact J85 T2 0 T2 Vw (by omega) hT2 (by rw [hE]; exact hto) (fun t h => by rw [hE]; exact hdd t h) (by rw [m_fin, if_pos (by rw [← hE]; exact c_63), hto, nI_clamp (by omega), hE]) (by rw [m_finr, if_pos (by rw [← hE]; exact c_63), hto]) _ _ _ hW hS (lv_sub hl [1, 0] rfl)
    · refine lv_aload_n hx hb dX8_contracts_66 rfl (lv_at hl 0 rfl) ?_
      refine lv_aload_n hx hb dX8_contracts_67 rfl (lv_at hl 0 rfl) ?_
      refine w_get (ci := 9) (T := TX8) hx hb hts hin_TX8 hown hK hW hM.1.1 hM.1.2 (by decide) rfl 39 (by decide) (hts (.fieldLink RX8 219 "TownClocksModel" "fault" "I") (by decide +kernel)) (fun _ h9 => h9) rfl dX8_contracts_68 ?_
      refine w_puti (ci := 9) (T := TX8) (ty := .int) hx hb hts hin_TX8 tyX8 tyX8_ok nmX8 hown hK hW hS hM.1.1 hM.1.2 (by decide) rfl 33 (by decide) (hts (.fieldLink RX8 260 "TownClocksModel" "latest" "I") (by decide +kernel)) (fun _ h9 => h9) rfl (tyX8_ok 33 (by decide)) rfl rfl (Nat.le_of_ble_eq_true rfl) rfl dX8_contracts_71 (fun H locs hW hS => ?_)
      refine lv_ldcw (v := -1000100) hx hb hown (hts (.constant RX8 263 (-1000100)) (by decide +kernel)) dX8_contracts_74 ?_
      refine lv_aload_n hx hb dX8_contracts_77 rfl (lv_at hl 0 rfl) ?_
      refine w_get (ci := 9) (T := TX8) hx hb hts hin_TX8 hown hK hW hM.1.1 hM.1.2 (by decide) rfl 40 (by decide) (hts (.fieldLink RX8 222 "TownClocksModel" "faultAt" "I") (by decide +kernel)) (fun _ h9 => h9) rfl dX8_contracts_78 ?_
      refine w_i (by rw [u2_sn (by decide)]) ?_
      refine lv_isub hx hb dX8_contracts_81 ?_
      exact w_iret hx hb hr hlk hW hS (by rw [← hFe, ← hE, m_finr, if_neg c_63]) (by rw [← hFe, ← hE, m_fin, if_neg c_63]) rfl rfl dX8_contracts_82
  have J37 : ∀ n : Nat, ∀ (i : Nat) (Vw : Mv) (ht : tkM Vw L) (hmp : Vw 1000 1 = nI nP) (hmq : Vw 1000 7 = nI nD) (hgo : m_go nD n Vw = F) (hok : m_okr nD n i Vw) (H : Heap) (locs : List Loc) (ls : Array Slot), wok A D q dm kd ln ad Vw J R H → va_S A s.heap H locs → lv_has ls 3 [(0, .ref (ad 1000))] → W p l e ({ frames := 4, cells := 0, slots := 0, locals := 89 }) s m ([.ref (ad 1000)] : List Value).toArray below meth c H locs 0 0 (MQ below (QI (m_finr (m_ctF V L nD)) D q dm kd ln ad (m_fin (m_ctF V L nD)) (J) (R) A) ([.ref (ad 1000)] : List Value).toArray s 0 0 A) (F0 m 37 ls []) := by
    intro n
    induction n with
    | zero =>
      intro i Vw ht hmp hmq hgo hok H locs ls hW hS hl
      refine lv_aload_n hx hb dX8_contracts_37 rfl (lv_at hl 0 rfl) ?_
      refine w_get (ci := 9) (T := TX8) hx hb hts hin_TX8 hown hK hW hM.1.1 hM.1.2 (by decide) rfl 39 (by decide) (hts (.fieldLink RX8 219 "TownClocksModel" "fault" "I") (by decide +kernel)) (fun _ h9 => h9) rfl dX8_contracts_38 ?_
      refine lv_if_ne (tgt := 59) hx hb dX8_contracts_41 (by decide) (fun c_41 => ?_) (fun c_41 => ?_)
      · exact J59 Vw hgo _ _ _ hW hS (lv_sub hl [0] rfl)
      · refine lv_aload_n hx hb dX8_contracts_44 rfl (lv_at hl 0 rfl) ?_
        refine w_get (ci := 9) (T := TX8) hx hb hts hin_TX8 hown hK hW hM.1.1 hM.1.2 (by decide) rfl 36 (by decide) (hts (.fieldLink RX8 207 "TownClocksModel" "sort" "I") (by decide +kernel)) (fun _ h9 => h9) rfl dX8_contracts_45 ?_
        refine lv_iconst (v := 1) hx hb dX8_contracts_48 (by decide) ?_
        refine lv_icmp_eq (tgt := 59) hx hb dX8_contracts_49 (by decide) (fun c_49 => ?_) (fun c_49 => ?_)
        · exact J59 Vw hgo _ _ _ hW hS (lv_sub hl [0] rfl)
        · exact absurd ⟨c_41, c_49⟩ hok
    | succ n ih =>
      intro i Vw ht hmp hmq hgo hok H locs ls hW hS hl
      refine lv_aload_n hx hb dX8_contracts_37 rfl (lv_at hl 0 rfl) ?_
      refine w_get (ci := 9) (T := TX8) hx hb hts hin_TX8 hown hK hW hM.1.1 hM.1.2 (by decide) rfl 39 (by decide) (hts (.fieldLink RX8 219 "TownClocksModel" "fault" "I") (by decide +kernel)) (fun _ h9 => h9) rfl dX8_contracts_38 ?_
      refine lv_if_ne (tgt := 59) hx hb dX8_contracts_41 (by decide) (fun c_41 => ?_) (fun c_41 => ?_)
      · exact J59 Vw (by rw [← hgo, m_go, if_neg c_41]) _ _ _ hW hS (lv_sub hl [0] rfl)
      · refine lv_aload_n hx hb dX8_contracts_44 rfl (lv_at hl 0 rfl) ?_
        refine w_get (ci := 9) (T := TX8) hx hb hts hin_TX8 hown hK hW hM.1.1 hM.1.2 (by decide) rfl 36 (by decide) (hts (.fieldLink RX8 207 "TownClocksModel" "sort" "I") (by decide +kernel)) (fun _ h9 => h9) rfl dX8_contracts_45 ?_
        refine lv_iconst (v := 1) hx hb dX8_contracts_48 (by decide) ?_
        refine lv_icmp_eq (tgt := 59) hx hb dX8_contracts_49 (by decide) (fun c_49 => ?_) (fun c_49 => ?_)
        · exact J59 Vw (by rw [← hgo, m_go, if_pos c_41, if_pos c_49]) _ _ _ hW hS (lv_sub hl [0] rfl)
        · refine lv_aload_n hx hb dX8_contracts_52 rfl (lv_at hl 0 rfl) ?_
          refine w_cv (w_runV ⟨hx, hb, hml, hown, hts⟩ (c_X8_readOne hxo l D q Vw J R nP nD L i hM hmp hnP hmq hnD ht (hok c_41 c_49).1 (hok c_41 c_49).2.1) hxo (cwV 0 hts gX8_contracts_X8_readOne rfl rfl rfl (by decide +kernel) ⟨Nat.le_of_ble_eq_true rfl, Nat.le_of_ble_eq_true rfl⟩) hK hW hS hA hXs (w_rcv hK hW hM.1.1 hM.1.2 (by decide) rfl) rfl hl.1 rfl (Nat.le_of_ble_eq_true rfl) dX8_contracts_53 ⟨Nat.zero_le _, Nat.zero_le _⟩) hW hS hA (fun H locs hW hS => ?_)
          refine lv_goto (tgt := 37) hx hb dX8_contracts_56 (by decide) ?_
          exact ih (i + 1) _ (m_rA_tk ht) ((m_rA_sc (by decide)).trans hmp) ((m_rA_sc (by decide)).trans hmq) (by have h := hgo; simp only [m_go, if_pos c_41, if_neg c_49] at h; exact h) (hok c_41 c_49).2.2 _ _ _ hW hS (lv_sub hl [0] rfl)
  refine lv_aload_n hx hb dX8_contracts_0 rfl (lv_at hl 0 rfl) ?_
  refine lv_iconst (v := 0) hx hb dX8_contracts_1 (by decide) ?_
  refine w_puti (ci := 9) (T := TX8) (ty := .int) hx hb hts hin_TX8 tyX8 tyX8_ok nmX8 hown hK hW hS hM.1.1 hM.1.2 (by decide) rfl 0 (by decide) (hts (.fieldLink RX8 95 "TownClocksModel" "thrown" "I") (by decide +kernel)) (fun _ h9 => h9) rfl (tyX8_ok 0 (by decide)) rfl rfl (Nat.le_of_ble_eq_true rfl) rfl dX8_contracts_2 (fun H locs hW hS => ?_)
  refine lv_aload_n hx hb dX8_contracts_5 rfl (lv_at hl 0 rfl) ?_
  refine lv_aload_n hx hb dX8_contracts_6 rfl (lv_at hl 0 rfl) ?_
  refine w_get (ci := 9) (T := TX8) hx hb hts hin_TX8 hown hK hW hM.1.1 hM.1.2 (by decide) rfl 32 (by decide) (hts (.fieldLink RX8 191 "TownClocksModel" "taped" "I") (by decide +kernel)) (fun _ h9 => h9) rfl dX8_contracts_7 ?_
  refine w_i (by rw [u2_sn (by decide)]) ?_
  refine w_i hta ?_
  refine w_puti (ci := 9) (T := TX8) (ty := .int) hx hb hts hin_TX8 tyX8 tyX8_ok nmX8 hown hK hW hS hM.1.1 hM.1.2 (by decide) rfl 34 (by decide) (hts (.fieldLink RX8 196 "TownClocksModel" "size" "I") (by decide +kernel)) (fun _ h9 => h9) rfl (tyX8_ok 34 (by decide)) rfl rfl (Nat.le_of_ble_eq_true rfl) rfl dX8_contracts_10 (fun H locs hW hS => ?_)
  refine lv_aload_n hx hb dX8_contracts_13 rfl (lv_at hl 0 rfl) ?_
  refine lv_iconst (v := 0) hx hb dX8_contracts_14 (by decide) ?_
  refine w_puti (ci := 9) (T := TX8) (ty := .int) hx hb hts hin_TX8 tyX8 tyX8_ok nmX8 hown hK hW hS hM.1.1 hM.1.2 (by decide) rfl 32 (by decide) (hts (.fieldLink RX8 191 "TownClocksModel" "taped" "I") (by decide +kernel)) (fun _ h9 => h9) rfl (tyX8_ok 32 (by decide)) rfl rfl (Nat.le_of_ble_eq_true rfl) rfl dX8_contracts_15 (fun H locs hW hS => ?_)
  refine lv_aload_n hx hb dX8_contracts_18 rfl (lv_at hl 0 rfl) ?_
  refine lv_iconst (v := 0) hx hb dX8_contracts_19 (by decide) ?_
  refine w_puti (ci := 9) (T := TX8) (ty := .int) hx hb hts hin_TX8 tyX8 tyX8_ok nmX8 hown hK hW hS hM.1.1 hM.1.2 (by decide) rfl 35 (by decide) (hts (.fieldLink RX8 198 "TownClocksModel" "at" "I") (by decide +kernel)) (fun _ h9 => h9) rfl (tyX8_ok 35 (by decide)) rfl rfl (Nat.le_of_ble_eq_true rfl) rfl dX8_contracts_20 (fun H locs hW hS => ?_)
  refine lv_aload_n hx hb dX8_contracts_23 rfl (lv_at hl 0 rfl) ?_
  refine lv_iconst (v := 0) hx hb dX8_contracts_24 (by decide) ?_
  refine w_puti (ci := 9) (T := TX8) (ty := .int) hx hb hts hin_TX8 tyX8 tyX8_ok nmX8 hown hK hW hS hM.1.1 hM.1.2 (by decide) rfl 39 (by decide) (hts (.fieldLink RX8 219 "TownClocksModel" "fault" "I") (by decide +kernel)) (fun _ h9 => h9) rfl (tyX8_ok 39 (by decide)) rfl rfl (Nat.le_of_ble_eq_true rfl) rfl dX8_contracts_25 (fun H locs hW hS => ?_)
  refine lv_aload_n hx hb dX8_contracts_28 rfl (lv_at hl 0 rfl) ?_
  refine lv_iconst (v := 0) hx hb dX8_contracts_29 (by decide) ?_
  refine w_puti (ci := 9) (T := TX8) (ty := .int) hx hb hts hin_TX8 tyX8 tyX8_ok nmX8 hown hK hW hS hM.1.1 hM.1.2 (by decide) rfl 41 (by decide) (hts (.fieldLink RX8 254 "TownClocksModel" "told" "I") (by decide +kernel)) (fun _ h9 => h9) rfl (tyX8_ok 41 (by decide)) rfl rfl (Nat.le_of_ble_eq_true rfl) rfl dX8_contracts_30 (fun H locs hW hS => ?_)
  refine lv_aload_n hx hb dX8_contracts_33 rfl (lv_at hl 0 rfl) ?_
  refine w_cv (w_runV ⟨hx, hb, hml, hown, hts⟩ (c_X8_step hxo l D q (u2 (u2 (u2 (u2 (u2 (u2 V 1000 0 0) 1000 34 (nI L)) 1000 32 0) 1000 35 0) 1000 39 0) 1000 41 0) J R L 0 hM (by rw [u2_sn (by decide), u2_sn (by decide), u2_sn (by decide), u2_sn (by decide), u2_ss]) hL3 (by rw [u2_sn (by decide), u2_sn (by decide)]; exact u2_ss.trans (by decide)) (Nat.zero_le L) (fun t h => by rw [u2_ne (by decide), u2_ne (by decide), u2_ne (by decide), u2_ne (by decide), u2_ne (by decide), u2_ne (by decide)]; exact hby t h)) hxo (cwV 0 hts gX8_contracts_X8_step rfl rfl rfl (by decide +kernel) ⟨Nat.le_of_ble_eq_true rfl, Nat.le_of_ble_eq_true rfl⟩) hK hW hS hA hXs (w_rcv hK hW hM.1.1 hM.1.2 (by decide) rfl) rfl hl.1 rfl (Nat.le_of_ble_eq_true rfl) dX8_contracts_34 ⟨Nat.zero_le _, Nat.zero_le _⟩) hW hS hA (fun H locs hW hS => ?_)
  exact J37 40 0 (m_stp (m_c0 V L) L 0) (m_c0_tk hL3 hby) (m_c0_sc (by decide) (by decide) hmp) (m_c0_sc (by decide) (by decide) hmq) hFe.symm hok _ _ _ hW hS (lv_sub hl [0] rfl)
