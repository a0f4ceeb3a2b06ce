theorem ix30 (e p : Nat) : 30 * nI e + nI p = nI (30 * e + p) := by
  rw [show (30 : Int32) = nI 30 from rfl, pk_mul, nI_add]
theorem m_allL_ne {nP nD k : Nat} (h0 : k ≠ 1000) (h1 : k ≠ 1006) (h2 : k ≠ 1027) (h3 : k ≠ 1028) : ∀ {n i : Nat} {V : Mv}, m_allL nP nD n i V k = V k
  | 0, _, _ => rfl
  | n + 1, i, V => by
    rw [m_allL, m_allL_ne h0 h1 h2 h3]
    split
    · exact m_ls_ne h1
    · rw [m_aadd, u2_ne h0, u2_ne h3, u2_ne h2]
      exact m_ls_ne h1
theorem m_all_ne {V : Mv} {nP nD k : Nat} (h0 : k ≠ 1000) (h1 : k ≠ 1006) (h2 : k ≠ 1027) (h3 : k ≠ 1028) (h4 : k ≠ 1029) : m_all V nP nD k = V k := by
  rw [m_all, m_allL_ne h0 h1 h2 h3, u2_ne h0, m_lk_ne h4, m_airB_ne h1]
theorem m_allL_sc {nP nD j : Nat} (h : j ≠ 26) : ∀ {n i : Nat} {V : Mv}, m_allL nP nD n i V 1000 j = V 1000 j
  | 0, _, _ => rfl
  | n + 1, i, V => by
    rw [m_allL, m_allL_sc h]
    split
    · rw [m_ls_ne (by decide)]
    · rw [m_aadd, u2_sn h, u2_ne (by decide), u2_ne (by decide), m_ls_ne (by decide)]
theorem m_all_sc {V : Mv} {nP nD j : Nat} (h : j ≠ 26) : m_all V nP nD 1000 j = V 1000 j := by
  rw [m_all, m_allL_sc h, u2_sn h, m_lk_ne (by decide), m_airB_ne (by decide)]
def m_nP (e : Nat) : Nat → Nat → Mv → Mv
  | 0, _, V => V
  | n + 1, p, V => m_nP e n (p + 1) (u2 V 1030 (30 * e + p) (V 1006 p))
def m_nA (nP : Nat) : Nat → Nat → Mv → Mv
  | 0, _, V => V
  | n + 1, e, V => m_nA nP n (e + 1) (m_nP e nP 0 (m_airB (V 1027 e) (V 1028 e) nP 0 V))
theorem m_nP_ne {e k : Nat} (h : k ≠ 1030) : ∀ {n p : Nat} {V : Mv}, m_nP e n p V k = V k
  | 0, _, _ => rfl
  | n + 1, p, V => by rw [m_nP, m_nP_ne h, u2_ne h]
theorem m_nA_ne {nP k : Nat} (h1 : k ≠ 1006) (h2 : k ≠ 1030) : ∀ {n e : Nat} {V : Mv}, m_nA nP n e V k = V k
  | 0, _, _ => rfl
  | n + 1, e, V => by rw [m_nA, m_nA_ne h1 h2, m_nP_ne h2, m_airB_ne h1]
def m_pd (V : Mv) (o e g : Nat) (a : Int32) : Int32 := if V 1030 (30 * e + o) = V 1030 (30 * g + o) then a + 0 else a + 1
def m_pr (V : Mv) (f d : Nat) : Int32 := lpI (fun e a => lpI (m_pd V (V 1008 d).toNatClampNeg e) (f - (e + 1)) (e + 1) a) f 0 0
def m_nB (V : Mv) (f : Nat) : Nat → Nat → Int32 → Int32 → Int32
  | 0, _, b, _ => b
  | n + 1, d, b, mo => if m_pr V f d ≤ mo then m_nB V f n (d + 1) b mo else m_nB V f n (d + 1) (nI d) (m_pr V f d)
def m_next (V : Mv) (nP nD : Nat) : Int32 := if m_all (u2 V 1000 0 0) nP nD 1000 26 < 2 then -1000000 else if m_all (u2 V 1000 0 0) nP nD 1000 7 = 0 then -1000000 else m_nB (m_nA nP (m_all (u2 V 1000 0 0) nP nD 1000 26).toNatClampNeg 0 (m_all (u2 V 1000 0 0) nP nD)) (m_all (u2 V 1000 0 0) nP nD 1000 26).toNatClampNeg nD 0 0 (-1)
def m_nextV (V : Mv) (nP nD : Nat) : Mv := if m_all (u2 V 1000 0 0) nP nD 1000 26 < 2 then m_all (u2 V 1000 0 0) nP nD else if m_all (u2 V 1000 0 0) nP nD 1000 7 = 0 then m_all (u2 V 1000 0 0) nP nD else m_nA nP (m_all (u2 V 1000 0 0) nP nD 1000 26).toNatClampNeg 0 (m_all (u2 V 1000 0 0) nP nD)
set_option maxHeartbeats 4000000 in
set_option maxRecDepth 100000 in
theorem c_X8_next {X : (Nat → Prop) → State → Prop} (hxo : xok X) (l : Launch) (D : va_G) (q : Cq) {dm : List Nat} {kd ln ad : Nat → Nat} (V : Mv) (J : Mj) (R : Mr) (nP nD : Nat)  (hM : okM dm kd ln R) (hmp : V 1000 1 = nI nP) (hnP : nP ≤ 30) (hmq : V 1000 7 = nI nD) (hnD : nD ≤ 40) (hpar : ∀ i, i < nP → V 1002 i = -1000000 ∨ ∃ j, j < i ∧ V 1002 i = nI j) (hon : ∀ d, d < nD → inx nP (V 1008 d)) : CtI X l yX8_next wsX8_next ({ frames := 3, cells := 0, slots := 0, locals := 70 }) D q dm kd ln ad V J R [.ref (ad 1000)] (m_next V nP nD) (m_nextV V nP nD) (J) (R) := by
  refine CtI_of (cc := cX8_next) (maxL := 7) (ret := (some .int)) (by decide +kernel) rfl (Nat.le_of_ble_eq_true rfl) ?_
  intro p e s m below meth c A hx hb hr hml hts hown hlk hmn hK hW hA hXs ls hl
  have hS : va_S A s.heap s.heap [] := va_S.rf
  have hl : lv_has ls 7 [(0, .ref (ad 1000))] := hl
  have hin_TX8 : ∀ w ∈ u_ws RX8 TX8 48, w ∈ wsX8_next := by decide +kernel
  obtain ⟨f, hf1, hf2⟩ := m_all_f (u2 V 1000 0 0) nP nD
  have hf30 : f ≤ 30 := by omega
  obtain ⟨V1, hV1⟩ : ∃ r, r = m_all (u2 V 1000 0 0) nP nD := ⟨_, rfl⟩
  rw [← hV1] at hf2
  have hag1 : ∀ k, k ≠ 1000 → k ≠ 1006 → k ≠ 1027 → k ≠ 1028 → k ≠ 1029 → V1 k = V k := fun k h1 h2 h3 h4 h5 => by rw [hV1, m_all_ne h1 h2 h3 h4 h5, u2_ne h1]
  have hmp1 : V1 1000 1 = nI nP := by rw [hV1, m_all_sc (by decide)]; exact hmp
  have hmq1 : V1 1000 7 = nI nD := by rw [hV1, m_all_sc (by decide)]; exact hmq
  have hpar1 : ∀ i, i < nP → V1 1002 i = -1000000 ∨ ∃ j, j < i ∧ V1 1002 i = nI j := fun i hi => by rw [hag1 1002 (by decide) (by decide) (by decide) (by decide) (by decide)]; exact hpar i hi
  obtain ⟨V2, hV2⟩ : ∃ r, r = m_nA nP f 0 V1 := ⟨_, rfl⟩
  have hag2 : ∀ k, k ≠ 1006 → k ≠ 1030 → V2 k = V1 k := fun k h1 h2 => by rw [hV2, m_nA_ne h1 h2]
  have hfW : V2 1000 26 = nI f := by rw [hag2 1000 (by decide) (by decide)]; exact hf2
  have hmqW : V2 1000 7 = nI nD := by rw [hag2 1000 (by decide) (by decide)]; exact hmq1
  have honW : ∀ d, d < nD → inx nP (V2 1008 d) := fun d hd => by rw [hag2 1008 (by decide) (by decide), hag1 1008 (by decide) (by decide) (by decide) (by decide) (by decide)]; exact hon d hd
  obtain ⟨RV, hRV⟩ : ∃ r, r = m_nB V2 f nD 0 0 (-1) := ⟨_, rfl⟩
  have hfe : f = (V1 1000 26).toNatClampNeg := by rw [hf2, nI_clamp (by omega)]
  have J98 : ∀ n : Nat, ∀ (d : Nat) (bb mo : Int32) (hn : d + n = nD) (hF : m_nB V2 f n d bb mo = RV) (h14 : ¬ V1 1000 26 < 2) (h21 : ¬ V1 1000 7 = 0) (H : Heap) (locs : List Loc) (ls : Array Slot), wok A D q dm kd ln ad V2 J R H → va_S A s.heap H locs → lv_has ls 7 [(0, .ref (ad 1000)), (1, .int bb), (2, .int mo), (3, .int (nI d))] → W p l e ({ frames := 3, cells := 0, slots := 0, locals := 70 }) s m ([.ref (ad 1000)] : List Value).toArray below meth c H locs 0 0 (MQ below (QI (m_next V nP nD) D q dm kd ln ad (m_nextV V nP nD) (J) (R) A) ([.ref (ad 1000)] : List Value).toArray s 0 0 A) (F0 m 98 ls []) := by
    intro n
    induction n with
    | zero =>
      intro d bb mo hn hF h14 h21 H locs ls hW hS hl
      refine lv_iload_n hx hb dX8_next_98 rfl (lv_at hl 3 rfl) ?_
      refine lv_aload_n hx hb dX8_next_99 rfl (lv_at hl 0 rfl) ?_
      refine w_get (ci := 9) (T := TX8) hx hb hts hin_TX8 hown hK hW hM.1.1 hM.1.2 (by decide) rfl 7 (by decide) (hts (.fieldLink RX8 128 "TownClocksModel" "dials" "I") (by decide +kernel)) (fun _ h9 => h9) rfl dX8_next_100 ?_
      refine lv_icmp_ge (tgt := 212) hx hb dX8_next_103 (by decide) (fun c_103 => ?_) (fun c_103 => ?_)
      · refine lv_iload_n hx hb dX8_next_212 rfl (lv_at hl 1 rfl) ?_
        exact w_iret hx hb hr hlk hW hS (by rw [m_next, ← hV1, if_neg h14, if_neg h21, ← hfe, ← hV2, ← hRV, ← hF]; rfl) (by rw [m_nextV, ← hV1, if_neg h14, if_neg h21, ← hfe, ← hV2]) rfl rfl dX8_next_213
      · exact absurd (by rw [hmqW]; exact nI_le (by omega) (by omega)) c_103
    | succ n ih =>
      intro d bb mo hn hF h14 h21 H locs ls hW hS hl
      have hid : d < nD := by omega
      obtain ⟨PR, hPR⟩ : ∃ r, m_pr V2 f d = r := ⟨_, rfl⟩
      have J112 : ∀ n2 : Nat, ∀ (ee : Nat) (a : Int32) (hn2 : ee + n2 = f) (hC : lpI (fun e a => lpI (m_pd V2 ((V2 1008 d).toNatClampNeg) e) (f - (e + 1)) (e + 1) a) n2 ee a = PR) (H : Heap) (locs : List Loc) (ls : Array Slot), wok A D q dm kd ln ad V2 J R H → va_S A s.heap H locs → lv_has ls 7 [(0, .ref (ad 1000)), (1, .int bb), (2, .int mo), (3, .int (nI d)), (4, .int a), (5, .int (nI ee))] → W p l e ({ frames := 3, cells := 0, slots := 0, locals := 70 }) s m ([.ref (ad 1000)] : List Value).toArray below meth c H locs 0 0 (MQ below (QI (m_next V nP nD) D q dm kd ln ad (m_nextV V nP nD) (J) (R) A) ([.ref (ad 1000)] : List Value).toArray s 0 0 A) (F0 m 112 ls []) := by
        intro n2
        induction n2 with
        | zero =>
          intro ee a hn2 hC H locs ls hW hS hl
          have hC2 : a = PR := hC
          subst hC2
          refine lv_iload hx hb dX8_next_112 (lv_at hl 5 rfl) ?_
          refine lv_aload_n hx hb dX8_next_114 rfl (lv_at hl 0 rfl) ?_
          refine w_get (ci := 9) (T := TX8) hx hb hts hin_TX8 hown hK hW hM.1.1 hM.1.2 (by decide) rfl 26 (by decide) (hts (.fieldLink RX8 179 "TownClocksModel" "found" "I") (by decide +kernel)) (fun _ h9 => h9) rfl dX8_next_115 ?_
          refine lv_icmp_ge (tgt := 195) hx hb dX8_next_118 (by decide) (fun c_118 => ?_) (fun c_118 => ?_)
          · refine lv_iload hx hb dX8_next_195 (lv_at hl 4 rfl) ?_
            refine lv_iload_n hx hb dX8_next_197 rfl (lv_at hl 2 rfl) ?_
            refine lv_icmp_le (tgt := 206) hx hb dX8_next_198 (by decide) (fun c_198 => ?_) (fun c_198 => ?_)
            · refine lv_iinc (v := nI (d + 1)) (lv' := [(3, .int (nI (d + 1))), (0, .ref (ad 1000)), (1, .int bb), (2, .int mo), (4, .int a), (5, .int (nI ee))]) hx hb dX8_next_206 hl (k := 3) rfl (by rw [show Int32.ofInt 1 = 1 from by decide]; exact nI_1 _) (by decide) rfl (fun ls hl => ?_)
              refine lv_goto (tgt := 98) hx hb dX8_next_209 (by decide) ?_
              exact ih (d + 1) _ _ (by omega) (by have h := hF; simp only [m_nB, hPR, if_pos c_198] at h; exact h) h14 h21 _ _ _ hW hS (lv_sub hl [1, 2, 3, 0] rfl)
            · refine lv_iload_n hx hb dX8_next_201 rfl (lv_at hl 3 rfl) ?_
              refine lv_istore_n (lv' := [(1, .int (nI d)), (0, .ref (ad 1000)), (2, .int mo), (3, .int (nI d)), (4, .int a), (5, .int (nI ee))]) hx hb dX8_next_202 rfl hl (by decide) rfl (fun ls hl => ?_)
              refine lv_iload hx hb dX8_next_203 (lv_at hl 4 rfl) ?_
              refine lv_istore_n (lv' := [(2, .int a), (1, .int (nI d)), (0, .ref (ad 1000)), (3, .int (nI d)), (4, .int a), (5, .int (nI ee))]) hx hb dX8_next_205 rfl hl (by decide) rfl (fun ls hl => ?_)
              refine lv_iinc (v := nI (d + 1)) (lv' := [(3, .int (nI (d + 1))), (2, .int a), (1, .int (nI d)), (0, .ref (ad 1000)), (4, .int a), (5, .int (nI ee))]) hx hb dX8_next_206 hl (k := 3) rfl (by rw [show Int32.ofInt 1 = 1 from by decide]; exact nI_1 _) (by decide) rfl (fun ls hl => ?_)
              refine lv_goto (tgt := 98) hx hb dX8_next_209 (by decide) ?_
              exact ih (d + 1) _ _ (by omega) (by have h := hF; simp only [m_nB, hPR, if_neg c_198] at h; exact h) h14 h21 _ _ _ hW hS (lv_sub hl [3, 2, 1, 0] rfl)
          · exact absurd (by rw [hfW]; exact nI_le (by omega) (by omega)) c_118
        | succ n2 ih2 =>
          intro ee a hn2 hC H locs ls hW hS hl
          have hef : ee < f := by omega
          obtain ⟨PQ, hPQ⟩ : ∃ r, lpI (m_pd V2 ((V2 1008 d).toNatClampNeg) ee) (f - (ee + 1)) (ee + 1) a = r := ⟨_, rfl⟩
          have J127 : ∀ n3 : Nat, ∀ (g : Nat) (a2 : Int32) (hn3 : g + n3 = f) (hD : lpI (m_pd V2 ((V2 1008 d).toNatClampNeg) ee) n3 g a2 = PQ) (H : Heap) (locs : List Loc) (ls : Array Slot), wok A D q dm kd ln ad V2 J R H → va_S A s.heap H locs → lv_has ls 7 [(0, .ref (ad 1000)), (1, .int bb), (2, .int mo), (3, .int (nI d)), (4, .int a2), (5, .int (nI ee)), (6, .int (nI g))] → W p l e ({ frames := 3, cells := 0, slots := 0, locals := 70 }) s m ([.ref (ad 1000)] : List Value).toArray below meth c H locs 0 0 (MQ below (QI (m_next V nP nD) D q dm kd ln ad (m_nextV V nP nD) (J) (R) A) ([.ref (ad 1000)] : List Value).toArray s 0 0 A) (F0 m 127 ls []) := by
            intro n3
            induction n3 with
            | zero =>
              intro g a2 hn3 hD H locs ls hW hS hl
              have hD2 : a2 = PQ := hD
              refine lv_iload hx hb dX8_next_127 (lv_at hl 6 rfl) ?_
              refine lv_aload_n hx hb dX8_next_129 rfl (lv_at hl 0 rfl) ?_
              refine w_get (ci := 9) (T := TX8) hx hb hts hin_TX8 hown hK hW hM.1.1 hM.1.2 (by decide) rfl 26 (by decide) (hts (.fieldLink RX8 179 "TownClocksModel" "found" "I") (by decide +kernel)) (fun _ h9 => h9) rfl dX8_next_130 ?_
              refine lv_icmp_ge (tgt := 189) hx hb dX8_next_133 (by decide) (fun c_133 => ?_) (fun c_133 => ?_)
              · refine lv_iinc (v := nI (ee + 1)) (lv' := [(5, .int (nI (ee + 1))), (0, .ref (ad 1000)), (1, .int bb), (2, .int mo), (3, .int (nI d)), (4, .int a2), (6, .int (nI g))]) hx hb dX8_next_189 hl (k := 5) rfl (by rw [show Int32.ofInt 1 = 1 from by decide]; exact nI_1 _) (by decide) rfl (fun ls hl => ?_)
                refine lv_goto (tgt := 112) hx hb dX8_next_192 (by decide) ?_
                exact ih2 (ee + 1) a2 (by omega) (by rw [hD2, ← hPQ]; exact hC) _ _ _ hW hS (lv_sub hl [1, 2, 3, 4, 5, 0] rfl)
              · exact absurd (by rw [hfW]; exact nI_le (by omega) (by omega)) c_133
            | succ n3 ih3 =>
              intro g a2 hn3 hD H locs ls hW hS hl
              refine lv_iload hx hb dX8_next_127 (lv_at hl 6 rfl) ?_
              refine lv_aload_n hx hb dX8_next_129 rfl (lv_at hl 0 rfl) ?_
              refine w_get (ci := 9) (T := TX8) hx hb hts hin_TX8 hown hK hW hM.1.1 hM.1.2 (by decide) rfl 26 (by decide) (hts (.fieldLink RX8 179 "TownClocksModel" "found" "I") (by decide +kernel)) (fun _ h9 => h9) rfl dX8_next_130 ?_
              refine lv_icmp_ge (tgt := 189) hx hb dX8_next_133 (by decide) (fun c_133 => ?_) (fun c_133 => ?_)
              · exact absurd c_133 (by rw [hfW]; exact nI_ge (by omega) (by omega))
              · refine lv_iload hx hb dX8_next_136 (lv_at hl 4 rfl) ?_
                refine lv_aload_n hx hb dX8_next_138 rfl (lv_at hl 0 rfl) ?_
                refine w_getr (ci := 9) (T := TX8) hx hb hts hin_TX8 hown hK hW hM.1.1 hM.1.2 (by decide) rfl 30 (by decide) (hts (.fieldLink RX8 74 "TownClocksModel" "airBy" "[I") (by decide +kernel)) (fun _ h9 => h9) rfl (mo_30 hM).2.2.2 dX8_next_139 ?_
                refine lv_bipush (v := 30) hx hb dX8_next_142 (by decide) ?_
                refine lv_iload hx hb dX8_next_144 (lv_at hl 5 rfl) ?_
                refine lv_imul hx hb dX8_next_146 ?_
                refine lv_aload_n hx hb dX8_next_147 rfl (lv_at hl 0 rfl) ?_
                refine w_getr (ci := 9) (T := TX8) hx hb hts hin_TX8 hown hK hW hM.1.1 hM.1.2 (by decide) rfl 8 (by decide) (hts (.fieldLink RX8 25 "TownClocksModel" "on" "[I") (by decide +kernel)) (fun _ h9 => h9) rfl (mo_8 hM).2.2.2 dX8_next_148 ?_
                refine lv_iload_n hx hb dX8_next_151 rfl (lv_at hl 3 rfl) ?_
                refine w_ialdN (t := d) hx hb hK hW (mo_8 hM).1 (mo_8 hM).2.1 ⟨by rw [(mo_8 hM).2.2.1]; omega, by omega⟩ dX8_next_152 ?_
                refine w_i (inx_e (honW d hid)) ?_
                refine lv_iadd hx hb dX8_next_153 ?_
                refine w_i (ix30 ee _) ?_
                refine w_ialdN (t := 30 * ee + (V2 1008 d).toNatClampNeg) hx hb hK hW (mo_30 hM).1 (mo_30 hM).2.1 ⟨by rw [(mo_30 hM).2.2.1]; have h9 := (inx_c (honW d hid)).1; omega, by have h9 := (inx_c (honW d hid)).1; omega⟩ dX8_next_154 ?_
                refine lv_aload_n hx hb dX8_next_155 rfl (lv_at hl 0 rfl) ?_
                refine w_getr (ci := 9) (T := TX8) hx hb hts hin_TX8 hown hK hW hM.1.1 hM.1.2 (by decide) rfl 30 (by decide) (hts (.fieldLink RX8 74 "TownClocksModel" "airBy" "[I") (by decide +kernel)) (fun _ h9 => h9) rfl (mo_30 hM).2.2.2 dX8_next_156 ?_
                refine lv_bipush (v := 30) hx hb dX8_next_159 (by decide) ?_
                refine lv_iload hx hb dX8_next_161 (lv_at hl 6 rfl) ?_
                refine lv_imul hx hb dX8_next_163 ?_
                refine lv_aload_n hx hb dX8_next_164 rfl (lv_at hl 0 rfl) ?_
                refine w_getr (ci := 9) (T := TX8) hx hb hts hin_TX8 hown hK hW hM.1.1 hM.1.2 (by decide) rfl 8 (by decide) (hts (.fieldLink RX8 25 "TownClocksModel" "on" "[I") (by decide +kernel)) (fun _ h9 => h9) rfl (mo_8 hM).2.2.2 dX8_next_165 ?_
                refine lv_iload_n hx hb dX8_next_168 rfl (lv_at hl 3 rfl) ?_
                refine w_ialdN (t := d) hx hb hK hW (mo_8 hM).1 (mo_8 hM).2.1 ⟨by rw [(mo_8 hM).2.2.1]; omega, by omega⟩ dX8_next_169 ?_
                refine w_i (inx_e (honW d hid)) ?_
                refine lv_iadd hx hb dX8_next_170 ?_
                refine w_i (ix30 g _) ?_
                refine w_ialdN (t := 30 * g + (V2 1008 d).toNatClampNeg) hx hb hK hW (mo_30 hM).1 (mo_30 hM).2.1 ⟨by rw [(mo_30 hM).2.2.1]; have h9 := (inx_c (honW d hid)).1; omega, by have h9 := (inx_c (honW d hid)).1; omega⟩ dX8_next_171 ?_
                refine lv_icmp_eq (tgt := 179) hx hb dX8_next_172 (by decide) (fun c_172 => ?_) (fun c_172 => ?_)
                · refine lv_iconst (v := 0) hx hb dX8_next_179 (by decide) ?_
                  refine lv_iadd hx hb dX8_next_180 ?_
                  refine lv_istore (lv' := [(4, .int (a2 + 0)), (0, .ref (ad 1000)), (1, .int bb), (2, .int mo), (3, .int (nI d)), (5, .int (nI ee)), (6, .int (nI g))]) hx hb dX8_next_181 hl (by decide) rfl (fun ls hl => ?_)
                  refine lv_iinc (v := nI (g + 1)) (lv' := [(6, .int (nI (g + 1))), (4, .int (a2 + 0)), (0, .ref (ad 1000)), (1, .int bb), (2, .int mo), (3, .int (nI d)), (5, .int (nI ee))]) hx hb dX8_next_183 hl (k := 6) rfl (by rw [show Int32.ofInt 1 = 1 from by decide]; exact nI_1 _) (by decide) rfl (fun ls hl => ?_)
                  refine lv_goto (tgt := 127) hx hb dX8_next_186 (by decide) ?_
                  exact ih3 (g + 1) _ (by omega) (by have h := hD; simp only [lpI, m_pd, if_pos c_172] at h; exact h) _ _ _ hW hS (lv_sub hl [2, 3, 4, 5, 1, 6, 0] rfl)
                · refine lv_iconst (v := 1) hx hb dX8_next_175 (by decide) ?_
                  refine lv_goto (tgt := 180) hx hb dX8_next_176 (by decide) ?_
                  refine lv_iadd hx hb dX8_next_180 ?_
                  refine lv_istore (lv' := [(4, .int (a2 + 1)), (0, .ref (ad 1000)), (1, .int bb), (2, .int mo), (3, .int (nI d)), (5, .int (nI ee)), (6, .int (nI g))]) hx hb dX8_next_181 hl (by decide) rfl (fun ls hl => ?_)
                  refine lv_iinc (v := nI (g + 1)) (lv' := [(6, .int (nI (g + 1))), (4, .int (a2 + 1)), (0, .ref (ad 1000)), (1, .int bb), (2, .int mo), (3, .int (nI d)), (5, .int (nI ee))]) hx hb dX8_next_183 hl (k := 6) rfl (by rw [show Int32.ofInt 1 = 1 from by decide]; exact nI_1 _) (by decide) rfl (fun ls hl => ?_)
                  refine lv_goto (tgt := 127) hx hb dX8_next_186 (by decide) ?_
                  exact ih3 (g + 1) _ (by omega) (by have h := hD; simp only [lpI, m_pd, if_neg c_172] at h; exact h) _ _ _ hW hS (lv_sub hl [2, 3, 4, 5, 1, 6, 0] rfl)
          refine lv_iload hx hb dX8_next_112 (lv_at hl 5 rfl) ?_
          refine lv_aload_n hx hb dX8_next_114 rfl (lv_at hl 0 rfl) ?_
          refine w_get (ci := 9) (T := TX8) hx hb hts hin_TX8 hown hK hW hM.1.1 hM.1.2 (by decide) rfl 26 (by decide) (hts (.fieldLink RX8 179 "TownClocksModel" "found" "I") (by decide +kernel)) (fun _ h9 => h9) rfl dX8_next_115 ?_
          refine lv_icmp_ge (tgt := 195) hx hb dX8_next_118 (by decide) (fun c_118 => ?_) (fun c_118 => ?_)
          · exact absurd c_118 (by rw [hfW]; exact nI_ge (by omega) (by omega))
          · refine lv_iload hx hb dX8_next_121 (lv_at hl 5 rfl) ?_
            refine lv_iconst (v := 1) hx hb dX8_next_123 (by decide) ?_
            refine lv_iadd hx hb dX8_next_124 ?_
            refine w_i (nI_1 ee) ?_
            refine lv_istore (lv' := [(6, .int (nI (ee + 1))), (0, .ref (ad 1000)), (1, .int bb), (2, .int mo), (3, .int (nI d)), (4, .int a), (5, .int (nI ee))]) hx hb dX8_next_125 hl (by decide) rfl (fun ls hl => ?_)
            exact J127 (f - (ee + 1)) (ee + 1) a (by omega) hPQ _ _ _ hW hS (lv_sub hl [1, 2, 3, 4, 5, 6, 0] rfl)
      refine lv_iload_n hx hb dX8_next_98 rfl (lv_at hl 3 rfl) ?_
      refine lv_aload_n hx hb dX8_next_99 rfl (lv_at hl 0 rfl) ?_
      refine w_get (ci := 9) (T := TX8) hx hb hts hin_TX8 hown hK hW hM.1.1 hM.1.2 (by decide) rfl 7 (by decide) (hts (.fieldLink RX8 128 "TownClocksModel" "dials" "I") (by decide +kernel)) (fun _ h9 => h9) rfl dX8_next_100 ?_
      refine lv_icmp_ge (tgt := 212) hx hb dX8_next_103 (by decide) (fun c_103 => ?_) (fun c_103 => ?_)
      · exact absurd c_103 (by rw [hmqW]; exact nI_ge (by omega) (by omega))
      · refine lv_iconst (v := 0) hx hb dX8_next_106 (by decide) ?_
        refine lv_istore (lv' := [(4, .int 0), (0, .ref (ad 1000)), (1, .int bb), (2, .int mo), (3, .int (nI d))]) hx hb dX8_next_107 hl (by decide) rfl (fun ls hl => ?_)
        refine lv_iconst (v := 0) hx hb dX8_next_109 (by decide) ?_
        refine lv_istore (lv' := [(5, .int 0), (4, .int 0), (0, .ref (ad 1000)), (1, .int bb), (2, .int mo), (3, .int (nI d))]) hx hb dX8_next_110 hl (by decide) rfl (fun ls hl => ?_)
        exact J112 f 0 0 (by omega) hPR _ _ _ hW hS (lv_sub hl [2, 3, 4, 5, 1, 0] rfl)
  have J29 : ∀ n : Nat, ∀ (ee : Nat) (Vw : Mv) (hn : ee + n = f) (hag : ∀ k, k ≠ 1006 → k ≠ 1030 → Vw k = V1 k) (hF : m_nA nP n ee Vw = V2) (h14 : ¬ V1 1000 26 < 2) (h21 : ¬ V1 1000 7 = 0) (H : Heap) (locs : List Loc) (ls : Array Slot), wok A D q dm kd ln ad Vw J R H → va_S A s.heap H locs → lv_has ls 7 [(0, .ref (ad 1000)), (1, .int (nI ee))] → W p l e ({ frames := 3, cells := 0, slots := 0, locals := 70 }) s m ([.ref (ad 1000)] : List Value).toArray below meth c H locs 0 0 (MQ below (QI (m_next V nP nD) D q dm kd ln ad (m_nextV V nP nD) (J) (R) A) ([.ref (ad 1000)] : List Value).toArray s 0 0 A) (F0 m 29 ls []) := by
    intro n
    induction n with
    | zero =>
      intro ee Vw hn hag hF h14 h21 H locs ls hW hS hl
      refine lv_iload_n hx hb dX8_next_29 rfl (lv_at hl 1 rfl) ?_
      refine lv_aload_n hx hb dX8_next_30 rfl (lv_at hl 0 rfl) ?_
      refine w_get (ci := 9) (T := TX8) hx hb hts hin_TX8 hown hK hW hM.1.1 hM.1.2 (by decide) rfl 26 (by decide) (hts (.fieldLink RX8 179 "TownClocksModel" "found" "I") (by decide +kernel)) (fun _ h9 => h9) rfl dX8_next_31 ?_
      refine lv_icmp_ge (tgt := 92) hx hb dX8_next_34 (by decide) (fun c_34 => ?_) (fun c_34 => ?_)
      · rw [show Vw = V2 from hF] at hW
        refine lv_iconst (v := 0) hx hb dX8_next_92 (by decide) ?_
        refine lv_istore_n (lv' := [(1, .int 0), (0, .ref (ad 1000))]) hx hb dX8_next_93 rfl hl (by decide) rfl (fun ls hl => ?_)
        refine lv_iconst (v := (-1)) hx hb dX8_next_94 (by decide) ?_
        refine lv_istore_n (lv' := [(2, .int (-1)), (1, .int 0), (0, .ref (ad 1000))]) hx hb dX8_next_95 rfl hl (by decide) rfl (fun ls hl => ?_)
        refine lv_iconst (v := 0) hx hb dX8_next_96 (by decide) ?_
        refine lv_istore_n (lv' := [(3, .int 0), (2, .int (-1)), (1, .int 0), (0, .ref (ad 1000))]) hx hb dX8_next_97 rfl hl (by decide) rfl (fun ls hl => ?_)
        exact J98 nD 0 0 (-1) (by omega) hRV.symm h14 h21 _ _ _ hW hS (lv_sub hl [3, 2, 1, 0] rfl)
      · exact absurd (by rw [hag 1000 (by decide) (by decide), hf2]; exact nI_le (by omega) (by omega)) c_34
    | succ n ih =>
      intro ee Vw hn hag hF h14 h21 H locs ls hW hS hl
      obtain ⟨PP, hPP⟩ : ∃ r, m_nP ee nP 0 (m_airB (Vw 1027 ee) (Vw 1028 ee) nP 0 Vw) = r := ⟨_, rfl⟩
      have J55 : ∀ n2 : Nat, ∀ (pz : Nat) (V3 : Mv) (hn2 : pz + n2 = nP) (hag3 : ∀ k, k ≠ 1006 → k ≠ 1030 → V3 k = V1 k) (hP : m_nP ee n2 pz V3 = PP) (H : Heap) (locs : List Loc) (ls : Array Slot), wok A D q dm kd ln ad V3 J R H → va_S A s.heap H locs → lv_has ls 7 [(0, .ref (ad 1000)), (1, .int (nI ee)), (2, .int (nI pz))] → W p l e ({ frames := 3, cells := 0, slots := 0, locals := 70 }) s m ([.ref (ad 1000)] : List Value).toArray below meth c H locs 0 0 (MQ below (QI (m_next V nP nD) D q dm kd ln ad (m_nextV V nP nD) (J) (R) A) ([.ref (ad 1000)] : List Value).toArray s 0 0 A) (F0 m 55 ls []) := by
        intro n2
        induction n2 with
        | zero =>
          intro pz V3 hn2 hag3 hP H locs ls hW hS hl
          have hP2 : V3 = PP := hP
          refine lv_iload_n hx hb dX8_next_55 rfl (lv_at hl 2 rfl) ?_
          refine lv_aload_n hx hb dX8_next_56 rfl (lv_at hl 0 rfl) ?_
          refine w_get (ci := 9) (T := TX8) hx hb hts hin_TX8 hown hK hW hM.1.1 hM.1.2 (by decide) rfl 1 (by decide) (hts (.fieldLink RX8 99 "TownClocksModel" "pipes" "I") (by decide +kernel)) (fun _ h9 => h9) rfl dX8_next_57 ?_
          refine lv_icmp_ge (tgt := 86) hx hb dX8_next_60 (by decide) (fun c_60 => ?_) (fun c_60 => ?_)
          · refine lv_iinc (v := nI (ee + 1)) (lv' := [(1, .int (nI (ee + 1))), (0, .ref (ad 1000)), (2, .int (nI pz))]) hx hb dX8_next_86 hl (k := 1) rfl (by rw [show Int32.ofInt 1 = 1 from by decide]; exact nI_1 _) (by decide) rfl (fun ls hl => ?_)
            refine lv_goto (tgt := 29) hx hb dX8_next_89 (by decide) ?_
            exact ih (ee + 1) V3 (by omega) hag3 (by rw [hP2, ← hPP]; exact hF) h14 h21 _ _ _ hW hS (lv_sub hl [1, 0] rfl)
          · exact absurd (by rw [hag3 1000 (by decide) (by decide), hmp1]; exact nI_le (by omega) (by omega)) c_60
        | succ n2 ih2 =>
          intro pz V3 hn2 hag3 hP H locs ls hW hS hl
          refine lv_iload_n hx hb dX8_next_55 rfl (lv_at hl 2 rfl) ?_
          refine lv_aload_n hx hb dX8_next_56 rfl (lv_at hl 0 rfl) ?_
          refine w_get (ci := 9) (T := TX8) hx hb hts hin_TX8 hown hK hW hM.1.1 hM.1.2 (by decide) rfl 1 (by decide) (hts (.fieldLink RX8 99 "TownClocksModel" "pipes" "I") (by decide +kernel)) (fun _ h9 => h9) rfl dX8_next_57 ?_
          refine lv_icmp_ge (tgt := 86) hx hb dX8_next_60 (by decide) (fun c_60 => ?_) (fun c_60 => ?_)
          · exact absurd c_60 (by rw [hag3 1000 (by decide) (by decide), hmp1]; exact nI_ge (by omega) (by omega))
          · refine lv_aload_n hx hb dX8_next_63 rfl (lv_at hl 0 rfl) ?_
            refine w_getr (ci := 9) (T := TX8) hx hb hts hin_TX8 hown hK hW hM.1.1 hM.1.2 (by decide) rfl 30 (by decide) (hts (.fieldLink RX8 74 "TownClocksModel" "airBy" "[I") (by decide +kernel)) (fun _ h9 => h9) rfl (mo_30 hM).2.2.2 dX8_next_64 ?_
            refine lv_bipush (v := 30) hx hb dX8_next_67 (by decide) ?_
            refine lv_iload_n hx hb dX8_next_69 rfl (lv_at hl 1 rfl) ?_
            refine lv_imul hx hb dX8_next_70 ?_
            refine lv_iload_n hx hb dX8_next_71 rfl (lv_at hl 2 rfl) ?_
            refine lv_iadd hx hb dX8_next_72 ?_
            refine w_i (ix30 ee pz) ?_
            refine lv_aload_n hx hb dX8_next_73 rfl (lv_at hl 0 rfl) ?_
            refine w_getr (ci := 9) (T := TX8) hx hb hts hin_TX8 hown hK hW hM.1.1 hM.1.2 (by decide) rfl 6 (by decide) (hts (.fieldLink RX8 22 "TownClocksModel" "air" "[I") (by decide +kernel)) (fun _ h9 => h9) rfl (mo_6 hM).2.2.2 dX8_next_74 ?_
            refine lv_iload_n hx hb dX8_next_77 rfl (lv_at hl 2 rfl) ?_
            refine w_ialdN (t := pz) hx hb hK hW (mo_6 hM).1 (mo_6 hM).2.1 ⟨by rw [(mo_6 hM).2.2.1]; omega, by omega⟩ dX8_next_78 ?_
            refine w_iastN (t := 30 * ee + pz) hx hb hK hW hS (mo_30 hM).1 (mo_30 hM).2.1 ⟨by rw [(mo_30 hM).2.2.1]; omega, by omega⟩ dX8_next_79 (fun H locs hW hS => ?_)
            refine lv_iinc (v := nI (pz + 1)) (lv' := [(2, .int (nI (pz + 1))), (0, .ref (ad 1000)), (1, .int (nI ee))]) hx hb dX8_next_80 hl (k := 2) rfl (by rw [show Int32.ofInt 1 = 1 from by decide]; exact nI_1 _) (by decide) rfl (fun ls hl => ?_)
            refine lv_goto (tgt := 55) hx hb dX8_next_83 (by decide) ?_
            exact ih2 (pz + 1) _ (by omega) (fun k h1 h2 => by rw [u2_ne h2]; exact hag3 k h1 h2) hP _ _ _ hW hS (lv_sub hl [1, 2, 0] rfl)
      refine lv_iload_n hx hb dX8_next_29 rfl (lv_at hl 1 rfl) ?_
      refine lv_aload_n hx hb dX8_next_30 rfl (lv_at hl 0 rfl) ?_
      refine w_get (ci := 9) (T := TX8) hx hb hts hin_TX8 hown hK hW hM.1.1 hM.1.2 (by decide) rfl 26 (by decide) (hts (.fieldLink RX8 179 "TownClocksModel" "found" "I") (by decide +kernel)) (fun _ h9 => h9) rfl dX8_next_31 ?_
      refine lv_icmp_ge (tgt := 92) hx hb dX8_next_34 (by decide) (fun c_34 => ?_) (fun c_34 => ?_)
      · exact absurd c_34 (by rw [hag 1000 (by decide) (by decide), hf2]; exact nI_ge (by omega) (by omega))
      · refine lv_aload_n hx hb dX8_next_37 rfl (lv_at hl 0 rfl) ?_
        refine lv_aload_n hx hb dX8_next_38 rfl (lv_at hl 0 rfl) ?_
        refine w_getr (ci := 9) (T := TX8) hx hb hts hin_TX8 hown hK hW hM.1.1 hM.1.2 (by decide) rfl 27 (by decide) (hts (.fieldLink RX8 65 "TownClocksModel" "foundPipe" "[I") (by decide +kernel)) (fun _ h9 => h9) rfl (mo_27 hM).2.2.2 dX8_next_39 ?_
        refine lv_iload_n hx hb dX8_next_42 rfl (lv_at hl 1 rfl) ?_
        refine w_ialdN (t := ee) hx hb hK hW (mo_27 hM).1 (mo_27 hM).2.1 ⟨by rw [(mo_27 hM).2.2.1]; omega, by omega⟩ dX8_next_43 ?_
        refine lv_aload_n hx hb dX8_next_44 rfl (lv_at hl 0 rfl) ?_
        refine w_getr (ci := 9) (T := TX8) hx hb hts hin_TX8 hown hK hW hM.1.1 hM.1.2 (by decide) rfl 28 (by decide) (hts (.fieldLink RX8 68 "TownClocksModel" "foundLeak" "[I") (by decide +kernel)) (fun _ h9 => h9) rfl (mo_28 hM).2.2.2 dX8_next_45 ?_
        refine lv_iload_n hx hb dX8_next_48 rfl (lv_at hl 1 rfl) ?_
        refine w_ialdN (t := ee) hx hb hK hW (mo_28 hM).1 (mo_28 hM).2.1 ⟨by rw [(mo_28 hM).2.2.1]; omega, by omega⟩ dX8_next_49 ?_
        refine w_cv (w_runV ⟨hx, hb, hml, hown, hts⟩ (c_X8_findAirBy hxo l D q Vw J R nP nD (Vw 1027 ee) (Vw 1028 ee) hM (by rw [hag 1000 (by decide) (by decide)]; exact hmp1) hnP (by rw [hag 1000 (by decide) (by decide)]; exact hmq1) hnD (fun i hi => by rw [hag 1002 (by decide) (by decide)]; exact hpar1 i hi)) hxo (cwV 2 hts gX8_next_X8_findAirBy rfl rfl rfl (by decide +kernel) ⟨Nat.le_of_ble_eq_true rfl, Nat.le_of_ble_eq_true rfl⟩) hK hW hS hA hXs (w_rcv hK hW hM.1.1 hM.1.2 (by decide) rfl) rfl hl.1 rfl (Nat.le_of_ble_eq_true rfl) dX8_next_50 ⟨Nat.zero_le _, Nat.zero_le _⟩) hW hS hA (fun H locs hW hS => ?_)
        refine lv_iconst (v := 0) hx hb dX8_next_53 (by decide) ?_
        refine lv_istore_n (lv' := [(2, .int 0), (0, .ref (ad 1000)), (1, .int (nI ee))]) hx hb dX8_next_54 rfl hl (by decide) rfl (fun ls hl => ?_)
        exact J55 nP 0 _ (by omega) (fun k h1 h2 => by rw [m_airB_ne h1]; exact hag k h1 h2) hPP _ _ _ hW hS (lv_sub hl [1, 2, 0] rfl)
  refine lv_aload_n hx hb dX8_next_0 rfl (lv_at hl 0 rfl) ?_
  refine lv_iconst (v := 0) hx hb dX8_next_1 (by decide) ?_
  refine w_puti (ci := 9) (T := TX8) (ty := .int) hx hb hts hin_TX8 tyX8 tyX8_ok nmX8 hown hK hW hS hM.1.1 hM.1.2 (by decide) rfl 0 (by decide) (hts (.fieldLink RX8 95 "TownClocksModel" "thrown" "I") (by decide +kernel)) (fun _ h9 => h9) rfl (tyX8_ok 0 (by decide)) rfl rfl (Nat.le_of_ble_eq_true rfl) rfl dX8_next_2 (fun H locs hW hS => ?_)
  refine lv_aload_n hx hb dX8_next_5 rfl (lv_at hl 0 rfl) ?_
  refine w_cv (w_runV ⟨hx, hb, hml, hown, hts⟩ (c_X8_findAll hxo l D q (u2 V 1000 0 0) J R nP nD hM (by rw [u2_sn (by decide)]; exact hmp) hnP (by rw [u2_sn (by decide)]; exact hmq) hnD hpar hon) hxo (cwV 0 hts gX8_next_X8_findAll rfl rfl rfl (by decide +kernel) ⟨Nat.le_of_ble_eq_true rfl, Nat.le_of_ble_eq_true rfl⟩) hK hW hS hA hXs (w_rcv hK hW hM.1.1 hM.1.2 (by decide) rfl) rfl hl.1 rfl (Nat.le_of_ble_eq_true rfl) dX8_next_6 ⟨Nat.zero_le _, Nat.zero_le _⟩) hW hS hA (fun H locs hW hS => ?_)
  rw [← hV1] at hW
  refine lv_aload_n hx hb dX8_next_9 rfl (lv_at hl 0 rfl) ?_
  refine w_get (ci := 9) (T := TX8) hx hb hts hin_TX8 hown hK hW hM.1.1 hM.1.2 (by decide) rfl 26 (by decide) (hts (.fieldLink RX8 179 "TownClocksModel" "found" "I") (by decide +kernel)) (fun _ h9 => h9) rfl dX8_next_10 ?_
  refine lv_iconst (v := 2) hx hb dX8_next_13 (by decide) ?_
  refine lv_icmp_lt (tgt := 24) hx hb dX8_next_14 (by decide) (fun c_14 => ?_) (fun c_14 => ?_)
  · refine lv_ldc (v := -1000000) hx hb hown (hts (.constant RX8 106 (-1000000)) (by decide +kernel)) dX8_next_24 ?_
    exact w_iret hx hb hr hlk hW hS (by simp only [m_next, ← hV1, if_pos c_14]) (by simp only [m_nextV, ← hV1, if_pos c_14]) rfl rfl dX8_next_26
  · refine lv_aload_n hx hb dX8_next_17 rfl (lv_at hl 0 rfl) ?_
    refine w_get (ci := 9) (T := TX8) hx hb hts hin_TX8 hown hK hW hM.1.1 hM.1.2 (by decide) rfl 7 (by decide) (hts (.fieldLink RX8 128 "TownClocksModel" "dials" "I") (by decide +kernel)) (fun _ h9 => h9) rfl dX8_next_18 ?_
    refine lv_if_ne (tgt := 27) hx hb dX8_next_21 (by decide) (fun c_21 => ?_) (fun c_21 => ?_)
    · refine lv_iconst (v := 0) hx hb dX8_next_27 (by decide) ?_
      refine lv_istore_n (lv' := [(1, .int 0), (0, .ref (ad 1000))]) hx hb dX8_next_28 rfl hl (by decide) rfl (fun ls hl => ?_)
      exact J29 f 0 V1 (by omega) (fun _ _ _ => rfl) hV2.symm c_14 c_21 _ _ _ hW hS (lv_sub hl [1, 0] rfl)
    · refine lv_ldc (v := -1000000) hx hb hown (hts (.constant RX8 106 (-1000000)) (by decide +kernel)) dX8_next_24 ?_
      exact w_iret hx hb hr hlk hW hS (by simp only [m_next, ← hV1, if_neg c_14, if_pos c_21]) (by simp only [m_nextV, ← hV1, if_neg c_14, if_pos c_21]) rfl rfl dX8_next_26
