def m_ex1 (V : Mv) (i : Nat) (a : Int32) : Int32 := if a = 0 then 0 else if V 1029 i = 0 then 1 else if V 1009 i ≤ V 1006 (V 1008 i).toNatClampNeg then (if 0 = V 1016 i then 1 else 0) else (if 1 = V 1016 i then 1 else 0)
def m_ex (V : Mv) (nD : Nat) : Int32 := lpI (fun i a => m_ex1 V i a) nD 0 1
def m_lkL : Nat → Nat → Mv → Mv
  | 0, _, V => V
  | n + 1, i, V => m_lkL n (i + 1) (u2 V 1029 i (if V 1006 (V 1008 i).toNatClampNeg < V 1009 i then 0 else 1))
def m_lk (nD i : Nat) (V : Mv) : Mv := m_lkL nD i V
theorem m_lkL_ne {k : Nat} (h : k ≠ 1029) : ∀ {n i : Nat} {V : Mv}, m_lkL n i V k = V k
  | 0, _, _ => rfl
  | n + 1, i, V => by rw [m_lkL, m_lkL_ne h, u2_ne h]
theorem m_lk_ne {k n i : Nat} {V : Mv} (h : k ≠ 1029) : m_lk n i V k = V k := m_lkL_ne h
def m_ls (pp : Int32) (nP nD : Nat) : Nat → Nat → Mv → Mv × Nat
  | 0, t, V => (V, t)
  | n + 1, t, V => if m_ex (m_airB pp (nI t) nP 0 V) nD = 0 then m_ls pp nP nD n (t + 1) (m_airB pp (nI t) nP 0 V) else (m_airB pp (nI t) nP 0 V, t)
theorem m_ls_ne {pp : Int32} {nP nD k : Nat} (h : k ≠ 1006) : ∀ {n t : Nat} {V : Mv}, (m_ls pp nP nD n t V).1 k = V k
  | 0, _, _ => rfl
  | n + 1, t, V => by
    rw [m_ls]
    split
    · rw [m_ls_ne h, m_airB_ne h]
    · exact m_airB_ne h
def m_aadd (V : Mv) (i l : Int32) : Mv := u2 (u2 (u2 V 1027 (V 1000 26).toNatClampNeg i) 1028 (V 1000 26).toNatClampNeg l) 1000 26 (V 1000 26 + 1)
def m_allL (nP nD : Nat) : Nat → Nat → Mv → Mv
  | 0, _, V => V
  | n + 1, i, V => m_allL nP nD n (i + 1) (if 60 < nI (m_ls (nI i) nP nD 60 1 V).2 then (m_ls (nI i) nP nD 60 1 V).1 else m_aadd (m_ls (nI i) nP nD 60 1 V).1 (nI i) (nI (m_ls (nI i) nP nD 60 1 V).2))
def m_all (V : Mv) (nP nD : Nat) : Mv := m_allL nP nD nP 0 (u2 (m_lk nD 0 (m_airB (-1000000) 0 nP 0 V)) 1000 26 0)
theorem m_allL_f (nP nD : Nat) : ∀ (n i : Nat) (V : Mv) (f : Nat), V 1000 26 = nI f → f ≤ i → ∃ f', f' ≤ i + n ∧ m_allL nP nD n i V 1000 26 = nI f'
  | 0, i, V, f, h, hf => ⟨f, by omega, h⟩
  | n + 1, i, V, f, h, hf => by
    rw [m_allL]
    split
    · obtain ⟨f', h1, h2⟩ := m_allL_f nP nD n (i + 1) (m_ls (nI i) nP nD 60 1 V).1 f (by rw [m_ls_ne (by decide)]; exact h) (by omega)
      exact ⟨f', by omega, h2⟩
    · obtain ⟨f', h1, h2⟩ := m_allL_f nP nD n (i + 1) (m_aadd (m_ls (nI i) nP nD 60 1 V).1 (nI i) (nI (m_ls (nI i) nP nD 60 1 V).2)) (f + 1) (by rw [m_aadd, u2_ss, m_ls_ne (by decide), h, nI_1]) (by omega)
      exact ⟨f', by omega, h2⟩
theorem m_all_f (V : Mv) (nP nD : Nat) : ∃ f, f ≤ nP ∧ m_all V nP nD 1000 26 = nI f := by
  obtain ⟨f, h1, h2⟩ := m_allL_f nP nD nP 0 (u2 (m_lk nD 0 (m_airB (-1000000) 0 nP 0 V)) 1000 26 0) 0 (by rw [u2_ss]; rfl) (by omega)
  exact ⟨f, by omega, h2⟩
def m_expl (V : Mv) (nP nD : Nat) (x v : Int32) : Int32 := if 0 ≤ v ∧ v ≤ 1 then (if 0 ≤ x ∧ x ≤ m_all (u2 V 1000 0 0) nP nD 1000 26 - 1 then (if v = 0 then m_all (u2 V 1000 0 0) nP nD 1027 x.toNatClampNeg else m_all (u2 V 1000 0 0) nP nD 1028 x.toNatClampNeg) else -1000000) else -1000001
def m_explV (V : Mv) (nP nD : Nat) (v : Int32) : Mv := if 0 ≤ v ∧ v ≤ 1 then m_all (u2 V 1000 0 0) nP nD else u2 V 1000 0 0
set_option maxHeartbeats 4000000 in
set_option maxRecDepth 100000 in
theorem c_X8_isExplained {X : (Nat → Prop) → State → Prop} (hxo : xok X) (l : Launch) (D : va_G) (q : Cq) {dm : List Nat} {kd ln ad : Nat → Nat} (V : Mv) (J : Mj) (R : Mr) (nP nD : Nat) (pp l2 : Int32) (hM : okM dm kd ln R) (hmp : V 1000 1 = nI nP) (hnP : nP ≤ 30) (hmq : V 1000 7 = nI nD) (hnD : nD ≤ 40) (hpar : ∀ i, i < nP → V 1002 i = -1000000 ∨ ∃ j, j < i ∧ V 1002 i = nI j) (hon : ∀ d, d < nD → inx nP (V 1008 d)) : CtI X l yX8_isExplained wsX8_isExplained ({ frames := 1, cells := 0, slots := 0, locals := 24 }) D q dm kd ln ad V J R [.ref (ad 1000), .int pp, .int l2] (m_ex (m_airB pp l2 nP 0 V) nD) (m_airB pp l2 nP 0 V) (J) (R) := by
  refine CtI_of (cc := cX8_isExplained) (maxL := 5) (ret := (some .boolean)) (by decide +kernel) rfl (Nat.le_of_ble_eq_true rfl) ?_
  intro p e s m below meth c A hx hb hr hml hts hown hlk hmn hK hW hA hXs ls hl
  have hS : va_S A s.heap s.heap [] := va_S.rf
  have hl : lv_has ls 5 [(0, .ref (ad 1000)), (1, .int pp), (2, .int l2)] := hl
  have hin_TX8 : ∀ w ∈ u_ws RX8 TX8 48, w ∈ wsX8_isExplained := by decide +kernel
  obtain ⟨V1, hV1⟩ : ∃ r, r = m_airB pp l2 nP 0 V := ⟨_, rfl⟩
  obtain ⟨RV, hRV⟩ : ∃ r, r = lpI (fun i a => m_ex1 V1 i a) nD 0 1 := ⟨_, rfl⟩
  have hmqW : V1 1000 7 = nI nD := by rw [hV1, m_airB_ne (by decide)]; exact hmq
  have honW : ∀ d, d < nD → inx nP (V1 1008 d) := fun d hd => by rw [hV1, m_airB_ne (by decide)]; exact hon d hd
  have JL : ∀ n : Nat, ∀ (i : Nat) (a : Int32) (hn : i + n = nD) (ha01 : a = 0 ∨ a = 1) (hF : lpI (fun i a => m_ex1 V1 i a) n i a = RV) (H : Heap) (locs : List Loc) (ls : Array Slot), wok A D q dm kd ln ad V1 J R H → va_S A s.heap H locs → lv_has ls 5 [(0, .ref (ad 1000)), (3, .int a), (4, .int (nI i))] → W p l e ({ frames := 1, cells := 0, slots := 0, locals := 24 }) s m ([.ref (ad 1000), .int pp, .int l2] : List Value).toArray below meth c H locs 0 0 (MQ below (QI (m_ex (m_airB pp l2 nP 0 V) nD) D q dm kd ln ad (m_airB pp l2 nP 0 V) (J) (R) A) ([.ref (ad 1000), .int pp, .int l2] : List Value).toArray s 0 0 A) (F0 m 11 ls []) := by
    intro n
    induction n with
    | zero =>
      intro i a hn ha01 hF H locs ls hW hS hl
      refine lv_iload hx hb dX8_isExplained_11 (lv_at hl 2 rfl) ?_
      refine lv_aload_n hx hb dX8_isExplained_13 rfl (lv_at hl 0 rfl) ?_
      refine w_get (ci := 9) (T := TX8) hx hb hts hin_TX8 hown hK hW hM.1.1 hM.1.2 (by decide) rfl 7 (by decide) (hts (.fieldLink RX8 128 "TownClocksModel" "dials" "I") (by decide +kernel)) (fun _ h9 => h9) rfl dX8_isExplained_14 ?_
      refine lv_icmp_ge (tgt := 83) hx hb dX8_isExplained_17 (by decide) (fun c_17 => ?_) (fun c_17 => ?_)
      · refine lv_iload_n hx hb dX8_isExplained_83 rfl (lv_at hl 1 rfl) ?_
        exact w_zret hx hb hr hlk hW hS ha01 (by rw [m_ex, ← hV1, ← hRV, ← hF]; rfl) hV1 rfl rfl dX8_isExplained_84
      · exact absurd (by rw [hmqW]; exact nI_le (by omega) (by omega)) c_17
    | succ n ih =>
      intro i a hn ha01 hF H locs ls hW hS hl
      have hid : i < nD := by omega
      refine lv_iload hx hb dX8_isExplained_11 (lv_at hl 2 rfl) ?_
      refine lv_aload_n hx hb dX8_isExplained_13 rfl (lv_at hl 0 rfl) ?_
      refine w_get (ci := 9) (T := TX8) hx hb hts hin_TX8 hown hK hW hM.1.1 hM.1.2 (by decide) rfl 7 (by decide) (hts (.fieldLink RX8 128 "TownClocksModel" "dials" "I") (by decide +kernel)) (fun _ h9 => h9) rfl dX8_isExplained_14 ?_
      refine lv_icmp_ge (tgt := 83) hx hb dX8_isExplained_17 (by decide) (fun c_17 => ?_) (fun c_17 => ?_)
      · exact absurd c_17 (by rw [hmqW]; exact nI_ge (by omega) (by omega))
      · refine lv_iload_n hx hb dX8_isExplained_20 rfl (lv_at hl 1 rfl) ?_
        refine lv_if_eq (tgt := 75) hx hb dX8_isExplained_21 (by decide) (fun c_21 => ?_) (fun c_21 => ?_)
        · refine lv_iconst (v := 0) hx hb dX8_isExplained_75 (by decide) ?_
          refine lv_istore_n (lv' := [(3, .int 0), (0, .ref (ad 1000)), (4, .int (nI i))]) hx hb dX8_isExplained_76 rfl hl (by decide) rfl (fun ls hl => ?_)
          refine lv_iinc (v := nI (i + 1)) (lv' := [(4, .int (nI (i + 1))), (3, .int 0), (0, .ref (ad 1000))]) hx hb dX8_isExplained_77 hl (k := 2) rfl (by rw [show Int32.ofInt 1 = 1 from by decide]; exact nI_1 _) (by decide) rfl (fun ls hl => ?_)
          refine lv_goto (tgt := 11) hx hb dX8_isExplained_80 (by decide) ?_
          exact ih (i + 1) 0 (by omega) (Or.inl rfl) (by have h := hF; simp only [lpI, m_ex1, if_neg c_17, if_pos c_21] at h; exact h) _ _ _ hW hS (lv_sub hl [2, 1, 0] rfl)
        · refine lv_aload_n hx hb dX8_isExplained_24 rfl (lv_at hl 0 rfl) ?_
          refine w_getr (ci := 9) (T := TX8) hx hb hts hin_TX8 hown hK hW hM.1.1 hM.1.2 (by decide) rfl 29 (by decide) (hts (.fieldLink RX8 71 "TownClocksModel" "isLooked" "[Z") (by decide +kernel)) (fun _ h9 => h9) rfl (mo_29 hM).2.2.2 dX8_isExplained_25 ?_
          refine lv_iload hx hb dX8_isExplained_28 (lv_at hl 2 rfl) ?_
          refine w_zaldN (t := i) hx hb hK hW (mo_29 hM).1 (mo_29 hM).2.1 ⟨by rw [(mo_29 hM).2.2.1]; omega, by omega⟩ dX8_isExplained_30 ?_
          refine lv_if_eq (tgt := 71) hx hb dX8_isExplained_31 (by decide) (fun c_31 => ?_) (fun c_31 => ?_)
          · refine lv_iconst (v := 1) hx hb dX8_isExplained_71 (by decide) ?_
            refine lv_goto (tgt := 76) hx hb dX8_isExplained_72 (by decide) ?_
            refine lv_istore_n (lv' := [(3, .int 1), (0, .ref (ad 1000)), (4, .int (nI i))]) hx hb dX8_isExplained_76 rfl hl (by decide) rfl (fun ls hl => ?_)
            refine lv_iinc (v := nI (i + 1)) (lv' := [(4, .int (nI (i + 1))), (3, .int 1), (0, .ref (ad 1000))]) hx hb dX8_isExplained_77 hl (k := 2) rfl (by rw [show Int32.ofInt 1 = 1 from by decide]; exact nI_1 _) (by decide) rfl (fun ls hl => ?_)
            refine lv_goto (tgt := 11) hx hb dX8_isExplained_80 (by decide) ?_
            exact ih (i + 1) 1 (by omega) (Or.inr rfl) (by have h := hF; simp only [lpI, m_ex1, if_neg c_17, if_neg c_21, if_pos c_31] at h; exact h) _ _ _ hW hS (lv_sub hl [2, 1, 0] rfl)
          · refine lv_aload_n hx hb dX8_isExplained_34 rfl (lv_at hl 0 rfl) ?_
            refine w_getr (ci := 9) (T := TX8) hx hb hts hin_TX8 hown hK hW hM.1.1 hM.1.2 (by decide) rfl 6 (by decide) (hts (.fieldLink RX8 22 "TownClocksModel" "air" "[I") (by decide +kernel)) (fun _ h9 => h9) rfl (mo_6 hM).2.2.2 dX8_isExplained_35 ?_
            refine lv_aload_n hx hb dX8_isExplained_38 rfl (lv_at hl 0 rfl) ?_
            refine w_getr (ci := 9) (T := TX8) hx hb hts hin_TX8 hown hK hW hM.1.1 hM.1.2 (by decide) rfl 8 (by decide) (hts (.fieldLink RX8 25 "TownClocksModel" "on" "[I") (by decide +kernel)) (fun _ h9 => h9) rfl (mo_8 hM).2.2.2 dX8_isExplained_39 ?_
            refine lv_iload hx hb dX8_isExplained_42 (lv_at hl 2 rfl) ?_
            refine w_ialdN (t := i) hx hb hK hW (mo_8 hM).1 (mo_8 hM).2.1 ⟨by rw [(mo_8 hM).2.2.1]; omega, by omega⟩ dX8_isExplained_44 ?_
            refine w_iald hx hb hK hW (mo_6 hM).1 (mo_6 hM).2.1 (by rw [(mo_6 hM).2.2.1]; exact inx_v.mpr ⟨(honW i hid).1, by have h9 := (honW i hid).2; show _ < ((30 : Nat) : Int); omega⟩) dX8_isExplained_45 ?_
            refine lv_aload_n hx hb dX8_isExplained_46 rfl (lv_at hl 0 rfl) ?_
            refine w_getr (ci := 9) (T := TX8) hx hb hts hin_TX8 hown hK hW hM.1.1 hM.1.2 (by decide) rfl 9 (by decide) (hts (.fieldLink RX8 28 "TownClocksModel" "need" "[I") (by decide +kernel)) (fun _ h9 => h9) rfl (mo_9 hM).2.2.2 dX8_isExplained_47 ?_
            refine lv_iload hx hb dX8_isExplained_50 (lv_at hl 2 rfl) ?_
            refine w_ialdN (t := i) hx hb hK hW (mo_9 hM).1 (mo_9 hM).2.1 ⟨by rw [(mo_9 hM).2.2.1]; omega, by omega⟩ dX8_isExplained_52 ?_
            refine lv_icmp_ge (tgt := 60) hx hb dX8_isExplained_53 (by decide) (fun c_53 => ?_) (fun c_53 => ?_)
            · refine lv_iconst (v := 0) hx hb dX8_isExplained_60 (by decide) ?_
              refine lv_aload_n hx hb dX8_isExplained_61 rfl (lv_at hl 0 rfl) ?_
              refine w_getr (ci := 9) (T := TX8) hx hb hts hin_TX8 hown hK hW hM.1.1 hM.1.2 (by decide) rfl 16 (by decide) (hts (.fieldLink RX8 50 "TownClocksModel" "isMarked" "[Z") (by decide +kernel)) (fun _ h9 => h9) rfl (mo_16 hM).2.2.2 dX8_isExplained_62 ?_
              refine lv_iload hx hb dX8_isExplained_65 (lv_at hl 2 rfl) ?_
              refine w_zaldN (t := i) hx hb hK hW (mo_16 hM).1 (mo_16 hM).2.1 ⟨by rw [(mo_16 hM).2.2.1]; omega, by omega⟩ dX8_isExplained_67 ?_
              refine lv_icmp_ne (tgt := 75) hx hb dX8_isExplained_68 (by decide) (fun c_68 => ?_) (fun c_68 => ?_)
              · refine lv_iconst (v := 0) hx hb dX8_isExplained_75 (by decide) ?_
                refine lv_istore_n (lv' := [(3, .int 0), (0, .ref (ad 1000)), (4, .int (nI i))]) hx hb dX8_isExplained_76 rfl hl (by decide) rfl (fun ls hl => ?_)
                refine lv_iinc (v := nI (i + 1)) (lv' := [(4, .int (nI (i + 1))), (3, .int 0), (0, .ref (ad 1000))]) hx hb dX8_isExplained_77 hl (k := 2) rfl (by rw [show Int32.ofInt 1 = 1 from by decide]; exact nI_1 _) (by decide) rfl (fun ls hl => ?_)
                refine lv_goto (tgt := 11) hx hb dX8_isExplained_80 (by decide) ?_
                exact ih (i + 1) 0 (by omega) (Or.inl rfl) (by have h := hF; simp only [lpI, m_ex1, if_neg c_17, if_neg c_21, if_neg c_31, if_pos c_53, if_neg c_68] at h; exact h) _ _ _ hW hS (lv_sub hl [2, 1, 0] rfl)
              · refine lv_iconst (v := 1) hx hb dX8_isExplained_71 (by decide) ?_
                refine lv_goto (tgt := 76) hx hb dX8_isExplained_72 (by decide) ?_
                refine lv_istore_n (lv' := [(3, .int 1), (0, .ref (ad 1000)), (4, .int (nI i))]) hx hb dX8_isExplained_76 rfl hl (by decide) rfl (fun ls hl => ?_)
                refine lv_iinc (v := nI (i + 1)) (lv' := [(4, .int (nI (i + 1))), (3, .int 1), (0, .ref (ad 1000))]) hx hb dX8_isExplained_77 hl (k := 2) rfl (by rw [show Int32.ofInt 1 = 1 from by decide]; exact nI_1 _) (by decide) rfl (fun ls hl => ?_)
                refine lv_goto (tgt := 11) hx hb dX8_isExplained_80 (by decide) ?_
                exact ih (i + 1) 1 (by omega) (Or.inr rfl) (by have h := hF; simp only [lpI, m_ex1, if_neg c_17, if_neg c_21, if_neg c_31, if_pos c_53, if_pos c_68] at h; exact h) _ _ _ hW hS (lv_sub hl [2, 1, 0] rfl)
            · refine lv_iconst (v := 1) hx hb dX8_isExplained_56 (by decide) ?_
              refine lv_goto (tgt := 61) hx hb dX8_isExplained_57 (by decide) ?_
              refine lv_aload_n hx hb dX8_isExplained_61 rfl (lv_at hl 0 rfl) ?_
              refine w_getr (ci := 9) (T := TX8) hx hb hts hin_TX8 hown hK hW hM.1.1 hM.1.2 (by decide) rfl 16 (by decide) (hts (.fieldLink RX8 50 "TownClocksModel" "isMarked" "[Z") (by decide +kernel)) (fun _ h9 => h9) rfl (mo_16 hM).2.2.2 dX8_isExplained_62 ?_
              refine lv_iload hx hb dX8_isExplained_65 (lv_at hl 2 rfl) ?_
              refine w_zaldN (t := i) hx hb hK hW (mo_16 hM).1 (mo_16 hM).2.1 ⟨by rw [(mo_16 hM).2.2.1]; omega, by omega⟩ dX8_isExplained_67 ?_
              refine lv_icmp_ne (tgt := 75) hx hb dX8_isExplained_68 (by decide) (fun c_68 => ?_) (fun c_68 => ?_)
              · refine lv_iconst (v := 0) hx hb dX8_isExplained_75 (by decide) ?_
                refine lv_istore_n (lv' := [(3, .int 0), (0, .ref (ad 1000)), (4, .int (nI i))]) hx hb dX8_isExplained_76 rfl hl (by decide) rfl (fun ls hl => ?_)
                refine lv_iinc (v := nI (i + 1)) (lv' := [(4, .int (nI (i + 1))), (3, .int 0), (0, .ref (ad 1000))]) hx hb dX8_isExplained_77 hl (k := 2) rfl (by rw [show Int32.ofInt 1 = 1 from by decide]; exact nI_1 _) (by decide) rfl (fun ls hl => ?_)
                refine lv_goto (tgt := 11) hx hb dX8_isExplained_80 (by decide) ?_
                exact ih (i + 1) 0 (by omega) (Or.inl rfl) (by have h := hF; simp only [lpI, m_ex1, if_neg c_17, if_neg c_21, if_neg c_31, if_neg c_53, if_neg c_68] at h; exact h) _ _ _ hW hS (lv_sub hl [2, 1, 0] rfl)
              · refine lv_iconst (v := 1) hx hb dX8_isExplained_71 (by decide) ?_
                refine lv_goto (tgt := 76) hx hb dX8_isExplained_72 (by decide) ?_
                refine lv_istore_n (lv' := [(3, .int 1), (0, .ref (ad 1000)), (4, .int (nI i))]) hx hb dX8_isExplained_76 rfl hl (by decide) rfl (fun ls hl => ?_)
                refine lv_iinc (v := nI (i + 1)) (lv' := [(4, .int (nI (i + 1))), (3, .int 1), (0, .ref (ad 1000))]) hx hb dX8_isExplained_77 hl (k := 2) rfl (by rw [show Int32.ofInt 1 = 1 from by decide]; exact nI_1 _) (by decide) rfl (fun ls hl => ?_)
                refine lv_goto (tgt := 11) hx hb dX8_isExplained_80 (by decide) ?_
                exact ih (i + 1) 1 (by omega) (Or.inr rfl) (by have h := hF; simp only [lpI, m_ex1, if_neg c_17, if_neg c_21, if_neg c_31, if_neg c_53, if_pos c_68] at h; exact h) _ _ _ hW hS (lv_sub hl [2, 1, 0] rfl)
  refine lv_aload_n hx hb dX8_isExplained_0 rfl (lv_at hl 0 rfl) ?_
  refine lv_iload_n hx hb dX8_isExplained_1 rfl (lv_at hl 1 rfl) ?_
  refine lv_iload_n hx hb dX8_isExplained_2 rfl (lv_at hl 2 rfl) ?_
  refine w_cv (w_runV ⟨hx, hb, hml, hown, hts⟩ (c_X8_findAirBy hxo l D q V J R nP nD pp l2 hM hmp hnP hmq hnD hpar) hxo (cwV 2 hts gX8_isExplained_X8_findAirBy rfl rfl rfl (by decide +kernel) ⟨Nat.le_of_ble_eq_true rfl, Nat.le_of_ble_eq_true rfl⟩) hK hW hS hA hXs (w_rcv hK hW hM.1.1 hM.1.2 (by decide) rfl) rfl hl.1 rfl (Nat.le_of_ble_eq_true rfl) dX8_isExplained_3 ⟨Nat.zero_le _, Nat.zero_le _⟩) hW hS hA (fun H locs hW hS => ?_)
  rw [← hV1] at hW
  refine lv_iconst (v := 1) hx hb dX8_isExplained_6 (by decide) ?_
  refine lv_istore_n (lv' := [(3, .int 1), (0, .ref (ad 1000)), (1, .int pp), (2, .int l2)]) hx hb dX8_isExplained_7 rfl hl (by decide) rfl (fun ls hl => ?_)
  refine lv_iconst (v := 0) hx hb dX8_isExplained_8 (by decide) ?_
  refine lv_istore (lv' := [(4, .int 0), (3, .int 1), (0, .ref (ad 1000)), (1, .int pp), (2, .int l2)]) hx hb dX8_isExplained_9 hl (by decide) rfl (fun ls hl => ?_)
  exact JL nD 0 1 (by omega) (Or.inr rfl) hRV.symm _ _ _ hW hS (lv_sub hl [2, 1, 0] rfl)
set_option maxHeartbeats 4000000 in
set_option maxRecDepth 100000 in
theorem c_X8_findAll {X : (Nat → Prop) → State → Prop} (hxo : xok X) (l : Launch) (D : va_G) (q : Cq) {dm : List Nat} {kd ln ad : Nat → Nat} (V : Mv) (J : Mj) (R : Mr) (nP nD : Nat)  (hM : okM dm kd ln R) (hmp : V 1000 1 = nI nP) (hnP : nP ≤ 30) (hmq : V 1000 7 = nI nD) (hnD : nD ≤ 40) (hpar : ∀ i, i < nP → V 1002 i = -1000000 ∨ ∃ j, j < i ∧ V 1002 i = nI j) (hon : ∀ d, d < nD → inx nP (V 1008 d)) : CtV X l yX8_findAll wsX8_findAll ({ frames := 2, cells := 0, slots := 0, locals := 48 }) D q dm kd ln ad V J R [.ref (ad 1000)] (m_all V nP nD) (J) (R) := by
  refine CtV_of (cc := cX8_findAll) (maxL := 3) (ret := none) (by decide +kernel) rfl (Nat.le_of_ble_eq_true rfl) ?_
  intro p e s m below meth c A hx hb hr hml hts hown hlk hmn hK hW hA hXs ls hl
  have hS : va_S A s.heap s.heap [] := va_S.rf
  have hl : lv_has ls 3 [(0, .ref (ad 1000))] := hl
  have hin_TX8 : ∀ w ∈ u_ws RX8 TX8 48, w ∈ wsX8_findAll := by decide +kernel
  obtain ⟨V1, hV1⟩ : ∃ r, r = m_airB (-1000000) 0 nP 0 V := ⟨_, rfl⟩
  obtain ⟨F1, hF1⟩ : ∃ r, r = m_lkL nD 0 V1 := ⟨_, rfl⟩
  obtain ⟨F, hFe⟩ : ∃ r, r = m_allL nP nD nP 0 (u2 (m_lk nD 0 (m_airB (-1000000) 0 nP 0 V)) 1000 26 0) := ⟨_, rfl⟩
  have hon1 : ∀ d, d < nD → inx nP (V1 1008 d) := fun d hd => by rw [hV1, m_airB_ne (by decide)]; exact hon d hd
  have J61 : ∀ n : Nat, ∀ (i f : Nat) (Vw : Mv) (hn : i + n = nP) (hf : Vw 1000 26 = nI f) (hfi : f ≤ i) (hmpW : Vw 1000 1 = nI nP) (hmqW : Vw 1000 7 = nI nD) (hparW : ∀ i, i < nP → Vw 1002 i = -1000000 ∨ ∃ j, j < i ∧ Vw 1002 i = nI j) (honW : ∀ d, d < nD → inx nP (Vw 1008 d)) (hF : m_allL nP nD n i Vw = F) (H : Heap) (locs : List Loc) (ls : Array Slot), wok A D q dm kd ln ad Vw J R H → va_S A s.heap H locs → lv_has ls 3 [(0, .ref (ad 1000)), (1, .int (nI i))] → W p l e ({ frames := 2, cells := 0, slots := 0, locals := 48 }) s m ([.ref (ad 1000)] : List Value).toArray below meth c H locs 0 0 (MQ below (QV D q dm kd ln ad (m_all V nP nD) (J) (R) A) ([.ref (ad 1000)] : List Value).toArray s 0 0 A) (F0 m 61 ls []) := by
    intro n
    induction n with
    | zero =>
      intro i f Vw hn hf hfi hmpW hmqW hparW honW hF H locs ls hW hS hl
      refine lv_iload_n hx hb dX8_findAll_61 rfl (lv_at hl 1 rfl) ?_
      refine lv_aload_n hx hb dX8_findAll_62 rfl (lv_at hl 0 rfl) ?_
      refine w_get (ci := 9) (T := TX8) hx hb hts hin_TX8 hown hK hW hM.1.1 hM.1.2 (by decide) rfl 1 (by decide) (hts (.fieldLink RX8 99 "TownClocksModel" "pipes" "I") (by decide +kernel)) (fun _ h9 => h9) rfl dX8_findAll_63 ?_
      refine lv_icmp_ge (tgt := 134) hx hb dX8_findAll_66 (by decide) (fun c_66 => ?_) (fun c_66 => ?_)
      · exact w_vret hx hb hr hlk hW hS (by rw [m_all, ← hFe, ← hF]; rfl) rfl rfl dX8_findAll_134
      · exact absurd (by rw [hmpW]; exact nI_le (by omega) (by omega)) c_66
    | succ n ih =>
      intro i f Vw hn hf hfi hmpW hmqW hparW honW hF H locs ls hW hS hl
      obtain ⟨LS, hLS⟩ : ∃ r, m_ls (nI i) nP nD 60 1 Vw = r := ⟨_, rfl⟩
      have J92 : ∀ (t : Nat) (V3 : Mv) (ht61 : t ≤ 61) (hag3 : ∀ k, k ≠ 1006 → V3 k = Vw k) (hL3 : (V3, t) = LS) (H : Heap) (locs : List Loc) (ls : Array Slot), wok A D q dm kd ln ad V3 J R H → va_S A s.heap H locs → lv_has ls 3 [(0, .ref (ad 1000)), (1, .int (nI i)), (2, .int (nI t))] → W p l e ({ frames := 2, cells := 0, slots := 0, locals := 48 }) s m ([.ref (ad 1000)] : List Value).toArray below meth c H locs 0 0 (MQ below (QV D q dm kd ln ad (m_all V nP nD) (J) (R) A) ([.ref (ad 1000)] : List Value).toArray s 0 0 A) (F0 m 92 ls []) := by
        intro t V3 ht61 hag3 hL3 H locs ls hW hS hl
        refine lv_iload_n hx hb dX8_findAll_92 rfl (lv_at hl 2 rfl) ?_
        refine lv_bipush (v := 60) hx hb dX8_findAll_93 (by decide) ?_
        refine lv_icmp_gt (tgt := 128) hx hb dX8_findAll_95 (by decide) (fun c_95 => ?_) (fun c_95 => ?_)
        · refine lv_iinc (v := nI (i + 1)) (lv' := [(1, .int (nI (i + 1))), (0, .ref (ad 1000)), (2, .int (nI t))]) hx hb dX8_findAll_128 hl (k := 1) rfl (by rw [show Int32.ofInt 1 = 1 from by decide]; exact nI_1 _) (by decide) rfl (fun ls hl => ?_)
          refine lv_goto (tgt := 61) hx hb dX8_findAll_131 (by decide) ?_
          exact ih (i + 1) f V3 (by omega) (by rw [hag3 1000 (by decide)]; exact hf) (by omega) (by rw [hag3 1000 (by decide)]; exact hmpW) (by rw [hag3 1000 (by decide)]; exact hmqW) (fun i hi => by rw [hag3 1002 (by decide)]; exact hparW i hi) (fun d hd => by rw [hag3 1008 (by decide)]; exact honW d hd) (by have h := hF; simp only [m_allL, hLS, ← hL3, if_pos c_95] at h; exact h) _ _ _ hW hS (lv_sub hl [1, 0] rfl)
        · refine lv_aload_n hx hb dX8_findAll_98 rfl (lv_at hl 0 rfl) ?_
          refine w_getr (ci := 9) (T := TX8) hx hb hts hin_TX8 hown hK hW hM.1.1 hM.1.2 (by decide) rfl 27 (by decide) (hts (.fieldLink RX8 65 "TownClocksModel" "foundPipe" "[I") (by decide +kernel)) (fun _ h9 => h9) rfl (mo_27 hM).2.2.2 dX8_findAll_99 ?_
          refine lv_aload_n hx hb dX8_findAll_102 rfl (lv_at hl 0 rfl) ?_
          refine w_get (ci := 9) (T := TX8) hx hb hts hin_TX8 hown hK hW hM.1.1 hM.1.2 (by decide) rfl 26 (by decide) (hts (.fieldLink RX8 179 "TownClocksModel" "found" "I") (by decide +kernel)) (fun _ h9 => h9) rfl dX8_findAll_103 ?_
          refine lv_iload_n hx hb dX8_findAll_106 rfl (lv_at hl 1 rfl) ?_
          refine w_iast hx hb hK hW hS (mo_27 hM).1 (mo_27 hM).2.1 (by rw [(mo_27 hM).2.2.1, hag3 1000 (by decide), hf]; exact inx_v.mpr (inx_n (by omega) (by omega))) dX8_findAll_107 (fun H locs hW hS => ?_)
          refine lv_aload_n hx hb dX8_findAll_108 rfl (lv_at hl 0 rfl) ?_
          refine w_getr (ci := 9) (T := TX8) hx hb hts hin_TX8 hown hK hW hM.1.1 hM.1.2 (by decide) rfl 28 (by decide) (hts (.fieldLink RX8 68 "TownClocksModel" "foundLeak" "[I") (by decide +kernel)) (fun _ h9 => h9) rfl (mo_28 hM).2.2.2 dX8_findAll_109 ?_
          refine lv_aload_n hx hb dX8_findAll_112 rfl (lv_at hl 0 rfl) ?_
          refine w_get (ci := 9) (T := TX8) hx hb hts hin_TX8 hown hK hW hM.1.1 hM.1.2 (by decide) rfl 26 (by decide) (hts (.fieldLink RX8 179 "TownClocksModel" "found" "I") (by decide +kernel)) (fun _ h9 => h9) rfl dX8_findAll_113 ?_
          refine w_i (by rw [u2_ne (by decide)]) ?_
          refine lv_iload_n hx hb dX8_findAll_116 rfl (lv_at hl 2 rfl) ?_
          refine w_iast hx hb hK hW hS (mo_28 hM).1 (mo_28 hM).2.1 (by rw [(mo_28 hM).2.2.1, hag3 1000 (by decide), hf]; exact inx_v.mpr (inx_n (by omega) (by omega))) dX8_findAll_117 (fun H locs hW hS => ?_)
          refine lv_aload_n hx hb dX8_findAll_118 rfl (lv_at hl 0 rfl) ?_
          refine lv_dup hx hb dX8_findAll_119 rfl ?_
          refine w_get (ci := 9) (T := TX8) hx hb hts hin_TX8 hown hK hW hM.1.1 hM.1.2 (by decide) rfl 26 (by decide) (hts (.fieldLink RX8 179 "TownClocksModel" "found" "I") (by decide +kernel)) (fun _ h9 => h9) rfl dX8_findAll_120 ?_
          refine w_i (by rw [u2_ne (by decide), u2_ne (by decide)]) ?_
          refine lv_iconst (v := 1) hx hb dX8_findAll_123 (by decide) ?_
          refine lv_iadd hx hb dX8_findAll_124 ?_
          refine w_puti (ci := 9) (T := TX8) (ty := .int) hx hb hts hin_TX8 tyX8 tyX8_ok nmX8 hown hK hW hS hM.1.1 hM.1.2 (by decide) rfl 26 (by decide) (hts (.fieldLink RX8 179 "TownClocksModel" "found" "I") (by decide +kernel)) (fun _ h9 => h9) rfl (tyX8_ok 26 (by decide)) rfl rfl (Nat.le_of_ble_eq_true rfl) rfl dX8_findAll_125 (fun H locs hW hS => ?_)
          refine lv_iinc (v := nI (i + 1)) (lv' := [(1, .int (nI (i + 1))), (0, .ref (ad 1000)), (2, .int (nI t))]) hx hb dX8_findAll_128 hl (k := 1) rfl (by rw [show Int32.ofInt 1 = 1 from by decide]; exact nI_1 _) (by decide) rfl (fun ls hl => ?_)
          refine lv_goto (tgt := 61) hx hb dX8_findAll_131 (by decide) ?_
          exact ih (i + 1) (f + 1) _ (by omega) (by rw [u2_ss, hag3 1000 (by decide), hf, nI_1]) (by omega) (by rw [u2_sn (by decide), u2_ne (by decide), u2_ne (by decide), hag3 1000 (by decide)]; exact hmpW) (by rw [u2_sn (by decide), u2_ne (by decide), u2_ne (by decide), hag3 1000 (by decide)]; exact hmqW) (fun i hi => by rw [u2_ne (by decide), u2_ne (by decide), u2_ne (by decide), hag3 1002 (by decide)]; exact hparW i hi) (fun d hd => by rw [u2_ne (by decide), u2_ne (by decide), u2_ne (by decide), hag3 1008 (by decide)]; exact honW d hd) (by have h := hF; simp only [m_allL, m_aadd, hLS, ← hL3, if_neg c_95] at h; exact h) _ _ _ hW hS (lv_sub hl [1, 0] rfl)
      have J71 : ∀ n2 : Nat, ∀ (t : Nat) (V3 : Mv) (hn2 : t + n2 = 61) (hag3 : ∀ k, k ≠ 1006 → V3 k = Vw k) (hL : m_ls (nI i) nP nD n2 t V3 = LS) (H : Heap) (locs : List Loc) (ls : Array Slot), wok A D q dm kd ln ad V3 J R H → va_S A s.heap H locs → lv_has ls 3 [(0, .ref (ad 1000)), (1, .int (nI i)), (2, .int (nI t))] → W p l e ({ frames := 2, cells := 0, slots := 0, locals := 48 }) s m ([.ref (ad 1000)] : List Value).toArray below meth c H locs 0 0 (MQ below (QV D q dm kd ln ad (m_all V nP nD) (J) (R) A) ([.ref (ad 1000)] : List Value).toArray s 0 0 A) (F0 m 71 ls []) := by
        intro n2
        induction n2 with
        | zero =>
          intro t V3 hn2 hag3 hL H locs ls hW hS hl
          refine lv_iload_n hx hb dX8_findAll_71 rfl (lv_at hl 2 rfl) ?_
          refine lv_bipush (v := 60) hx hb dX8_findAll_72 (by decide) ?_
          refine lv_icmp_gt (tgt := 92) hx hb dX8_findAll_74 (by decide) (fun c_74 => ?_) (fun c_74 => ?_)
          · exact J92 t V3 (by omega) hag3 hL _ _ _ hW hS (lv_sub hl [0, 1, 2] rfl)
          · exact absurd (nI_lt (a := 60) (b := t) (by omega) (by omega)) c_74
        | succ n2 ih2 =>
          intro t V3 hn2 hag3 hL H locs ls hW hS hl
          refine lv_iload_n hx hb dX8_findAll_71 rfl (lv_at hl 2 rfl) ?_
          refine lv_bipush (v := 60) hx hb dX8_findAll_72 (by decide) ?_
          refine lv_icmp_gt (tgt := 92) hx hb dX8_findAll_74 (by decide) (fun c_74 => ?_) (fun c_74 => ?_)
          · exact absurd c_74 (nI_nlt (a := 60) (b := t) (by omega) (by decide))
          · refine lv_aload_n hx hb dX8_findAll_77 rfl (lv_at hl 0 rfl) ?_
            refine lv_iload_n hx hb dX8_findAll_78 rfl (lv_at hl 1 rfl) ?_
            refine lv_iload_n hx hb dX8_findAll_79 rfl (lv_at hl 2 rfl) ?_
            refine w_ci (w_runV ⟨hx, hb, hml, hown, hts⟩ (c_X8_isExplained hxo l D q V3 J R nP nD (nI i) (nI t) hM (by rw [hag3 1000 (by decide)]; exact hmpW) hnP (by rw [hag3 1000 (by decide)]; exact hmqW) hnD (fun i hi => by rw [hag3 1002 (by decide)]; exact hparW i hi) (fun d hd => by rw [hag3 1008 (by decide)]; exact honW d hd)) hxo (cwV 2 hts gX8_findAll_X8_isExplained rfl rfl rfl (by decide +kernel) ⟨Nat.le_of_ble_eq_true rfl, Nat.le_of_ble_eq_true rfl⟩) hK hW hS hA hXs (w_rcv hK hW hM.1.1 hM.1.2 (by decide) rfl) rfl hl.1 rfl (Nat.le_of_ble_eq_true rfl) dX8_findAll_80 ⟨Nat.zero_le _, Nat.zero_le _⟩) hW hS hA (fun H locs hW hS => ?_)
            refine lv_if_ne (tgt := 92) hx hb dX8_findAll_83 (by decide) (fun c_83 => ?_) (fun c_83 => ?_)
            · exact J92 t (m_airB (nI i) (nI t) nP 0 V3) (by omega) (fun k hk => by rw [m_airB_ne hk]; exact hag3 k hk) (by rw [← hL]; simp only [m_ls, if_neg c_83]) _ _ _ hW hS (lv_sub hl [0, 1, 2] rfl)
            · refine lv_iinc (v := nI (t + 1)) (lv' := [(2, .int (nI (t + 1))), (0, .ref (ad 1000)), (1, .int (nI i))]) hx hb dX8_findAll_86 hl (k := 2) rfl (by rw [show Int32.ofInt 1 = 1 from by decide]; exact nI_1 _) (by decide) rfl (fun ls hl => ?_)
              refine lv_goto (tgt := 71) hx hb dX8_findAll_89 (by decide) ?_
              exact ih2 (t + 1) (m_airB (nI i) (nI t) nP 0 V3) (by omega) (fun k hk => by rw [m_airB_ne hk]; exact hag3 k hk) (by have h := hL; simp only [m_ls, if_pos c_83] at h; exact h) _ _ _ hW hS (lv_sub hl [1, 2, 0] rfl)
      refine lv_iload_n hx hb dX8_findAll_61 rfl (lv_at hl 1 rfl) ?_
      refine lv_aload_n hx hb dX8_findAll_62 rfl (lv_at hl 0 rfl) ?_
      refine w_get (ci := 9) (T := TX8) hx hb hts hin_TX8 hown hK hW hM.1.1 hM.1.2 (by decide) rfl 1 (by decide) (hts (.fieldLink RX8 99 "TownClocksModel" "pipes" "I") (by decide +kernel)) (fun _ h9 => h9) rfl dX8_findAll_63 ?_
      refine lv_icmp_ge (tgt := 134) hx hb dX8_findAll_66 (by decide) (fun c_66 => ?_) (fun c_66 => ?_)
      · exact absurd c_66 (by rw [hmpW]; exact nI_ge (by omega) (by omega))
      · refine lv_iconst (v := 1) hx hb dX8_findAll_69 (by decide) ?_
        refine lv_istore_n (lv' := [(2, .int 1), (0, .ref (ad 1000)), (1, .int (nI i))]) hx hb dX8_findAll_70 rfl hl (by decide) rfl (fun ls hl => ?_)
        exact J71 60 1 Vw (by omega) (fun _ _ => rfl) hLS _ _ _ hW hS (lv_sub hl [1, 2, 0] rfl)
  have J9 : ∀ n : Nat, ∀ (i : Nat) (Vw : Mv) (hn : i + n = nD) (hag : ∀ k, k ≠ 1029 → Vw k = V1 k) (hF : m_lkL n i Vw = F1) (H : Heap) (locs : List Loc) (ls : Array Slot), wok A D q dm kd ln ad Vw J R H → va_S A s.heap H locs → lv_has ls 3 [(0, .ref (ad 1000)), (1, .int (nI i))] → W p l e ({ frames := 2, cells := 0, slots := 0, locals := 48 }) s m ([.ref (ad 1000)] : List Value).toArray below meth c H locs 0 0 (MQ below (QV D q dm kd ln ad (m_all V nP nD) (J) (R) A) ([.ref (ad 1000)] : List Value).toArray s 0 0 A) (F0 m 9 ls []) := by
    intro n
    induction n with
    | zero =>
      intro i Vw hn hag hF H locs ls hW hS hl
      refine lv_iload_n hx hb dX8_findAll_9 rfl (lv_at hl 1 rfl) ?_
      refine lv_aload_n hx hb dX8_findAll_10 rfl (lv_at hl 0 rfl) ?_
      refine w_get (ci := 9) (T := TX8) hx hb hts hin_TX8 hown hK hW hM.1.1 hM.1.2 (by decide) rfl 7 (by decide) (hts (.fieldLink RX8 128 "TownClocksModel" "dials" "I") (by decide +kernel)) (fun _ h9 => h9) rfl dX8_findAll_11 ?_
      refine lv_icmp_ge (tgt := 54) hx hb dX8_findAll_14 (by decide) (fun c_14 => ?_) (fun c_14 => ?_)
      · refine lv_aload_n hx hb dX8_findAll_54 rfl (lv_at hl 0 rfl) ?_
        refine lv_iconst (v := 0) hx hb dX8_findAll_55 (by decide) ?_
        refine w_puti (ci := 9) (T := TX8) (ty := .int) hx hb hts hin_TX8 tyX8 tyX8_ok nmX8 hown hK hW hS hM.1.1 hM.1.2 (by decide) rfl 26 (by decide) (hts (.fieldLink RX8 179 "TownClocksModel" "found" "I") (by decide +kernel)) (fun _ h9 => h9) rfl (tyX8_ok 26 (by decide)) rfl rfl (Nat.le_of_ble_eq_true rfl) rfl dX8_findAll_56 (fun H locs hW hS => ?_)
        rw [show Vw = m_lk nD 0 (m_airB (-1000000) 0 nP 0 V) from by rw [m_lk, ← hV1, ← hF1, ← hF]; rfl] at hW
        refine lv_iconst (v := 0) hx hb dX8_findAll_59 (by decide) ?_
        refine lv_istore_n (lv' := [(1, .int 0), (0, .ref (ad 1000))]) hx hb dX8_findAll_60 rfl hl (by decide) rfl (fun ls hl => ?_)
        exact J61 nP 0 0 (u2 (m_lk nD 0 (m_airB (-1000000) 0 nP 0 V)) 1000 26 0) (by omega) (by rw [u2_ss]; rfl) (by omega) (by rw [u2_sn (by decide), m_lk_ne (by decide), m_airB_ne (by decide)]; exact hmp) (by rw [u2_sn (by decide), m_lk_ne (by decide), m_airB_ne (by decide)]; exact hmq) (fun i hi => by rw [u2_ne (by decide), m_lk_ne (by decide), m_airB_ne (by decide)]; exact hpar i hi) (fun d hd => by rw [u2_ne (by decide), m_lk_ne (by decide), m_airB_ne (by decide)]; exact hon d hd) (hFe.symm) _ _ _ hW hS (lv_sub hl [1, 0] rfl)
      · exact absurd (by rw [hag 1000 (by decide), hV1, m_airB_ne (by decide), hmq]; exact nI_le (by omega) (by omega)) c_14
    | succ n ih =>
      intro i Vw hn hag hF H locs ls hW hS hl
      have hid : i < nD := by omega
      have honX : ∀ d, d < nD → inx nP (Vw 1008 d) := fun d hd => by rw [hag 1008 (by decide)]; exact hon1 d hd
      refine lv_iload_n hx hb dX8_findAll_9 rfl (lv_at hl 1 rfl) ?_
      refine lv_aload_n hx hb dX8_findAll_10 rfl (lv_at hl 0 rfl) ?_
      refine w_get (ci := 9) (T := TX8) hx hb hts hin_TX8 hown hK hW hM.1.1 hM.1.2 (by decide) rfl 7 (by decide) (hts (.fieldLink RX8 128 "TownClocksModel" "dials" "I") (by decide +kernel)) (fun _ h9 => h9) rfl dX8_findAll_11 ?_
      refine lv_icmp_ge (tgt := 54) hx hb dX8_findAll_14 (by decide) (fun c_14 => ?_) (fun c_14 => ?_)
      · exact absurd c_14 (by rw [hag 1000 (by decide), hV1, m_airB_ne (by decide), hmq]; exact nI_ge (by omega) (by omega))
      · refine lv_aload_n hx hb dX8_findAll_17 rfl (lv_at hl 0 rfl) ?_
        refine w_getr (ci := 9) (T := TX8) hx hb hts hin_TX8 hown hK hW hM.1.1 hM.1.2 (by decide) rfl 29 (by decide) (hts (.fieldLink RX8 71 "TownClocksModel" "isLooked" "[Z") (by decide +kernel)) (fun _ h9 => h9) rfl (mo_29 hM).2.2.2 dX8_findAll_18 ?_
        refine lv_iload_n hx hb dX8_findAll_21 rfl (lv_at hl 1 rfl) ?_
        refine lv_aload_n hx hb dX8_findAll_22 rfl (lv_at hl 0 rfl) ?_
        refine w_getr (ci := 9) (T := TX8) hx hb hts hin_TX8 hown hK hW hM.1.1 hM.1.2 (by decide) rfl 6 (by decide) (hts (.fieldLink RX8 22 "TownClocksModel" "air" "[I") (by decide +kernel)) (fun _ h9 => h9) rfl (mo_6 hM).2.2.2 dX8_findAll_23 ?_
        refine lv_aload_n hx hb dX8_findAll_26 rfl (lv_at hl 0 rfl) ?_
        refine w_getr (ci := 9) (T := TX8) hx hb hts hin_TX8 hown hK hW hM.1.1 hM.1.2 (by decide) rfl 8 (by decide) (hts (.fieldLink RX8 25 "TownClocksModel" "on" "[I") (by decide +kernel)) (fun _ h9 => h9) rfl (mo_8 hM).2.2.2 dX8_findAll_27 ?_
        refine lv_iload_n hx hb dX8_findAll_30 rfl (lv_at hl 1 rfl) ?_
        refine w_ialdN (t := i) hx hb hK hW (mo_8 hM).1 (mo_8 hM).2.1 ⟨by rw [(mo_8 hM).2.2.1]; omega, by omega⟩ dX8_findAll_31 ?_
        refine w_iald hx hb hK hW (mo_6 hM).1 (mo_6 hM).2.1 (by rw [(mo_6 hM).2.2.1]; exact inx_v.mpr ⟨(honX i hid).1, by have h9 := (honX i hid).2; show _ < ((30 : Nat) : Int); omega⟩) dX8_findAll_32 ?_
        refine lv_aload_n hx hb dX8_findAll_33 rfl (lv_at hl 0 rfl) ?_
        refine w_getr (ci := 9) (T := TX8) hx hb hts hin_TX8 hown hK hW hM.1.1 hM.1.2 (by decide) rfl 9 (by decide) (hts (.fieldLink RX8 28 "TownClocksModel" "need" "[I") (by decide +kernel)) (fun _ h9 => h9) rfl (mo_9 hM).2.2.2 dX8_findAll_34 ?_
        refine lv_iload_n hx hb dX8_findAll_37 rfl (lv_at hl 1 rfl) ?_
        refine w_ialdN (t := i) hx hb hK hW (mo_9 hM).1 (mo_9 hM).2.1 ⟨by rw [(mo_9 hM).2.2.1]; omega, by omega⟩ dX8_findAll_38 ?_
        refine lv_icmp_lt (tgt := 46) hx hb dX8_findAll_39 (by decide) (fun c_39 => ?_) (fun c_39 => ?_)
        · refine lv_iconst (v := 0) hx hb dX8_findAll_46 (by decide) ?_
          refine w_zastN (t := i) hx hb hK hW hS (mo_29 hM).1 (mo_29 hM).2.1 ⟨by rw [(mo_29 hM).2.2.1]; omega, by omega⟩ dX8_findAll_47 (fun H locs hW hS => ?_)
          rw [show vp_nar .boolean 0 = 0 from by decide] at hW
          refine lv_iinc (v := nI (i + 1)) (lv' := [(1, .int (nI (i + 1))), (0, .ref (ad 1000))]) hx hb dX8_findAll_48 hl (k := 1) rfl (by rw [show Int32.ofInt 1 = 1 from by decide]; exact nI_1 _) (by decide) rfl (fun ls hl => ?_)
          refine lv_goto (tgt := 9) hx hb dX8_findAll_51 (by decide) ?_
          exact ih (i + 1) _ (by omega) (fun k hk => by rw [u2_ne hk]; exact hag k hk) (by have h := hF; simp only [m_lkL, if_neg c_14, if_pos c_39] at h; exact h) _ _ _ hW hS (lv_sub hl [1, 0] rfl)
        · refine lv_iconst (v := 1) hx hb dX8_findAll_42 (by decide) ?_
          refine lv_goto (tgt := 47) hx hb dX8_findAll_43 (by decide) ?_
          refine w_zastN (t := i) hx hb hK hW hS (mo_29 hM).1 (mo_29 hM).2.1 ⟨by rw [(mo_29 hM).2.2.1]; omega, by omega⟩ dX8_findAll_47 (fun H locs hW hS => ?_)
          rw [show vp_nar .boolean 1 = 1 from by decide] at hW
          refine lv_iinc (v := nI (i + 1)) (lv' := [(1, .int (nI (i + 1))), (0, .ref (ad 1000))]) hx hb dX8_findAll_48 hl (k := 1) rfl (by rw [show Int32.ofInt 1 = 1 from by decide]; exact nI_1 _) (by decide) rfl (fun ls hl => ?_)
          refine lv_goto (tgt := 9) hx hb dX8_findAll_51 (by decide) ?_
          exact ih (i + 1) _ (by omega) (fun k hk => by rw [u2_ne hk]; exact hag k hk) (by have h := hF; simp only [m_lkL, if_neg c_14, if_neg c_39] at h; exact h) _ _ _ hW hS (lv_sub hl [1, 0] rfl)
  refine lv_aload_n hx hb dX8_findAll_0 rfl (lv_at hl 0 rfl) ?_
  refine lv_ldc (v := -1000000) hx hb hown (hts (.constant RX8 106 (-1000000)) (by decide +kernel)) dX8_findAll_1 ?_
  refine lv_iconst (v := 0) hx hb dX8_findAll_3 (by decide) ?_
  refine w_cv (w_runV ⟨hx, hb, hml, hown, hts⟩ (c_X8_findAirBy hxo l D q V J R nP nD (-1000000) 0 hM hmp hnP hmq hnD hpar) hxo (cwV 2 hts gX8_findAll_X8_findAirBy rfl rfl rfl (by decide +kernel) ⟨Nat.le_of_ble_eq_true rfl, Nat.le_of_ble_eq_true rfl⟩) hK hW hS hA hXs (w_rcv hK hW hM.1.1 hM.1.2 (by decide) rfl) rfl hl.1 rfl (Nat.le_of_ble_eq_true rfl) dX8_findAll_4 ⟨Nat.zero_le _, Nat.zero_le _⟩) hW hS hA (fun H locs hW hS => ?_)
  rw [← hV1] at hW
  refine lv_iconst (v := 0) hx hb dX8_findAll_7 (by decide) ?_
  refine lv_istore_n (lv' := [(1, .int 0), (0, .ref (ad 1000))]) hx hb dX8_findAll_8 rfl hl (by decide) rfl (fun ls hl => ?_)
  exact J9 nD 0 V1 (by omega) (fun _ _ => rfl) hF1.symm _ _ _ hW hS (lv_sub hl [1, 0] rfl)
set_option maxHeartbeats 4000000 in
set_option maxRecDepth 100000 in
theorem c_X8_explains {X : (Nat → Prop) → State → Prop} (hxo : xok X) (l : Launch) (D : va_G) (q : Cq) {dm : List Nat} {kd ln ad : Nat → Nat} (V : Mv) (J : Mj) (R : Mr) (nP nD : Nat) (x v : Int32) (hM : okM dm kd ln R) (hmp : V 1000 1 = nI nP) (hnP : nP ≤ 30) (hmq : V 1000 7 = nI nD) (hnD : nD ≤ 40) (hpar : ∀ i, i < nP → V 1002 i = -1000000 ∨ ∃ j, j < i ∧ V 1002 i = nI j) (hon : ∀ d, d < nD → inx nP (V 1008 d)) : CtI X l yX8_explains wsX8_explains ({ frames := 3, cells := 0, slots := 0, locals := 70 }) D q dm kd ln ad V J R [.ref (ad 1000), .int x, .int v] (m_expl V nP nD x v) (m_explV V nP nD v) (J) (R) := by
  refine CtI_of (cc := cX8_explains) (maxL := 3) (ret := (some .int)) (by decide +kernel) rfl (Nat.le_of_ble_eq_true rfl) ?_
  intro p e s m below meth c A hx hb hr hml hts hown hlk hmn hK hW hA hXs ls hl
  have hS : va_S A s.heap s.heap [] := va_S.rf
  have hl : lv_has ls 3 [(0, .ref (ad 1000)), (1, .int x), (2, .int v)] := hl
  have hin_TX8 : ∀ w ∈ u_ws RX8 TX8 48, w ∈ wsX8_explains := by decide +kernel
  obtain ⟨f, hf1, hf2⟩ := m_all_f (u2 V 1000 0 0) nP nD
  have hf30 : f ≤ 30 := by omega
  refine lv_aload_n hx hb dX8_explains_0 rfl (lv_at hl 0 rfl) ?_
  refine lv_iconst (v := 0) hx hb dX8_explains_1 (by decide) ?_
  refine w_puti (ci := 9) (T := TX8) (ty := .int) hx hb hts hin_TX8 tyX8 tyX8_ok nmX8 hown hK hW hS hM.1.1 hM.1.2 (by decide) rfl 0 (by decide) (hts (.fieldLink RX8 95 "TownClocksModel" "thrown" "I") (by decide +kernel)) (fun _ h9 => h9) rfl (tyX8_ok 0 (by decide)) rfl rfl (Nat.le_of_ble_eq_true rfl) rfl dX8_explains_2 (fun H locs hW hS => ?_)
  refine lv_iload_n hx hb dX8_explains_5 rfl (lv_at hl 2 rfl) ?_
  refine lv_i2l hx hb dX8_explains_6 rfl ?_
  refine lv_lconst (v := 0) hx hb dX8_explains_7 (by decide) ?_
  refine lv_lconst (v := 1) hx hb dX8_explains_8 (by decide) ?_
  refine w_ci (w_runS ⟨hx, hb, hml, hown, hts⟩ (c_X8_in hxo l D q (u2 V 1000 0 0) J R v.toInt64 0 1 ) hxo (va_cwS 3 hts gX8_explains_X8_in rfl rfl rfl (by decide +kernel) ⟨Nat.le_of_ble_eq_true rfl, Nat.le_of_ble_eq_true rfl⟩) hK hW hS hA hXs rfl hl.1 rfl (Nat.le_of_ble_eq_true rfl) dX8_explains_9 ⟨Nat.zero_le _, Nat.zero_le _⟩) hW hS hA (fun H locs hW hS => ?_)
  refine w_i (bz_iff (wid_l (c := 0) (d := 1) (by decide) (by decide))) ?_
  refine w_ifnz (tgt := 18) hx hb dX8_explains_12 (by decide) (fun c_12 => ?_) (fun c_12 => ?_)
  · refine lv_aload_n hx hb dX8_explains_18 rfl (lv_at hl 0 rfl) ?_
    refine w_cv (w_runV ⟨hx, hb, hml, hown, hts⟩ (c_X8_findAll hxo l D q (u2 V 1000 0 0) J R nP nD hM (by rw [u2_sn (by decide)]; exact hmp) hnP (by rw [u2_sn (by decide)]; exact hmq) hnD hpar hon) hxo (cwV 0 hts gX8_explains_X8_findAll rfl rfl rfl (by decide +kernel) ⟨Nat.le_of_ble_eq_true rfl, Nat.le_of_ble_eq_true rfl⟩) hK hW hS hA hXs (w_rcv hK hW hM.1.1 hM.1.2 (by decide) rfl) rfl hl.1 rfl (Nat.le_of_ble_eq_true rfl) dX8_explains_19 ⟨Nat.zero_le _, Nat.zero_le _⟩) hW hS hA (fun H locs hW hS => ?_)
    refine lv_iload_n hx hb dX8_explains_22 rfl (lv_at hl 1 rfl) ?_
    refine lv_i2l hx hb dX8_explains_23 rfl ?_
    refine lv_lconst (v := 0) hx hb dX8_explains_24 (by decide) ?_
    refine lv_aload_n hx hb dX8_explains_25 rfl (lv_at hl 0 rfl) ?_
    refine w_get (ci := 9) (T := TX8) hx hb hts hin_TX8 hown hK hW hM.1.1 hM.1.2 (by decide) rfl 26 (by decide) (hts (.fieldLink RX8 179 "TownClocksModel" "found" "I") (by decide +kernel)) (fun _ h9 => h9) rfl dX8_explains_26 ?_
    refine lv_iconst (v := 1) hx hb dX8_explains_29 (by decide) ?_
    refine lv_isub hx hb dX8_explains_30 ?_
    refine lv_i2l hx hb dX8_explains_31 rfl ?_
    refine w_ci (w_runS ⟨hx, hb, hml, hown, hts⟩ (c_X8_in hxo l D q (m_all (u2 V 1000 0 0) nP nD) J R x.toInt64 0 ((((m_all (u2 V 1000 0 0) nP nD) 1000 26) - 1).toInt64) ) hxo (va_cwS 3 hts gX8_explains_X8_in rfl rfl rfl (by decide +kernel) ⟨Nat.le_of_ble_eq_true rfl, Nat.le_of_ble_eq_true rfl⟩) hK hW hS hA hXs rfl hl.1 rfl (Nat.le_of_ble_eq_true rfl) dX8_explains_32 ⟨Nat.zero_le _, Nat.zero_le _⟩) hW hS hA (fun H locs hW hS => ?_)
    refine w_i (bz_iff (wid_l (c := 0) (d := ((m_all (u2 V 1000 0 0) nP nD) 1000 26) - 1) (by decide) rfl)) ?_
    refine w_ifnz (tgt := 43) hx hb dX8_explains_35 (by decide) (fun c_35 => ?_) (fun c_35 => ?_)
    · refine lv_iload_n hx hb dX8_explains_43 rfl (lv_at hl 2 rfl) ?_
      refine lv_if_ne (tgt := 56) hx hb dX8_explains_44 (by decide) (fun c_44 => ?_) (fun c_44 => ?_)
      · refine lv_aload_n hx hb dX8_explains_56 rfl (lv_at hl 0 rfl) ?_
        refine w_getr (ci := 9) (T := TX8) hx hb hts hin_TX8 hown hK hW hM.1.1 hM.1.2 (by decide) rfl 28 (by decide) (hts (.fieldLink RX8 68 "TownClocksModel" "foundLeak" "[I") (by decide +kernel)) (fun _ h9 => h9) rfl (mo_28 hM).2.2.2 dX8_explains_57 ?_
        refine lv_iload_n hx hb dX8_explains_60 rfl (lv_at hl 1 rfl) ?_
        refine w_iald hx hb hK hW (mo_28 hM).1 (mo_28 hM).2.1 (by rw [(mo_28 hM).2.2.1]; have h := (inx_w (n := f) (x := x) (by omega)).mp (by rw [← hf2]; exact c_35); exact inx_v.mpr ⟨h.1, by have := h.2; show _ < ((30 : Nat) : Int); omega⟩) dX8_explains_61 ?_
        exact w_iret hx hb hr hlk hW hS (by first | rfl | (simp only [m_expl, m_explV, if_pos c_12, if_pos c_35, if_neg c_44, c_12, c_35, c_44, ↓reduceIte]; done) | simp [bz, m_expl, m_explV, if_pos c_12, if_pos c_35, if_neg c_44, c_12, c_35, c_44]) (by first | rfl | (simp only [m_expl, m_explV, if_pos c_12, if_pos c_35, if_neg c_44, c_12, c_35, c_44, ↓reduceIte]; done) | simp [bz, m_expl, m_explV, if_pos c_12, if_pos c_35, if_neg c_44, c_12, c_35, c_44]) rfl rfl dX8_explains_62
      · refine lv_aload_n hx hb dX8_explains_47 rfl (lv_at hl 0 rfl) ?_
        refine w_getr (ci := 9) (T := TX8) hx hb hts hin_TX8 hown hK hW hM.1.1 hM.1.2 (by decide) rfl 27 (by decide) (hts (.fieldLink RX8 65 "TownClocksModel" "foundPipe" "[I") (by decide +kernel)) (fun _ h9 => h9) rfl (mo_27 hM).2.2.2 dX8_explains_48 ?_
        refine lv_iload_n hx hb dX8_explains_51 rfl (lv_at hl 1 rfl) ?_
        refine w_iald hx hb hK hW (mo_27 hM).1 (mo_27 hM).2.1 (by rw [(mo_27 hM).2.2.1]; have h := (inx_w (n := f) (x := x) (by omega)).mp (by rw [← hf2]; exact c_35); exact inx_v.mpr ⟨h.1, by have := h.2; show _ < ((30 : Nat) : Int); omega⟩) dX8_explains_52 ?_
        refine lv_goto (tgt := 62) hx hb dX8_explains_53 (by decide) ?_
        exact w_iret hx hb hr hlk hW hS (by first | rfl | (simp only [m_expl, m_explV, if_pos c_12, if_pos c_35, if_pos c_44, c_12, c_35, c_44, ↓reduceIte]; done) | simp [bz, m_expl, m_explV, if_pos c_12, if_pos c_35, if_pos c_44, c_12, c_35, c_44]) (by first | rfl | (simp only [m_expl, m_explV, if_pos c_12, if_pos c_35, if_pos c_44, c_12, c_35, c_44, ↓reduceIte]; done) | simp [bz, m_expl, m_explV, if_pos c_12, if_pos c_35, if_pos c_44, c_12, c_35, c_44]) rfl rfl dX8_explains_62
    · refine lv_ldc (v := -1000000) hx hb hown (hts (.constant RX8 106 (-1000000)) (by decide +kernel)) dX8_explains_38 ?_
      refine lv_goto (tgt := 62) hx hb dX8_explains_40 (by decide) ?_
      exact w_iret hx hb hr hlk hW hS (by first | rfl | (simp only [m_expl, m_explV, if_pos c_12, if_neg c_35, c_12, c_35, ↓reduceIte]; done) | simp [bz, m_expl, m_explV, if_pos c_12, if_neg c_35, c_12, c_35]) (by first | rfl | (simp only [m_expl, m_explV, if_pos c_12, if_neg c_35, c_12, c_35, ↓reduceIte]; done) | simp [bz, m_expl, m_explV, if_pos c_12, if_neg c_35, c_12, c_35]) rfl rfl dX8_explains_62
  · refine lv_ldc (v := -1000001) hx hb hown (hts (.constant RX8 115 (-1000001)) (by decide +kernel)) dX8_explains_15 ?_
    exact w_iret hx hb hr hlk hW hS (by first | rfl | (simp only [m_expl, m_explV, if_neg c_12, c_12, ↓reduceIte]; done) | simp [bz, m_expl, m_explV, if_neg c_12, c_12]) (by first | rfl | (simp only [m_expl, m_explV, if_neg c_12, c_12, ↓reduceIte]; done) | simp [bz, m_expl, m_explV, if_neg c_12, c_12]) rfl rfl dX8_explains_17
