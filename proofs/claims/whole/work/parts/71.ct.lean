/-! contracts: the end -/
theorem rl_ct {c nP nD : Nat} {U U' W W' : Mv} {K I : Mj} {R : Mr} (hU : ∀ k j, k ≠ 8 → k ≠ 9 → k ≠ 10 → k ≠ 11 → k ≠ 12 → k ≠ 13 → U' k j = U k j) (hW : ∀ k j, ¬ (k = 1000 ∧ (j = 0 ∨ (32 ≤ j ∧ j ≤ 41))) → ¬ (1042 ≤ k ∧ k ≤ 1045) → k ≠ 1031 → W' k j = W k j) (hf : U' 10 5 = W' 1000 33) (hT : rT U' W') (h : rl c nP nD U W K I R) : rl c nP nD U' W' K I R := by
  obtain ⟨⟨h1, h2, h3, h4, h5, h6⟩, hP, hD, hZ, hG, hm, -, -, hB⟩ := h
  have u : ∀ k j, (k < 8 ∨ 13 < k) → U' k j = U k j := fun k j hk => hU k j (by omega) (by omega) (by omega) (by omega) (by omega) (by omega)
  have w : ∀ k j, 1001 ≤ k → k < 1031 → W' k j = W k j := fun k j h1 h2 => hW k j (by omega) (by omega) (by omega)
  have w0 : ∀ j, 1 ≤ j → j < 32 → W' 1000 j = W 1000 j := fun j h1 h2 => hW 1000 j (by omega) (by omega) (by omega)
  refine ⟨⟨h1, h2, by rw [u 1 2 (by omega)]; exact h3, by rw [u 2 2 (by omega)]; exact h4, by rw [w0 1 (by omega) (by omega)]; exact h5, by rw [w0 7 (by omega) (by omega)]; exact h6⟩, ?_, ?_, ?_, ?_, ?_, hf, hT, ?_⟩
  · intro i hi
    exact rpP_ag (by omega) (fun q hq j => u _ _ (by omega)) (w _ _ (by omega) (by omega)) (w _ _ (by omega) (by omega)) (w _ _ (by omega) (by omega)) (w _ _ (by omega) (by omega)) (hP i hi)
  · intro d hd
    exact dlP_ag (fun j => u _ _ (by omega)) (fun k h7 h8 => w _ _ (by omega) (by omega)) (hD d hd)
  · intro d h7 h8 k h9 h10
    rw [w _ _ (by omega) (by omega)]
    exact hZ d h7 h8 k h9 h10
  · exact rG_ag (fun j => u _ _ (by omega)) (fun j h7 h8 => w0 _ (by omega) (by omega)) hG
  · rw [u 0 7 (by omega), mis_ag (W := W) (W' := W') (fun j => w _ _ (by omega) (by omega))]
    exact hm
  · exact rB_ag (u _ _ (by omega)) (fun j => u _ _ (by omega)) (hW 1000 47 (by omega) (by omega) (by omega)) (fun j => hW _ _ (by omega) (by omega) (by omega)) hB
theorem rl_dials {c nP nD : Nat} {U U' W W' : Mv} {K I : Mj} {R : Mr} (hU : ∀ k, (k < 200 ∨ 240 ≤ k) → U' k = U k) (hW : ∀ k j, (k < 1017 ∨ 1020 < k ∨ nD ≤ j) → W' k j = W k j) (hd : ∀ d, d < nD → dlP c nP (R (200 + d) 0) (U' (200 + d)) (fun k => W' k d)) (h : rl c nP nD U W K I R) : rl c nP nD U' W' K I R := by
  obtain ⟨⟨h1, h2, h3, h4, h5, h6⟩, hP, hD, hZ, hG, hm, hf, hT, hB⟩ := h
  refine ⟨⟨h1, h2, by rw [hU 1 (by omega)]; exact h3, by rw [hU 2 (by omega)]; exact h4, by rw [hW 1000 1 (by omega)]; exact h5, by rw [hW 1000 7 (by omega)]; exact h6⟩, ?_, hd, ?_, ?_, ?_, ?_, ?_, ?_⟩
  · intro i hi
    exact rpP_ag (by omega) (fun q hq j => by rw [hU _ (by omega)]) (hW _ _ (by omega)) (hW _ _ (by omega)) (hW _ _ (by omega)) (hW _ _ (by omega)) (hP i hi)
  · intro d h7 h8 k h9 h10
    rw [hW _ _ (by omega)]
    exact hZ d h7 h8 k h9 h10
  · exact rG_ag (fun j => by rw [hU _ (by omega)]) (fun j h7 h8 => hW _ _ (by omega)) hG
  · rw [hU 0 (by omega), mis_ag (W := W) (W' := W') (fun j => hW _ _ (by omega))]
    exact hm
  · rw [hU 10 (by omega), hW 1000 33 (by omega)]
    exact hf
  · exact rT_ag (by rw [hU _ (by omega)]) (fun j => by rw [hU _ (by omega)]) (hW _ _ (by omega)) (fun j => hW _ _ (by omega)) hT
  · exact rB_ag (by rw [hU _ (by omega)]) (fun j => by rw [hU _ (by omega)]) (hW _ _ (by omega)) (fun j => hW _ _ (by omega)) hB
theorem x_pf_ne {k : Nat} : ∀ n i V, (k < 200 + i ∨ 200 + i + n ≤ k) → x_pf n i V k = V k
  | 0, _, _ => fun _ => rfl
  | n + 1, i, V => fun h => by
    rw [x_pf, x_pf_ne n (i + 1) _ (by omega)]
    split
    · rfl
    · rw [x_begin_ne (by omega)]
theorem x_begin_s {V : Mv} {k : Nat} {a b d : Int32} : x_begin V k a b d k = va_up (va_up (va_up (va_up (V k) 8 a) 9 b) 10 d) 11 0 := by
  rw [x_begin, u2_s, u2_s, u2_s, u2_s]
theorem x_pf_at {d : Nat} : ∀ n i V, i ≤ d → d < i + n → x_pf n i V (200 + d) = (if V 11 d = 0 then V else x_begin V (200 + d) (V 11 d) (V 12 d) (V 13 d)) (200 + d)
  | 0, i, V => fun h1 h2 => absurd h2 (by omega)
  | n + 1, i, V => fun h1 h2 => by
    rw [x_pf]
    by_cases hd : d = i
    · subst hd
      rw [x_pf_ne n (d + 1) _ (by omega)]
    · have e : ∀ k, k ≠ 200 + i → (if V 11 i = 0 then V else x_begin V (200 + i) (V 11 i) (V 12 i) (V 13 i)) k = V k := fun k hk => by
        split
        · rfl
        · rw [x_begin_ne hk]
      rw [x_pf_at n (i + 1) _ (by omega) (by omega), e 11 (by omega), e 12 (by omega), e 13 (by omega)]
      split
      · rw [e _ (by omega)]
      · rw [x_begin_s, x_begin_s, e _ (by omega)]
theorem m_ct1_ne {V : Mv} {t k : Nat} (h : k < 1017 ∨ 1020 < k) : m_ct1 V t k = V k := by
  rw [m_ct1, u2_ne (by omega), u2_ne (by omega), u2_ne (by omega), u2_ne (by omega)]
theorem m_ct1_o {V : Mv} {t k d : Nat} (h : ¬ (V 1042 t).toNatClampNeg = d) : m_ct1 V t k d = V k d := by
  rw [m_ct1, u2_un (by omega), u2_un (by omega), u2_un (by omega), u2_un (by omega)]
theorem m_cf_ne {k : Nat} (h : k < 1017 ∨ 1020 < k) : ∀ n t V, m_cf n t V k = V k
  | 0, _, _ => rfl
  | n + 1, t, V => by rw [m_cf, m_cf_ne h n, m_ct1_ne h]
theorem m_cf_no {k d : Nat} : ∀ n t V, (∀ t', t ≤ t' → t' < t + n → ¬ (V 1042 t').toNatClampNeg = d) → m_cf n t V k d = V k d
  | 0, _, _ => fun _ => rfl
  | n + 1, t, V => fun h => by
    rw [m_cf, m_cf_no n (t + 1) _ (fun t' h1 h2 => by rw [m_ct1_ne (by omega)]; exact h t' (by omega) (by omega)), m_ct1_o (h t (by omega) (by omega))]
theorem m_cf_at {d t0 : Nat} : ∀ n t V, t ≤ t0 → t0 < t + n → (V 1042 t0).toNatClampNeg = d → (∀ t', t0 < t' → t' < t + n → ¬ (V 1042 t').toNatClampNeg = d) → m_cf n t V 1017 d = V 1043 t0 ∧ m_cf n t V 1018 d = V 1044 t0 ∧ m_cf n t V 1019 d = V 1045 t0 ∧ m_cf n t V 1020 d = 0
  | 0, t, V => fun h1 h2 => absurd h2 (by omega)
  | n + 1, t, V => fun h1 h2 h3 h4 => by
    rw [m_cf]
    by_cases ht : t0 = t
    · subst ht
      have q : ∀ t', t0 + 1 ≤ t' → t' < t0 + 1 + n → ¬ (m_ct1 V t0 1042 t').toNatClampNeg = d := fun t' q1 q2 => by
        rw [m_ct1_ne (by omega)]
        exact h4 t' (by omega) (by omega)
      rw [m_cf_no n (t0 + 1) _ q, m_cf_no n (t0 + 1) _ q, m_cf_no n (t0 + 1) _ q, m_cf_no n (t0 + 1) _ q, m_ct1, h3]
      refine ⟨?_, ?_, ?_, u2_ss⟩
      · rw [u2_ne (by decide), u2_ne (by decide), u2_ne (by decide), u2_ss]
      · rw [u2_ne (by decide), u2_ne (by decide), u2_ss]
      · rw [u2_ne (by decide), u2_ss]
    · have r := m_cf_at (d := d) (t0 := t0) n (t + 1) (m_ct1 V t) (by omega) (by omega) (by rw [m_ct1_ne (by omega)]; exact h3) (fun t' q1 q2 => by rw [m_ct1_ne (by omega)]; exact h4 t' q1 (by omega))
      rw [m_ct1_ne (k := 1043) (by omega), m_ct1_ne (k := 1044) (by omega), m_ct1_ne (k := 1045) (by omega)] at r
      exact r
theorem m_go_sc {nD j : Nat} (h : j < 35) : ∀ n V, m_go nD n V 1000 j = V 1000 j
  | 0, _ => rfl
  | n + 1, V => by
    rw [m_go]
    split
    · split
      · rfl
      · rw [m_go_sc h n, m_rA_sc h]
    · rfl
theorem m_go_ne {nD k : Nat} (h : k < 1000 ∨ (1000 < k ∧ k < 1042) ∨ 1045 < k) : ∀ n V, m_go nD n V k = V k
  | 0, _ => rfl
  | n + 1, V => by
    rw [m_go]
    split
    · split
      · rfl
      · rw [m_go_ne h n, m_rA_ne h]
    · rfl
theorem m_c0_ne {W : Mv} {L k : Nat} (h : k ≠ 1000) : m_c0 W L k = W k := by
  rw [m_c0, u2_ne h, u2_ne h, u2_ne h, u2_ne h, u2_ne h, u2_ne h]
theorem m_c0_j {W : Mv} {L j : Nat} (h0 : j ≠ 0) (h1 : j < 32 ∨ j = 33 ∨ 41 < j) : m_c0 W L 1000 j = W 1000 j := by
  rw [m_c0, u2_sn (by omega), u2_sn (by omega), u2_sn (by omega), u2_sn (by omega), u2_sn (by omega), u2_sn (by omega)]
theorem m_rA_hi {V : Mv} {nD j : Nat} (h : 41 < j) : m_rA V nD 1000 j = V 1000 j :=
  m_rA_ind (P := fun V' => V' 1000 j = V 1000 j) (fun V' so q => by rw [m_takeV_sc (by omega)]; exact q) (fun V' q => by rw [m_bad_sc (by omega) (by omega)]; exact q) (fun V' d s a b q => by rw [m_rJ_sc (by omega)]; exact q) rfl
theorem m_go_hi {nD j : Nat} (h : 41 < j) : ∀ n V, m_go nD n V 1000 j = V 1000 j
  | 0, _ => rfl
  | n + 1, V => by
    rw [m_go]
    split
    · split
      · rfl
      · rw [m_go_hi h n, m_rA_hi h]
    · rfl
theorem ctF_j {W : Mv} {L nD j : Nat} (h0 : j ≠ 0) (h1 : j < 32 ∨ j = 33 ∨ 41 < j) : m_ctF W L nD 1000 j = W 1000 j := by
  rw [m_ctF]
  by_cases h : j < 35
  · rw [m_go_sc h, m_stp_sc (by omega), m_c0_j h0 h1]
  · rw [m_go_hi (by omega), m_stp_sc (by omega), m_c0_j h0 h1]
theorem ctF_ne {W : Mv} {L nD k : Nat} (h : k ≠ 1000) (h2 : k < 1042 ∨ 1045 < k) : m_ctF W L nD k = W k := by
  rw [m_ctF, m_go_ne (by omega), m_stp_ne (by omega), m_c0_ne (by omega)]
theorem ctF_32 {W : Mv} {L nD : Nat} : m_ctF W L nD 1000 32 = 0 := by
  rw [m_ctF, m_go_sc (by omega), m_stp_sc (by omega), m_c0, u2_sn (by decide), u2_sn (by decide), u2_sn (by decide), u2_ss]
