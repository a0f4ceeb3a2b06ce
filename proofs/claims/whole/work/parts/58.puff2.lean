theorem e_st {c nP nD i p1 : Nat} {U W : Mv} {K I : Mj} {R : Mr} (hc : c ≤ 1000000) (h : rl (c + 1) nP nD (u2 U 0 7 (mis W nD)) W K I R) (hi : i < nD) (hb : -(60 * (c : Int)) ≤ (W 1011 i).toInt ∧ (W 1011 i).toInt ≤ 60 * (c : Int)) (hp1 : p1 < 1000) (h8 : W 1008 i = nI p1) (hair : x_air U R p1 = W 1006 p1) : rl (c + 1) nP nD (u2 (x_puff U R i p1) 0 7 (mis (m_st W i) nD)) (m_st W i) K I R ∧ m_st W i 1015 i = (if ¬ x_air U R p1 < U (200 + i) 1 then 0 else 1) ∧ ((¬ x_air U R p1 < U (200 + i) 1) ↔ W 1009 i ≤ W 1006 (W 1008 i).toNatClampNeg) := by
  have hd0 : dlP (c + 1) nP (R (200 + i) 0) (U (200 + i)) (fun k => W k i) := by
    have hx := h.2.2.1 i hi
    rw [u2_ne (by omega)] at hx
    exact hx
  have n1 : U (200 + i) 1 = W 1009 i := hd0.2.1.1
  have l3 : U (200 + i) 3 = W 1011 i := hd0.2.2.2.1.1
  have l5 : U (200 + i) 5 = W 1014 i := hd0.2.2.2.2.1.2.1
  have l6 : U (200 + i) 6 = W 1012 i := hd0.2.2.2.2.1.2.2
  have ea0 : u2 (x_puff U R i p1) 0 7 (mis (m_st W i) nD) (200 + i) = x_puff U R i p1 (200 + i) := u2_ne (by omega)
  have hq : (¬ x_air U R p1 < U (200 + i) 1) ↔ W 1009 i ≤ W 1006 (W 1008 i).toNatClampNeg := by
    rw [h8, nI_clamp (by omega), hair, n1]
    exact Int32.not_lt
  have e1 : (1 : Int32).toInt = 1 := by decide
  have hs1 : (W 1011 i + 1).toInt = (W 1011 i).toInt + 1 := by rw [y_add (by omega) (by omega), e1]
  have hU : ∀ k j, k ≠ 200 + i → ¬ (k = 0 ∧ j = 7) → u2 (x_puff U R i p1) 0 7 (mis (m_st W i) nD) k j = u2 U 0 7 (mis W nD) k j := fun k j k1 k2 => by
    rw [u2_un k2, u2_un k2, x_puff_ne k1]
  by_cases hmv : x_air U R p1 < U (200 + i) 1
  · have hst : m_st W i = u2 (m_p1 W i) 1020 i (m_ow W i 1 (W 1011 i + 1)) := by
      rw [m_st, if_neg (fun e => (hq.mpr e) hmv), m_o_eq (by rw [m_p1, u2_ne (by decide), u2_ne (by decide), u2_ne (by decide), u2_ne (by decide)])]
    have h15 : m_st W i 1015 i = 1 := by rw [hst, u2_ne (by decide), m_p1, u2_ne (by decide), u2_ne (by decide), u2_ne (by decide), u2_ss]
    have m11 : m_st W i 1011 i = W 1011 i + 1 := by rw [hst, u2_ne (by decide), m_p1, u2_ne (by decide), u2_ne (by decide), u2_ss]
    have m12 : m_st W i 1012 i = W 1012 i + 1 := by rw [hst, u2_ne (by decide), m_p1, u2_ne (by decide), u2_ss]
    have m14 : m_st W i 1014 i = W 1014 i + 1 := by rw [hst, u2_ne (by decide), m_p1, u2_ss]
    have m20 : m_st W i 1020 i = m_ow W i 1 (W 1011 i + 1) := by rw [hst, u2_ss]
    refine ⟨rl_dial2 hi hU u2_ss (fun k j hk => m_st_ne hk) ?_ h, by rw [h15, if_neg (fun e => e hmv)], hq⟩
    rw [ea0]
    refine dlP_puff hd0 (fun j q3 q5 q6 q11 => by rw [x_puff_0 hmv, u2_sn q11, x_puff0, u2_sn q6, u2_sn q3, u2_sn q5]) (fun k k1 k2 q11 q12 q14 q15 => by show m_st W i k i = W k i; rw [hst, u2_ne (by omega), m_p1, u2_ne q14, u2_ne q12, u2_ne q11, u2_ne q15]) ?_ ?_ ?_ ?_ (Or.inr h15) ?_
    · show _ = m_st W i 1011 i
      rw [m11, x_puff_0 hmv, u2_sn (by decide), x_puff0, u2_sn (by decide), u2_ss, l3]
    · show _ ≤ Int32.toInt (m_st W i 1011 i) ∧ Int32.toInt (m_st W i 1011 i) ≤ _
      rw [m11, hs1]
      omega
    · show _ = m_st W i 1014 i
      rw [m14, x_puff_0 hmv, u2_sn (by decide), x_puff0, u2_sn (by decide), u2_sn (by decide), u2_ss, l5]
    · show _ = m_st W i 1012 i
      rw [m12, x_puff_0 hmv, u2_sn (by decide), x_puff0, u2_ss, l6]
    · show _ = m_st W i 1020 i
      rw [m20, x_puff_0 hmv, u2_ss]
      exact ow_eq hd0 (by rw [x_puff0, u2_sn (by decide), u2_sn (by decide), u2_sn (by decide)]) (by rw [x_puff0, u2_sn (by decide), u2_sn (by decide), u2_sn (by decide)]) (by rw [x_puff0, u2_sn (by decide), u2_ss, l3]) (Or.inr ⟨rfl, rfl⟩)
  · have hst : m_st W i = u2 (m_p0 W i) 1020 i (m_ow W i 0 (W 1011 i + 0)) := by
      rw [m_st, if_pos (hq.mp hmv), m_o_eq (by rw [m_p0, u2_ne (by decide), u2_ne (by decide), u2_ne (by decide), u2_ne (by decide)])]
    have h15 : m_st W i 1015 i = 0 := by rw [hst, u2_ne (by decide), m_p0, u2_ne (by decide), u2_ne (by decide), u2_ne (by decide), u2_ss]
    have m11 : m_st W i 1011 i = W 1011 i := by rw [hst, u2_ne (by decide), m_p0, u2_ne (by decide), u2_ne (by decide), u2_ss, Int32.add_zero]
    have m12 : m_st W i 1012 i = 0 := by rw [hst, u2_ne (by decide), m_p0, u2_ne (by decide), u2_ss]
    have m14 : m_st W i 1014 i = W 1014 i + 1 := by rw [hst, u2_ne (by decide), m_p0, u2_ss]
    have m20 : m_st W i 1020 i = m_ow W i 0 (W 1011 i + 0) := by rw [hst, u2_ss]
    refine ⟨rl_dial2 hi hU u2_ss (fun k j hk => m_st_ne hk) ?_ h, by rw [h15, if_pos hmv], hq⟩
    rw [ea0]
    refine dlP_puff hd0 (fun j q3 q5 q6 q11 => by rw [x_puff_1 hmv, u2_sn q11, x_puff1, u2_sn q6, u2_sn q5]) (fun k k1 k2 q11 q12 q14 q15 => by show m_st W i k i = W k i; rw [hst, u2_ne (by omega), m_p0, u2_ne q14, u2_ne q12, u2_ne q11, u2_ne q15]) ?_ ?_ ?_ ?_ (Or.inl h15) ?_
    · show _ = m_st W i 1011 i
      rw [m11, x_puff_1 hmv, u2_sn (by decide), x_puff1, u2_sn (by decide), u2_sn (by decide), l3]
    · show _ ≤ Int32.toInt (m_st W i 1011 i) ∧ Int32.toInt (m_st W i 1011 i) ≤ _
      rw [m11]
      omega
    · show _ = m_st W i 1014 i
      rw [m14, x_puff_1 hmv, u2_sn (by decide), x_puff1, u2_sn (by decide), u2_ss, l5]
    · show _ = m_st W i 1012 i
      rw [m12, x_puff_1 hmv, u2_sn (by decide), x_puff1, u2_ss]
    · show _ = m_st W i 1020 i
      rw [m20, x_puff_1 hmv, u2_ss]
      exact ow_eq hd0 (by rw [x_puff1, u2_sn (by decide), u2_sn (by decide)]) (by rw [x_puff1, u2_sn (by decide), u2_sn (by decide)]) (by rw [x_puff1, u2_sn (by decide), u2_sn (by decide), l3, Int32.add_zero]) (Or.inl ⟨rfl, rfl⟩)
