theorem g_since {x y : Int32} {k : Int64} (hx : 0 ≤ x.toInt ∧ x.toInt < 100000) (hy : 0 ≤ y.toInt ∧ y.toInt ≤ x.toInt) (hk : k = (x - y).toInt64) : k + 1 = (x + 1 - y).toInt64 := by
  have e1 : (1 : Int32).toInt = 1 := by decide
  have e2 : (1 : Int64).toInt = 1 := by decide
  have h1 : (x - y).toInt = x.toInt - y.toInt := y_sub (by omega) (by omega)
  have h2 : (x + 1).toInt = x.toInt + 1 := by rw [y_add (by omega) (by omega), e1]
  have h3 : (x + 1 - y).toInt = x.toInt + 1 - y.toInt := by rw [y_sub (by omega) (by omega), h2]
  apply Int64.toInt_inj.mp
  rw [Int64.toInt_add, hk, Int32.toInt_toInt64, Int32.toInt_toInt64, h1, h3, e2, Int.bmod_def]
  omega
theorem e_puff {c nP nD : Nat} {U W : Mv} {K I : Mj} {R : Mr} (hc : c ≤ 1000000) (h : rl c nP nD U W K I R) : x_puffR U R nD = m_puffR W nP nD ∧ rl (c + 1) nP nD (x_puffRV U R nD) (m_puffRV W nP nD) (x_puffRJ U K) (m_puffRJ W I) R := by
  obtain ⟨g1, g2, g3, g4, g5, g6, g7⟩ := h.2.2.2.2.1
  have z1 : (100000 : Int32).toInt = 100000 := by decide
  have e1 : (1 : Int32).toInt = 1 := by decide
  have b2 := i_rng (A := 0) (B := 100000) (by decide) (by decide) g2
  have b3 : 0 ≤ (W 1000 24).toInt ∧ (W 1000 24).toInt ≤ (W 1000 21).toInt := i_rng (by decide) rfl g3
  rw [x_puffR, m_puffR, x_puffRV, m_puffRV, x_puffRJ, m_puffRJ, g1]
  by_cases hm : W 1000 21 = 100000
  · have hn : ¬ W 1000 21 < 100000 := by rw [hm]; decide
    rw [if_neg hn, if_neg hn, if_neg hn, if_pos hm, if_pos hm, if_pos hm]
    exact ⟨rfl, rl_up (Nat.le_succ c) (rl_0 h)⟩
  · have hk := i32_neL hm z1
    have hn : W 1000 21 < 100000 := Int32.lt_iff_toInt_lt.mpr (by rw [z1]; omega)
    rw [if_pos hn, if_pos hn, if_pos hn, if_neg hm, if_neg hm, if_neg hm]
    have hs : (W 1000 21 + 1).toInt = (W 1000 21).toInt + 1 := by rw [y_add (by omega) (by omega), e1]
    have w21 : u2 (u2 W 1000 0 0) 1000 21 (W 1000 21 + 1) 1000 21 = W 1000 21 + 1 := u2_ss
    have w22 : u2 (u2 W 1000 0 0) 1000 21 (W 1000 21 + 1) 1000 22 = W 1000 22 := by rw [u2_sn (by decide), u2_sn (by decide)]
    have w24 : u2 (u2 W 1000 0 0) 1000 21 (W 1000 21 + 1) 1000 24 = W 1000 24 := by rw [u2_sn (by decide), u2_sn (by decide)]
    have w25 : u2 (u2 W 1000 0 0) 1000 21 (W 1000 21 + 1) 1000 25 = W 1000 25 := by rw [u2_sn (by decide), u2_sn (by decide)]
    have hg : rl c nP nD (u2 U 3 0 (W 1000 21 + 1)) (u2 (u2 W 1000 0 0) 1000 21 (W 1000 21 + 1)) (u2 (u2 K 3 4 (K 3 4 + 1)) 3 2 (K 3 2 + (U 3 1).toInt64)) (u2 I 1000 23 (I 1000 23 + (W 1000 22).toInt64)) R := by
      refine rl_glob (fun k j hk => by rw [u2_ne hk]) (fun k j hk => by rw [u2_un (by omega), u2_un (by omega)]) ?_ h
      unfold rG
      rw [w21, w22, w24, w25, u2_ss, u2_sn (by decide), u2_sn (by decide), u2_ss, u2_ss, u2_sn (by decide), u2_ss]
      refine ⟨rfl, ⟨Int32.le_iff_toInt_le.mpr (by rw [hs]; show 0 ≤ _; omega), Int32.le_iff_toInt_le.mpr (by rw [hs, z1]; omega)⟩, ⟨g3.1, Int32.le_iff_toInt_le.mpr (by rw [hs]; omega)⟩, g4, g5, by rw [g6, g4], g_since ⟨b2.1, by omega⟩ b3 g7⟩
    have ha := rl_air hg
    have hu := rl_up (Nat.le_succ c) ha
    have hid := u2_id (f := u2 U 3 0 (W 1000 21 + 1)) hu.2.2.2.2.2.1
    have r := e_puffL hc nD 0 (u2 U 3 0 (W 1000 21 + 1)) (m_air nP 0 (u2 (u2 W 1000 0 0) 1000 21 (W 1000 21 + 1))) 0 (by omega) (by rw [hid]; exact hu) (fun q hq => e_air hg hq) (fun d _ hd => (ha.2.2.1 d hd).2.2.2.1.2) rfl
    refine ⟨r.1, ?_⟩
    rw [r.1, r.2.1]
    exact r.2.2
