theorem y_sub {x y : Int32} (h1 : -2147483648 ≤ x.toInt - y.toInt) (h2 : x.toInt - y.toInt < 2147483648) : (x - y).toInt = x.toInt - y.toInt := by
  rw [Int32.toInt_sub, Int.bmod_def]
  omega
theorem y_add {x y : Int32} (h1 : -2147483648 ≤ x.toInt + y.toInt) (h2 : x.toInt + y.toInt < 2147483648) : (x + y).toInt = x.toInt + y.toInt := by
  rw [Int32.toInt_add, Int.bmod_def]
  omega
theorem rl_glob {c nP nD : Nat} {U U' W W' : Mv} {K I K' I' : Mj} {R : Mr} (hU : ∀ k j, k ≠ 3 → U' k j = U k j) (hW : ∀ k j, ¬ (k = 1000 ∧ (j = 0 ∨ (21 ≤ j ∧ j ≤ 25))) → W' k j = W k j) (hG : rG U' W' K' I') (h : rl c nP nD U W K I R) : rl c nP nD U' W' K' I' R := by
  obtain ⟨⟨h1, h2, h3, h4, h5, h6⟩, hP, hD, hZ, -, hm, hf, hT, hB⟩ := h
  refine ⟨⟨h1, h2, by rw [hU 1 2 (by decide)]; exact h3, by rw [hU 2 2 (by decide)]; exact h4, by rw [hW 1000 1 (by decide)]; exact h5, by rw [hW 1000 7 (by decide)]; exact h6⟩, ?_, ?_, ?_, hG, ?_, ?_, ?_, ?_⟩
  · intro i hi
    exact rpP_ag (by omega) (fun q hq j => hU _ _ (by omega)) (hW _ _ (by omega)) (hW _ _ (by omega)) (hW _ _ (by omega)) (hW _ _ (by omega)) (hP i hi)
  · intro d hd
    exact dlP_ag (fun j => hU _ _ (by omega)) (fun k h7 h8 => hW _ _ (by omega)) (hD d hd)
  · intro d h7 h8 k h9 h10
    rw [hW _ _ (by omega)]
    exact hZ d h7 h8 k h9 h10
  · rw [hU 0 7 (by decide), mis_ag (W := W) (W' := W') (fun j => hW _ _ (by omega))]
    exact hm
  · rw [hU 10 5 (by decide), hW 1000 33 (by decide)]
    exact hf
  · exact rT_ag (hU _ _ (by decide)) (fun j => hU _ _ (by decide)) (hW _ _ (by decide)) (fun j => hW _ _ (by omega)) hT
  · exact rB_ag (hU _ _ (by decide)) (fun j => hU _ _ (by decide)) (hW _ _ (by decide)) (fun j => hW _ _ (by omega)) hB
theorem dlP_late {c c' nP : Nat} {r : Option Nat} {a b a' b' : Nat → Int32} (h : dlP c nP r a b) (ea : ∀ j, j < 3 ∨ 6 < j → a' j = a j) (eb : ∀ k, 1008 ≤ k → k ≤ 1020 → k < 1011 ∨ 1014 < k → b' k = b k) (h3 : a' 3 = b' 1011) (hl : -(60 * (c' : Int)) ≤ (b' 1011).toInt ∧ (b' 1011).toInt ≤ 60 * (c' : Int)) (h4 : a' 4 = b' 1013) (h5 : a' 5 = b' 1014) (h6 : a' 6 = b' 1012) : dlP c' nP r a' b' := by
  obtain ⟨d1, d2, d3, -, -, d6, d7, d8, d9⟩ := h
  unfold dlP
  rw [ea 1 (by decide), ea 2 (by decide), ea 7 (by decide), ea 8 (by decide), ea 9 (by decide), ea 10 (by decide), ea 11 (by decide), eb 1008 (by decide) (by decide) (by decide), eb 1009 (by decide) (by decide) (by decide), eb 1010 (by decide) (by decide) (by decide), eb 1015 (by decide) (by decide) (by decide), eb 1016 (by decide) (by decide) (by decide), eb 1017 (by decide) (by decide) (by decide), eb 1018 (by decide) (by decide) (by decide), eb 1019 (by decide) (by decide) (by decide), eb 1020 (by decide) (by decide) (by decide)]
  exact ⟨d1, d2, d3, ⟨h3, hl.1, hl.2⟩, ⟨h4, h5, h6⟩, d6, d7, d8, d9⟩
theorem e_drift {c nP nD : Nat} {U W : Mv} {K I : Mj} {R : Mr} (h : rl c nP nD U W K I R) (v : Int32) : x_drift U v = m_drift W v ∧ rl c nP nD (x_driftV U v) (m_driftV W v) K I R := by
  have hG := h.2.2.2.2.1
  rw [x_drift, m_drift, x_driftV, m_driftV]
  by_cases hv : -5 ≤ v ∧ v ≤ 5
  · rw [if_pos hv, if_pos hv, if_pos hv, if_pos hv]
    refine ⟨hG.2.2.2.1, rl_glob (fun k j hk => by rw [u2_ne hk]) (fun k j hk => by rw [u2_un (by omega), u2_un (by omega)]) ?_ h⟩
    unfold rG
    rw [u2_sn (by decide), u2_ss, u2_sn (by decide), u2_sn (by decide), u2_sn (by decide), u2_ss, u2_sn (by decide), u2_sn (by decide), u2_sn (by decide), u2_sn (by decide)]
    exact ⟨hG.1, hG.2.1, hG.2.2.1, rfl, hG.2.2.2.2⟩
  · rw [if_neg hv, if_neg hv, if_neg hv, if_neg hv]
    exact ⟨rfl, rl_0 h⟩
theorem e_look {c nP nD : Nat} {U W : Mv} {K I : Mj} {R : Mr} (h : rl c nP nD U W K I R) (x : Int32) : x_look U nD x = m_get W nD x 1011 ∧ rl c nP nD (x_lookV U nD x) (m_lookV W nD x) K I R := by
  rw [x_look, m_get, x_lookV, m_lookV]
  by_cases hx : inx nD x
  · have hd := rl_d h hx
    rw [if_pos hx, if_pos hx, if_pos hx, if_pos hx]
    have htn := (inx_c hx).1
    generalize x.toNatClampNeg = t at hd htn ⊢
    refine ⟨hd.2.2.2.1.1, rl_dial htn (fun k hk => by rw [x_known, u2_ne hk, u2_ne hk]) (fun k j hk => by rw [u2_un (by omega), u2_un (by omega)]) (by rw [u2_ne (by decide), u2_ne (by decide)]) ?_ (rl_0 h)⟩
    refine dlP_late hd (fun j hj => by rw [x_known, u2_sn (by omega), u2_sn (by omega)]) (fun k h1 h2 h3 => by show u2 _ _ _ _ k t = _; rw [u2_ne (by omega), u2_ne (by omega), u2_ne (by omega)]) ?_ ?_ ?_ ?_ ?_
    · show x_known U (200 + t) (200 + t) 3 = u2 _ _ _ _ 1011 t
      rw [x_known, u2_sn (by decide), u2_sn (by decide), u2_ne (by decide), u2_ne (by decide), u2_ne (by decide)]
      exact hd.2.2.2.1.1
    · show _ ≤ Int32.toInt (u2 _ _ _ _ 1011 t) ∧ Int32.toInt (u2 _ _ _ _ 1011 t) ≤ _
      rw [u2_ne (by decide), u2_ne (by decide), u2_ne (by decide)]
      exact hd.2.2.2.1.2
    · show x_known U (200 + t) (200 + t) 4 = u2 _ _ _ _ 1013 t
      rw [x_known, u2_sn (by decide), u2_ss, u2_ne (by decide), u2_ss]
      exact hd.2.2.2.1.1
    · show x_known U (200 + t) (200 + t) 5 = u2 _ _ _ _ 1014 t
      rw [x_known, u2_ss, u2_ss]
    · show x_known U (200 + t) (200 + t) 6 = u2 _ _ _ _ 1012 t
      rw [x_known, u2_sn (by decide), u2_sn (by decide), u2_ne (by decide), u2_ne (by decide), u2_ne (by decide)]
      exact hd.2.2.2.2.1.2.2
  · rw [if_neg hx, if_neg hx, if_neg hx, if_neg hx]
    exact ⟨rfl, rl_0 h⟩
theorem e_owes {c nP nD : Nat} {U W : Mv} {K I : Mj} {R : Mr} (h : rl c nP nD U W K I R) (x : Int32) : x_get U nD x 11 = m_get W nD x 1020 := by
  rw [x_get, m_get]
  by_cases hx : inx nD x
  · have hd := rl_d h hx
    rw [if_pos hx, if_pos hx]
    exact hd.2.2.2.2.2.2.2.2
  · rw [if_neg hx, if_neg hx]
theorem dl_kind {c nP : Nat} {r : Option Nat} {U W : Mv} {t : Nat} (h : dlP c nP r (U (200 + t)) (fun k => W k t)) : x_kind U (200 + t) = m_kind W t ∧ (m_kind W t = 0 ∨ m_kind W t = 1 ∨ m_kind W t = 2 ∨ m_kind W t = 3) := by
  obtain ⟨-, -, ⟨h2, h3⟩, -, ⟨-, -, h6⟩, -⟩ := h
  have h2' : U (200 + t) 2 = W 1010 t := h2
  have h6' : U (200 + t) 6 = W 1012 t := h6
  have h3' : W 1010 t = 0 ∨ W 1010 t = 1 ∨ W 1010 t = 2 := h3
  rw [x_kind, m_kind, h2', h6']
  refine ⟨rfl, ?_⟩
  split
  · rcases h3' with e | e | e
    · exact Or.inl e
    · exact Or.inr (Or.inl e)
    · exact Or.inr (Or.inr (Or.inl e))
  · exact Or.inr (Or.inr (Or.inr rfl))
theorem e_kind {c nP nD : Nat} {U W : Mv} {K I : Mj} {R : Mr} (h : rl c nP nD U W K I R) (x : Int32) : x_kindOf U nD x = m_kindR W nD x := by
  rw [x_kindOf, m_kindR]
  by_cases hx : inx nD x
  · rw [if_pos hx, if_pos hx]
    exact (dl_kind (rl_d h hx)).1
  · rw [if_neg hx, if_neg hx]
theorem e_as {c nP nD : Nat} {U W : Mv} {K I : Mj} {R : Mr} (h : rl c nP nD U W K I R) (x v : Int32) : x_as U nD x v = m_as W nD x v := by
  rw [x_as, m_as]
  by_cases hx : inx nD x
  · have hd := rl_d h hx
    have hk := dl_kind hd
    have hl : U (200 + x.toNatClampNeg) 3 = W 1011 x.toNatClampNeg := hd.2.2.2.1.1
    rw [if_pos hx, if_pos hx]
    by_cases hv : 0 ≤ v ∧ v ≤ 3
    · rw [if_pos hv, if_pos hv, hk.1, hl]
      by_cases h0 : v = 0
      · rw [if_pos h0, if_pos (show x_isk _ v from Or.inr (Or.inl h0))]
      · rw [if_neg h0]
        by_cases h1 : m_kind W x.toNatClampNeg = v
        · rw [if_pos h1, if_pos (show x_isk _ v from Or.inl h1)]
        · rw [if_neg h1]
          by_cases h2 : v = 1
          · rw [if_pos h2]
            by_cases h3 : m_kind W x.toNatClampNeg = 2
            · rw [if_pos h3, if_pos (show x_isk _ v from Or.inr (Or.inr ⟨h3, h2⟩))]
            · rw [if_neg h3, if_neg (fun e => e.elim h1 (fun e => e.elim h0 (fun e => h3 e.1)))]
          · rw [if_neg h2, if_neg (fun e => e.elim h1 (fun e => e.elim h0 (fun e => h2 e.2)))]
    · rw [if_neg hv, if_neg hv]
  · rw [if_neg hx, if_neg hx]
theorem e_trace {c nP nD nT : Nat} {U W : Mv} {K I : Mj} {R : Mr} (h : rl c nP nD U W K I R) (hT : U 14 1 = nI nT) (hnT : nT ≤ 16) (x : Int32) : W 1000 47 = nI nT ∧ x_trace U nT x = m_trace W nT x := by
  obtain ⟨n, hn, h1, h2, h3⟩ := h.2.2.2.2.2.2.2.2
  have e : n = nT := (nI_eq (by omega) (by omega)).mp (by rw [← h1, hT])
  subst e
  refine ⟨h2, ?_⟩
  rw [x_trace, m_trace]
  by_cases hx : inx n x
  · rw [if_pos hx, if_pos hx]
    exact h3 _ (inx_c hx).1
  · rw [if_neg hx, if_neg hx]
theorem e_now {c nP nD : Nat} {U W : Mv} {K I : Mj} {R : Mr} (h : rl c nP nD U W K I R) (x : Int32) : x_now U K x = m_now W I x := by
  obtain ⟨g1, g2, g3, g4, g5, g6, g7⟩ := h.2.2.2.2.1
  rw [x_now, m_now, g1, g5, g6, g7]
theorem e_fault {c nP nD : Nat} {U W : Mv} {K I : Mj} {R : Mr} (h : rl c nP nD U W K I R) : U 10 5 = W 1000 33 := h.2.2.2.2.2.2.1
theorem v05 {v : Int32} (h : 0 ≤ v ∧ v ≤ 5) (c0 : ¬ v = 0) (c1 : ¬ v = 1) (c2 : ¬ v = 2) (c3 : ¬ v = 3) (c4 : ¬ v = 4) : v = 5 := by
  have h1 := Int32.le_iff_toInt_le.mp h.1
  have h2 := Int32.le_iff_toInt_le.mp h.2
  have e1 : (0 : Int32).toInt = 0 := by decide
  have e2 : (5 : Int32).toInt = 5 := by decide
  have k0 := i32_neL c0 (k := 0) (by decide)
  have k1 := i32_neL c1 (k := 1) (by decide)
  have k2 := i32_neL c2 (k := 2) (by decide)
  have k3 := i32_neL c3 (k := 3) (by decide)
  have k4 := i32_neL c4 (k := 4) (by decide)
  exact Int32.toInt_inj.mp (by rw [e2]; omega)
theorem e_right1 {c nP nD t : Nat} {U W : Mv} {K I : Mj} {R : Mr} (h : rl c nP nD U W K I R) (ht : t < nD) : rl c nP nD (x_right U (200 + t)) (m_rt W t) K I R := by
  have hd := h.2.2.1 t ht
  refine rl_dial ht (fun k hk => by rw [x_right, x_known, u2_ne hk, u2_ne hk, u2_ne hk, u2_ne hk]) (fun k j hk => by rw [m_rt, u2_un (by omega), u2_un (by omega), u2_un (by omega), u2_un (by omega)]) (by rw [m_rt, u2_ne (by decide), u2_ne (by decide), u2_ne (by decide), u2_ne (by decide)]) ?_ h
  have e11 : m_rt W t 1011 t = 0 := by rw [m_rt, u2_ne (by decide), u2_ne (by decide), u2_ne (by decide), u2_ss]
  have e12 : m_rt W t 1012 t = 0 := by rw [m_rt, u2_ss]
  have e13 : m_rt W t 1013 t = 0 := by rw [m_rt, u2_ne (by decide), u2_ne (by decide), u2_ss]
  have e14 : m_rt W t 1014 t = 0 := by rw [m_rt, u2_ne (by decide), u2_ss]
  have a3 : x_right U (200 + t) (200 + t) 3 = 0 := by rw [x_right, x_known, u2_sn (by decide), u2_sn (by decide), u2_sn (by decide), u2_ss]
  have a4 : x_right U (200 + t) (200 + t) 4 = 0 := by rw [x_right, x_known, u2_sn (by decide), u2_ss, u2_sn (by decide), u2_ss]
  have a5 : x_right U (200 + t) (200 + t) 5 = 0 := by rw [x_right, x_known, u2_ss]
  have a6 : x_right U (200 + t) (200 + t) 6 = 0 := by rw [x_right, x_known, u2_sn (by decide), u2_sn (by decide), u2_ss]
  refine dlP_late hd (fun j hj => by rw [x_right, x_known, u2_sn (by omega), u2_sn (by omega), u2_sn (by omega), u2_sn (by omega)]) (fun k h1 h2 h3 => by show m_rt W t k t = W k t; rw [m_rt, u2_ne (by omega), u2_ne (by omega), u2_ne (by omega), u2_ne (by omega)]) (a3.trans e11.symm) ?_ (a4.trans e13.symm) (a5.trans e14.symm) (a6.trans e12.symm)
  show _ ≤ Int32.toInt (m_rt W t 1011 t) ∧ Int32.toInt (m_rt W t 1011 t) ≤ _
  rw [e11]
  have z : (0 : Int32).toInt = 0 := by decide
  rw [z]
  omega
theorem e_right {c nP nD : Nat} {U W : Mv} {K I : Mj} {R : Mr} (h : rl c nP nD U W K I R) (x : Int32) : x_get U nD x 3 = m_get W nD x 1011 ∧ rl c nP nD (x_rightV U nD x) (m_rightV W nD x) K I R := by
  rw [x_get, m_get, x_rightV, m_rightV]
  by_cases hx : inx nD x
  · rw [if_pos hx, if_pos hx, if_pos hx, if_pos hx]
    exact ⟨(rl_d h hx).2.2.2.1.1, e_right1 (rl_0 h) (inx_c hx).1⟩
  · rw [if_neg hx, if_neg hx, if_neg hx, if_neg hx]
    exact ⟨rfl, rl_0 h⟩
theorem i60 {v : Int32} (h : -60 ≤ v ∧ v ≤ 60) : -60 ≤ v.toInt ∧ v.toInt ≤ 60 := by
  have h1 := Int32.le_iff_toInt_le.mp h.1
  have h2 := Int32.le_iff_toInt_le.mp h.2
  have e1 : (-60 : Int32).toInt = -60 := by decide
  have e2 : (60 : Int32).toInt = 60 := by decide
  omega
theorem e_put {c nP nD : Nat} {U W : Mv} {K I : Mj} {R : Mr} (hc : c ≤ 1000000) (h : rl c nP nD U W K I R) (x v : Int32) : x_put U nD x v = m_put W nD x v ∧ rl (c + 1) nP nD (x_putV U nD x v) (m_putV W nD x v) K I R := by
  rw [x_put, m_put, x_putV, m_putV]
  by_cases hx : inx nD x
  · have hd := rl_d h hx
    rw [if_pos hx, if_pos hx, if_pos hx, if_pos hx]
    have htn := (inx_c hx).1
    generalize x.toNatClampNeg = t at hd htn ⊢
    by_cases h0 : v = 0
    · rw [if_pos h0, if_pos h0, if_pos h0, if_pos h0]
      by_cases hv : -60 ≤ v ∧ v ≤ 60
      · rw [if_pos hv, if_pos hv]
        exact ⟨rfl, rl_up (Nat.le_succ c) (rl_0 h)⟩
      · rw [if_neg hv, if_neg hv]
        exact ⟨rfl, rl_up (Nat.le_succ c) (rl_0 h)⟩
    · rw [if_neg h0, if_neg h0, if_neg h0, if_neg h0]
      by_cases hv : -60 ≤ v ∧ v ≤ 60
      · rw [if_pos hv, if_pos hv, if_pos hv, if_pos hv]
        have hl : U (200 + t) 3 = W 1011 t := hd.2.2.2.1.1
        have hk : U (200 + t) 4 = W 1013 t := hd.2.2.2.2.1.1
        have hb : -(60 * (c : Int)) ≤ (W 1011 t).toInt ∧ (W 1011 t).toInt ≤ 60 * (c : Int) := hd.2.2.2.1.2
        have hv2 := i60 hv
        have hs : (W 1011 t - v).toInt = (W 1011 t).toInt - v.toInt := y_sub (by omega) (by omega)
        refine ⟨by rw [hl], rl_dial htn (fun k hk => by rw [x_putOn, u2_ne hk, u2_ne hk]) (fun k j hk => by rw [u2_un (by omega), u2_un (by omega)]) (by rw [u2_ne (by decide), u2_ne (by decide)]) ?_ (rl_up (Nat.le_succ c) (rl_0 h))⟩
        refine dlP_late hd (fun j hj => by rw [x_putOn, u2_sn (by omega), u2_sn (by omega)]) (fun k h1 h2 h3 => by show u2 _ _ _ _ k t = _; rw [u2_ne (by omega), u2_ne (by omega), u2_ne (by omega)]) ?_ ?_ ?_ ?_ ?_
        · show x_putOn U (200 + t) v (200 + t) 3 = u2 _ _ _ _ 1011 t
          rw [x_putOn, u2_sn (by decide), u2_ss, u2_ne (by decide), u2_ss, hl]
        · show _ ≤ Int32.toInt (u2 _ _ _ _ 1011 t) ∧ Int32.toInt (u2 _ _ _ _ 1011 t) ≤ _
          rw [u2_ne (by decide), u2_ss, hs]
          omega
        · show x_putOn U (200 + t) v (200 + t) 4 = u2 _ _ _ _ 1013 t
          rw [x_putOn, u2_ss, u2_ss, hk]
        · show x_putOn U (200 + t) v (200 + t) 5 = u2 _ _ _ _ 1014 t
          rw [x_putOn, u2_sn (by decide), u2_sn (by decide), u2_ne (by decide), u2_ne (by decide), u2_ne (by decide)]
          exact hd.2.2.2.2.1.2.1
        · show x_putOn U (200 + t) v (200 + t) 6 = u2 _ _ _ _ 1012 t
          rw [x_putOn, u2_sn (by decide), u2_sn (by decide), u2_ne (by decide), u2_ne (by decide), u2_ne (by decide)]
          exact hd.2.2.2.2.1.2.2
      · rw [if_neg hv, if_neg hv, if_neg hv, if_neg hv]
        exact ⟨rfl, rl_up (Nat.le_succ c) (rl_0 h)⟩
  · rw [if_neg hx, if_neg hx, if_neg hx, if_neg hx]
    exact ⟨rfl, rl_up (Nat.le_succ c) (rl_0 h)⟩
theorem e_state {c nP nD : Nat} {U W : Mv} {K I : Mj} {R : Mr} (h : rl c nP nD U W K I R) (x v : Int32) : x_state U R nD x v = m_state W nD x v := by
  rw [x_state, m_state]
  by_cases hx : inx nD x
  · obtain ⟨⟨i, hi, hR, h8⟩, ⟨h9, -⟩, -, ⟨h3, -⟩, ⟨h4, h5, h6⟩, -⟩ := rl_d h hx
    rw [if_pos hx, if_pos hx]
    generalize x.toNatClampNeg = t at hR h8 h9 h3 h4 h5 h6 ⊢
    have h8' : W 1008 t = nI i := h8
    have h9' : U (200 + t) 1 = W 1009 t := h9
    have h3' : U (200 + t) 3 = W 1011 t := h3
    have h4' : U (200 + t) 4 = W 1013 t := h4
    have h5' : U (200 + t) 5 = W 1014 t := h5
    have h6' : U (200 + t) 6 = W 1012 t := h6
    have hn : U (x_pl R (200 + t)) 0 = W 1008 t := by
      rw [x_pl, hR, h8']
      exact (h.2.1 i hi).1
    rw [h9', h3', h4', h5', h6', hn]
    by_cases hv : 0 ≤ v ∧ v ≤ 5
    · rw [if_pos hv]
      by_cases c0 : v = 0
      · rw [if_pos c0, if_pos c0]
      · by_cases c1 : v = 1
        · rw [if_neg c0, if_neg c0, if_pos c1, if_pos c1]
        · by_cases c2 : v = 2
          · rw [if_neg c0, if_neg c0, if_neg c1, if_neg c1, if_pos c2, if_pos c2]
          · by_cases c3 : v = 3
            · rw [if_neg c0, if_neg c0, if_neg c1, if_neg c1, if_neg c2, if_neg c2, if_pos c3, if_pos c3]
            · by_cases c4 : v = 4
              · rw [if_neg c0, if_neg c0, if_neg c1, if_neg c1, if_neg c2, if_neg c2, if_neg c3, if_neg c3, if_pos c4, if_pos c4]
              · have c5 : v = 5 := v05 hv c0 c1 c2 c3 c4
                rw [if_neg c0, if_neg c0, if_neg c1, if_neg c1, if_neg c2, if_neg c2, if_neg c3, if_neg c3, if_neg c4, if_neg c4, if_pos c5]
    · have hz : ∀ q : Int32, 0 ≤ q ∧ q ≤ 5 → v ≠ q := fun q hq e => hv (e ▸ hq)
      rw [if_neg hv, if_neg (hz 0 (by decide)), if_neg (hz 1 (by decide)), if_neg (hz 2 (by decide)), if_neg (hz 3 (by decide)), if_neg (hz 4 (by decide)), if_neg (hz 5 (by decide))]
  · rw [if_neg hx, if_neg hx]
