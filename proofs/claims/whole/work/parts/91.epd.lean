/-! pipe and dial: equal answers; what the relation reads -/
theorem rpP_in {U U' W W' : Mv} {R R' : Mr} {i : Nat} (e : ∀ q, q ≤ i → U' (100 + q) = U (100 + q) ∧ R' (100 + q) 1 = R (100 + q) 1) (f2 : W' 1002 i = W 1002 i) (f3 : W' 1003 i = W 1003 i) (f4 : W' 1004 i = W 1004 i) (f5 : W' 1005 i = W 1005 i) (h : rpP U W R i) : rpP U' W' R' i := by
  obtain ⟨h0, h5, h3, h4, h6, hp⟩ := h
  have ei := e i (Nat.le_refl _)
  refine ⟨by rw [ei.1]; exact h0, by rw [ei.1, f5]; exact h5, by rw [f3]; exact h3, by rw [f4]; exact h4, by rw [f5]; exact h6, ?_⟩
  rcases hp with ⟨p1, p2, p3, p4, p5⟩ | ⟨j, p0, p1, p2, p3, p4, p5⟩
  · exact Or.inl ⟨by rw [f2]; exact p1, by rw [ei.2]; exact p2, by rw [ei.1, f3]; exact p3, by rw [ei.1, f4]; exact p4, by rw [ei.1]; exact p5⟩
  · have ej := e j (by omega)
    exact Or.inr ⟨j, p0, by rw [f2]; exact p1, by rw [ei.2]; exact p2, by rw [ei.1, ej.1, f3]; exact p3, by rw [ei.1, ej.1, f4]; exact p4, by rw [ei.1, ej.1]; exact p5⟩
/-- the relation reads these labels alone -/
theorem rl_in {c nP nD : Nat} {U U' W W' : Mv} {K K' I I' : Mj} {R R' : Mr} (hU : ∀ k, (k < 16 ∨ (100 ≤ k ∧ k < 100 + nP) ∨ (200 ≤ k ∧ k < 200 + nD)) → U' k = U k) (hW : ∀ k, (k = 1000 ∨ (1002 ≤ k ∧ k ≤ 1006) ∨ (1008 ≤ k ∧ k ≤ 1020) ∨ k = 1031 ∨ k = 1046) → W' k = W k) (hK : K' 3 = K 3) (hI : I' 1000 = I 1000) (hR : ∀ k, ((100 ≤ k ∧ k < 100 + nP) ∨ (200 ≤ k ∧ k < 200 + nD)) → R' k = R k) (h : rl c nP nD U W K I R) : rl c nP nD U' W' K' I' R' := by
  obtain ⟨⟨h1, h2, h3, h4, h5, h6⟩, hP, hD, hZ, hG, hm, hf, hT, hB⟩ := h
  have w0 := hW 1000 (by omega)
  refine ⟨⟨h1, h2, by rw [hU 1 (by omega)]; exact h3, by rw [hU 2 (by omega)]; exact h4, by rw [w0]; exact h5, by rw [w0]; exact h6⟩, ?_, ?_, ?_, ?_, ?_, ?_, ?_, ?_⟩
  · intro i hi
    exact rpP_in (fun q hq => ⟨hU _ (by omega), by rw [hR _ (by omega)]⟩) (by rw [hW _ (by omega)]) (by rw [hW _ (by omega)]) (by rw [hW _ (by omega)]) (by rw [hW _ (by omega)]) (hP i hi)
  · intro d hd
    rw [hR _ (by omega)]
    exact dlP_ag (fun j => by rw [hU _ (by omega)]) (fun k h7 h8 => by rw [hW _ (by omega)]) (hD d hd)
  · intro d h7 h8 k h9 h10
    rw [hW _ (by omega)]
    exact hZ d h7 h8 k h9 h10
  · unfold rG at hG ⊢
    rw [hU 3 (by omega), w0, hK, hI]
    exact hG
  · rw [hU 0 (by omega), mis_ag (W := W) (W' := W') (fun j => by rw [hW _ (by omega)])]
    exact hm
  · rw [hU 10 (by omega), w0]
    exact hf
  · exact rT_ag (by rw [hU _ (by omega)]) (fun j => by rw [hU _ (by omega)]) (by rw [w0]) (fun j => by rw [hW _ (by omega)]) hT
  · exact rB_ag (by rw [hU _ (by omega)]) (fun j => by rw [hU _ (by omega)]) (by rw [w0]) (fun j => by rw [hW _ (by omega)]) hB
theorem dlP_P {c nP nP' : Nat} {r : Option Nat} {a b : Nat → Int32} (hn : nP ≤ nP') (h : dlP c nP r a b) : dlP c nP' r a b := by
  obtain ⟨⟨i, h1, h2, h3⟩, h4⟩ := h
  exact ⟨⟨i, by omega, h2, h3⟩, h4⟩
theorem e_pipeB {c nP nD : Nat} {U W : Mv} {K I : Mj} {R : Mr} (h : rl c nP nD U W K I R) (x lo la : Int32) (hrej : ¬ ((x = -1000000 ∨ inx nP x) ∧ (0 ≤ lo ∧ lo ≤ 50) ∧ (0 ≤ la ∧ la ≤ 20) ∧ nP < 30)) : x_pipeR nP x lo la = m_pipe W nP x lo la ∧ m_pipeV W nP x lo la = u2 W 1000 0 0 := by
  have hn := h.1.1
  have h5 : W 1000 1 = nI nP := h.1.2.2.2.2.1
  have core : (x = -1000000 ∨ inx nP x) → (if 0 ≤ lo ∧ lo ≤ 50 then (if 0 ≤ la ∧ la ≤ 20 then -1000003 else -1000001) else -1000001) = m_pcore W nP lo la ∧ m_pcoreV W nP x lo la = u2 W 1000 0 0 := by
    intro hx
    rw [m_pcore, m_pcoreV]
    by_cases c1 : 0 ≤ lo ∧ lo ≤ 50
    · rw [if_pos c1, if_pos c1, if_pos c1]
      by_cases c2 : 0 ≤ la ∧ la ≤ 20
      · rw [if_pos c2, if_pos c2, if_pos c2]
        have h30 : nP = 30 := by
          rcases Nat.lt_or_ge nP 30 with q | q
          · exact absurd ⟨hx, c1, c2, q⟩ hrej
          · omega
        rw [if_pos (by rw [h5, h30]; rfl), if_pos (by rw [h5, h30]; rfl)]
        exact ⟨rfl, rfl⟩
      · rw [if_neg c2, if_neg c2, if_neg c2]
        exact ⟨rfl, rfl⟩
    · rw [if_neg c1, if_neg c1, if_neg c1]
      exact ⟨rfl, rfl⟩
  rw [x_pipeR, m_pipe, m_pipeV]
  by_cases q1 : x = -1000000
  · rw [if_pos (Or.inl q1), if_pos q1, if_pos q1]
    exact core (Or.inl q1)
  · rw [if_neg q1, if_neg q1]
    by_cases q2 : inx nP x
    · rw [if_pos (Or.inr q2), if_pos q2, if_pos q2]
      exact core (Or.inr q2)
    · rw [if_neg (fun z => z.elim q1 q2), if_neg q2, if_neg q2]
      exact ⟨rfl, rfl⟩
theorem i_or0 (a : Int32) : a ||| 0 = a := by
  apply Int32.toBitVec_inj.mp
  rw [Int32.toBitVec_or]
  exact BitVec.or_zero
theorem e_pipeA {c nP nD : Nat} {U U' W : Mv} {K I : Mj} {R R' : Mr} (h : rl c nP nD U W K I R) (x lo la : Int32) (hlo : 0 ≤ lo ∧ lo ≤ 50) (hla : 0 ≤ la ∧ la ≤ 20) (hnP : nP < 30) (hU : ∀ k, k ≠ 100 + nP → k ≠ 1 → U' k = U k) (hU1 : U' 1 2 = nI nP + 1) (hR : ∀ k, ((100 ≤ k ∧ k < 100 + nP) ∨ (200 ≤ k ∧ k < 200 + nD)) → R' k = R k) (hn0 : U' (100 + nP) 0 = nI nP) (hn5 : U' (100 + nP) 5 = 0)
    (hx : (x = -1000000 ∧ R' (100 + nP) 1 = none ∧ U' (100 + nP) 2 = lo + 0 ∧ U' (100 + nP) 3 = la + 0 ∧ U' (100 + nP) 4 = ((1 : Int32) <<< (nI nP &&& 31)) ||| 0) ∨ (inx nP x ∧ R' (100 + nP) 1 = some (100 + x.toNatClampNeg) ∧ U' (100 + nP) 2 = lo + U (100 + x.toNatClampNeg) 2 ∧ U' (100 + nP) 3 = la + U (100 + x.toNatClampNeg) 3 ∧ U' (100 + nP) 4 = ((1 : Int32) <<< (nI nP &&& 31)) ||| U (100 + x.toNatClampNeg) 4)) :
    m_pipe W nP x lo la = nI nP ∧ rl c (nP + 1) nD U' (m_pipeV W nP x lo la) K I R' := by
  have h5 : W 1000 1 = nI nP := h.1.2.2.2.2.1
  have n30 : ¬ W 1000 1 = 30 := fun q => by
    rw [h5] at q
    have := (nI_eq (b := 30) (by omega) (by decide)).mp q
    omega
  have hxx : x = -1000000 ∨ inx nP x := hx.elim (fun q => Or.inl q.1) (fun q => Or.inr q.1)
  have e1 : m_pipe W nP x lo la = nI nP := by
    have hc : m_pcore W nP lo la = nI nP := by rw [m_pcore, if_pos hlo, if_pos hla, if_neg n30]
    rw [m_pipe]
    rcases hxx with q | q
    · rw [if_pos q, hc]
    · by_cases q1 : x = -1000000
      · rw [if_pos q1, hc]
      · rw [if_neg q1, if_pos q, hc]
  have e2 : m_pipeV W nP x lo la = u2 (u2 (u2 (u2 (u2 (u2 W 1000 0 0) 1002 nP x) 1003 nP lo) 1004 nP la) 1005 nP 0) 1000 1 (W 1000 1 + 1) := by
    have hc : m_pcoreV W nP x lo la = u2 (u2 (u2 (u2 (u2 (u2 W 1000 0 0) 1002 nP x) 1003 nP lo) 1004 nP la) 1005 nP 0) 1000 1 (W 1000 1 + 1) := by rw [m_pcoreV, if_pos hlo, if_pos hla, if_neg n30]
    rw [m_pipeV]
    rcases hxx with q | q
    · rw [if_pos q, hc]
    · by_cases q1 : x = -1000000
      · rw [if_pos q1, hc]
      · rw [if_neg q1, if_pos q, hc]
  refine ⟨e1, ?_⟩
  rw [e2]
  generalize hWe : u2 (u2 (u2 (u2 (u2 (u2 W 1000 0 0) 1002 nP x) 1003 nP lo) 1004 nP la) 1005 nP 0) 1000 1 (W 1000 1 + 1) = W'
  have w1 : W' 1000 1 = nI (nP + 1) := by rw [← hWe, u2_ss, h5, nI_1]
  have wj : ∀ j, j ≠ 0 → j ≠ 1 → W' 1000 j = W 1000 j := fun j j0 j1 => by rw [← hWe, u2_sn j1, u2_ne (by decide), u2_ne (by decide), u2_ne (by decide), u2_ne (by decide), u2_sn j0]
  have wk : ∀ k, 1006 ≤ k → W' k = W k := fun k hk => by rw [← hWe, u2_ne (by omega), u2_ne (by omega), u2_ne (by omega), u2_ne (by omega), u2_ne (by omega), u2_ne (by omega)]
  have p2 : W' 1002 nP = x := by rw [← hWe, u2_ne (by decide), u2_ne (by decide), u2_ne (by decide), u2_ne (by decide), u2_ss]
  have p3 : W' 1003 nP = lo := by rw [← hWe, u2_ne (by decide), u2_ne (by decide), u2_ne (by decide), u2_ss]
  have p4 : W' 1004 nP = la := by rw [← hWe, u2_ne (by decide), u2_ne (by decide), u2_ss]
  have p5 : W' 1005 nP = 0 := by rw [← hWe, u2_ne (by decide), u2_ss]
  have wi : ∀ k i, 1001 < k → i ≠ nP → W' k i = W k i := fun k i hk hi => by rw [← hWe, u2_ne (by omega), u2_un (by omega), u2_un (by omega), u2_un (by omega), u2_un (by omega), u2_ne (by omega)]
  clear hWe
  obtain ⟨⟨h1, h2, h3, h4, -, h6⟩, hP, hD, hZ, hG, hm, hf, hT, hB⟩ := h
  refine ⟨⟨by omega, h2, by rw [hU1, nI_1], by rw [hU 2 (by omega) (by omega)]; exact h4, w1, by rw [wj 7 (by decide) (by decide)]; exact h6⟩, ?_, ?_, ?_, ?_, ?_, ?_, ?_, ?_⟩
  · intro i hi
    by_cases hin : i = nP
    · subst hin
      refine ⟨hn0, by rw [hn5, p5], by rw [p3]; exact hlo, by rw [p4]; exact hla, by rw [p5]; decide, ?_⟩
      rcases hx with ⟨x1, x2, x3, x4, x5⟩ | ⟨x1, x2, x3, x4, x5⟩
      · exact Or.inl ⟨by rw [p2]; exact x1, x2, by rw [x3, p3, Int32.add_zero], by rw [x4, p4, Int32.add_zero], by rw [x5, i_or0]⟩
      · have hj := (inx_c x1).1
        refine Or.inr ⟨x.toNatClampNeg, hj, by rw [p2]; exact inx_e x1, x2, ?_, ?_, ?_⟩
        · rw [x3, p3, hU (100 + x.toNatClampNeg) (by omega) (by omega)]
        · rw [x4, p4, hU (100 + x.toNatClampNeg) (by omega) (by omega)]
        · rw [x5, hU (100 + x.toNatClampNeg) (by omega) (by omega)]
    · exact rpP_in (fun q hq => ⟨hU _ (by omega) (by omega), by rw [hR _ (by omega)]⟩) (wi _ _ (by decide) hin) (wi _ _ (by decide) hin) (wi _ _ (by decide) hin) (wi _ _ (by decide) hin) (hP i (by omega))
  · intro d hd
    rw [hR _ (by omega)]
    exact dlP_P (by omega) (dlP_ag (fun j => by rw [hU _ (by omega) (by omega)]) (fun k h7 h8 => by rw [wk _ (by omega)]) (hD d hd))
  · intro d h7 h8 k h9 h10
    rw [wk _ (by omega)]
    exact hZ d h7 h8 k h9 h10
  · exact rG_ag (fun j => by rw [hU _ (by omega) (by omega)]) (fun j h7 h8 => wj j (by omega) (by omega)) hG
  · rw [hU 0 (by omega) (by omega), mis_ag (W := W) (W' := W') (fun j => by rw [wk _ (by decide)])]
    exact hm
  · rw [hU 10 (by omega) (by omega), wj 33 (by decide) (by decide)]
    exact hf
  · exact rT_ag (by rw [hU _ (by omega) (by omega)]) (fun j => by rw [hU _ (by omega) (by omega)]) (wj _ (by decide) (by decide)) (fun j => by rw [wk _ (by decide)]) hT
  · exact rB_ag (by rw [hU _ (by omega) (by omega)]) (fun j => by rw [hU _ (by omega) (by omega)]) (wj _ (by decide) (by decide)) (fun j => by rw [wk _ (by decide)]) hB
theorem e_dialB {c nP nD : Nat} {U W : Mv} {K I : Mj} {R : Mr} (h : rl c nP nD U W K I R) (x lo la : Int32) (hrej : ¬ (inx nP x ∧ (1 ≤ lo ∧ lo ≤ 100) ∧ (0 ≤ la ∧ la ≤ 2) ∧ nD < 40)) : x_dialR nP x lo la = m_dial W nP nD x lo la ∧ m_dialV W nP nD x lo la = u2 W 1000 0 0 := by
  have hn := h.1.2.1
  have h6 : W 1000 7 = nI nD := h.1.2.2.2.2.2
  rw [x_dialR, m_dial, m_dialV]
  by_cases q : inx nP x
  · rw [if_pos q, if_pos q, if_pos q]
    by_cases c1 : 1 ≤ lo ∧ lo ≤ 100
    · rw [if_pos c1, if_pos c1, if_pos c1]
      by_cases c2 : 0 ≤ la ∧ la ≤ 2
      · rw [if_pos c2, if_pos c2, if_pos c2]
        have h40 : nD = 40 := by
          rcases Nat.lt_or_ge nD 40 with z | z
          · exact absurd ⟨q, c1, c2, z⟩ hrej
          · omega
        rw [if_pos (by rw [h6, h40]; rfl), if_pos (by rw [h6, h40]; rfl)]
        exact ⟨rfl, rfl⟩
      · rw [if_neg c2, if_neg c2, if_neg c2]
        exact ⟨rfl, rfl⟩
    · rw [if_neg c1, if_neg c1, if_neg c1]
      exact ⟨rfl, rfl⟩
  · rw [if_neg q, if_neg q, if_neg q]
    exact ⟨rfl, rfl⟩
theorem e_dialA {c nP nD : Nat} {U U' W : Mv} {K I : Mj} {R R' : Mr} (h : rl c nP nD U W K I R) (x lo la : Int32) (hx : inx nP x) (hlo : 1 ≤ lo ∧ lo ≤ 100) (hla : 0 ≤ la ∧ la ≤ 2) (hnD : nD < 40) (hU : ∀ k, k ≠ 200 + nD → k ≠ 2 → U' k = U k) (hU1 : U' 2 2 = nI nD + 1) (hR : ∀ k, ((100 ≤ k ∧ k < 100 + nP) ∨ (200 ≤ k ∧ k < 200 + nD)) → R' k = R k) (hRn : R' (200 + nD) 0 = some (100 + x.toNatClampNeg)) (hn1 : U' (200 + nD) 1 = lo) (hn2 : U' (200 + nD) 2 = la) (hnz : ∀ j, j ≠ 1 → j ≠ 2 → U' (200 + nD) j = 0) :
    m_dial W nP nD x lo la = nI nD ∧ rl c nP (nD + 1) U' (m_dialV W nP nD x lo la) K I R' := by
  have h6 : W 1000 7 = nI nD := h.1.2.2.2.2.2
  have n40 : ¬ W 1000 7 = 40 := fun q => by
    rw [h6] at q
    have := (nI_eq (b := 40) (by omega) (by decide)).mp q
    omega
  rw [m_dial, m_dialV, if_pos hx, if_pos hlo, if_pos hla, if_neg n40, if_pos hx, if_pos hlo, if_pos hla, if_neg n40]
  refine ⟨rfl, ?_⟩
  generalize hWe : u2 (u2 (u2 (u2 (u2 W 1000 0 0) 1008 nD x) 1009 nD lo) 1010 nD la) 1000 7 (W 1000 7 + 1) = W'
  have w7 : W' 1000 7 = nI (nD + 1) := by rw [← hWe, u2_ss, h6, nI_1]
  have wj : ∀ j, j ≠ 0 → j ≠ 7 → W' 1000 j = W 1000 j := fun j j0 j1 => by rw [← hWe, u2_sn j1, u2_ne (by decide), u2_ne (by decide), u2_ne (by decide), u2_sn j0]
  have wk : ∀ k, k ≠ 1000 → (k < 1008 ∨ 1010 < k) → W' k = W k := fun k h0 hk => by rw [← hWe, u2_ne h0, u2_ne (by omega), u2_ne (by omega), u2_ne (by omega), u2_ne h0]
  have p8 : W' 1008 nD = x := by rw [← hWe, u2_ne (by decide), u2_ne (by decide), u2_ne (by decide), u2_ss]
  have p9 : W' 1009 nD = lo := by rw [← hWe, u2_ne (by decide), u2_ne (by decide), u2_ss]
  have p10 : W' 1010 nD = la := by rw [← hWe, u2_ne (by decide), u2_ss]
  have wi : ∀ k i, k ≠ 1000 → i ≠ nD → W' k i = W k i := fun k i hk hi => by rw [← hWe, u2_ne hk, u2_un (by omega), u2_un (by omega), u2_un (by omega), u2_ne hk]
  clear hWe
  obtain ⟨⟨h1, h2, h3, h4, h5, -⟩, hP, hD, hZ, hG, hm, hf, hT, hB⟩ := h
  have z : ∀ k, 1011 ≤ k → k ≤ 1020 → W' k nD = 0 := fun k k1 k2 => by
    rw [wk k (by omega) (by omega)]
    exact hZ nD (Nat.le_refl _) hnD k k1 k2
  refine ⟨⟨h1, by omega, by rw [hU 1 (by omega) (by omega)]; exact h3, by rw [hU1, nI_1], by rw [wj 1 (by decide) (by decide)]; exact h5, w7⟩, ?_, ?_, ?_, ?_, ?_, ?_, ?_, ?_⟩
  · intro i hi
    exact rpP_in (fun q hq => ⟨hU _ (by omega) (by omega), by rw [hR _ (by omega)]⟩) (by rw [wk _ (by decide) (by decide)]) (by rw [wk _ (by decide) (by decide)]) (by rw [wk _ (by decide) (by decide)]) (by rw [wk _ (by decide) (by decide)]) (hP i hi)
  · intro d hd
    by_cases hdn : d = nD
    · subst hdn
      unfold dlP
      dsimp only
      rw [z 1011 (by decide) (by decide), z 1012 (by decide) (by decide), z 1013 (by decide) (by decide), z 1014 (by decide) (by decide), z 1015 (by decide) (by decide), z 1016 (by decide) (by decide), z 1017 (by decide) (by decide), z 1018 (by decide) (by decide), z 1019 (by decide) (by decide), z 1020 (by decide) (by decide), p8, p9, p10, hn1, hn2, hnz 3 (by decide) (by decide), hnz 4 (by decide) (by decide), hnz 5 (by decide) (by decide), hnz 6 (by decide) (by decide), hnz 7 (by decide) (by decide), hnz 8 (by decide) (by decide), hnz 9 (by decide) (by decide), hnz 10 (by decide) (by decide), hnz 11 (by decide) (by decide)]
      have zz : (0 : Int32).toInt = 0 := by decide
      have hr := i_rng (A := 0) (B := 2) (by decide) (by decide) hla
      refine ⟨⟨x.toNatClampNeg, (inx_c hx).1, hRn, inx_e hx⟩, ⟨rfl, hlo⟩, ⟨rfl, ?_⟩, ⟨rfl, by rw [zz]; omega, by rw [zz]; omega⟩, ⟨rfl, rfl, rfl⟩, ⟨rfl, Or.inl rfl⟩, Or.inl rfl, ⟨rfl, Or.inl rfl⟩, rfl⟩
      have e0 : (1 : Int32).toInt = 1 := by decide
      have e2 : (2 : Int32).toInt = 2 := by decide
      rcases (show la.toInt = 0 ∨ la.toInt = 1 ∨ la.toInt = 2 by omega) with q | q | q
      · exact Or.inl (Int32.toInt_inj.mp (by rw [zz]; exact q))
      · exact Or.inr (Or.inl (Int32.toInt_inj.mp (by rw [e0]; exact q)))
      · exact Or.inr (Or.inr (Int32.toInt_inj.mp (by rw [e2]; exact q)))
    · rw [hR _ (by omega)]
      exact dlP_ag (fun j => by rw [hU _ (by omega) (by omega)]) (fun k h7 h8 => wi k d (by omega) hdn) (hD d (by omega))
  · intro d h7 h8 k h9 h10
    rw [wk _ (by omega) (by omega)]
    exact hZ d (by omega) h8 k h9 h10
  · exact rG_ag (fun j => by rw [hU _ (by omega) (by omega)]) (fun j h7 h8 => wj j (by omega) (by omega)) hG
  · have z15 := z 1015 (by decide) (by decide)
    rw [hU 0 (by omega) (by omega), hm]
    have e : W' 1015 = W 1015 := wk 1015 (by decide) (by decide)
    rw [mis, mis, lpI_snoc, e, Nat.zero_add]
    rw [e] at z15
    rw [if_pos z15]
  · rw [hU 10 (by omega) (by omega), wj 33 (by decide) (by decide)]
    exact hf
  · exact rT_ag (by rw [hU _ (by omega) (by omega)]) (fun j => by rw [hU _ (by omega) (by omega)]) (wj _ (by decide) (by decide)) (fun j => by rw [wk _ (by decide) (by decide)]) hT
  · exact rB_ag (by rw [hU _ (by omega) (by omega)]) (fun j => by rw [hU _ (by omega) (by omega)]) (wj _ (by decide) (by decide)) (fun j => by rw [wk _ (by decide) (by decide)]) hB
