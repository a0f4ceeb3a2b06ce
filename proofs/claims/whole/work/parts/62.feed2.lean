theorem rl_tape {c nP nD : Nat} {U U' W W' : Mv} {K I : Mj} {R : Mr} (hU : ∀ k j, k ≠ 9 → ¬ (k = 8 ∧ j = 1) → U' k j = U k j) (hW : ∀ k j, ¬ (k = 1000 ∧ (j = 0 ∨ j = 32)) → k ≠ 1031 → W' k j = W k j) (hT : rT U' W') (h : rl c nP nD U W K I R) : rl c nP nD U' W' K I R := by
  obtain ⟨⟨h1, h2, h3, h4, h5, h6⟩, hP, hD, hZ, hG, hm, hf, -, hB⟩ := h
  refine ⟨⟨h1, h2, by rw [hU 1 2 (by decide) (by decide)]; exact h3, by rw [hU 2 2 (by decide) (by decide)]; exact h4, by rw [hW 1000 1 (by decide) (by decide)]; exact h5, by rw [hW 1000 7 (by decide) (by decide)]; exact h6⟩, ?_, ?_, ?_, ?_, ?_, ?_, hT, ?_⟩
  · intro i hi
    exact rpP_ag (by omega) (fun q hq j => hU _ _ (by omega) (by omega)) (hW _ _ (by omega) (by omega)) (hW _ _ (by omega) (by omega)) (hW _ _ (by omega) (by omega)) (hW _ _ (by omega) (by omega)) (hP i hi)
  · intro d hd
    exact dlP_ag (fun j => hU _ _ (by omega) (by omega)) (fun k h7 h8 => hW _ _ (by omega) (by omega)) (hD d hd)
  · intro d h7 h8 k h9 h10
    rw [hW _ _ (by omega) (by omega)]
    exact hZ d h7 h8 k h9 h10
  · exact rG_ag (fun j => hU _ _ (by decide) (by omega)) (fun j h7 h8 => hW _ _ (by omega) (by decide)) hG
  · rw [hU 0 7 (by decide) (by decide), mis_ag (W := W) (W' := W') (fun j => hW _ _ (by omega) (by decide))]
    exact hm
  · rw [hU 10 5 (by decide) (by decide), hW 1000 33 (by decide) (by decide)]
    exact hf
  · exact rB_ag (hU _ _ (by decide) (by decide)) (fun j => hU _ _ (by decide) (by omega)) (hW _ _ (by decide) (by decide)) (fun j => hW _ _ (by omega) (by decide)) hB
theorem e_app {c nP nD : Nat} {K I : Mj} {R : Mr} {w : Int64} : ∀ n t (U W : Mv), n ≤ 8 → t + n ≤ 300 → rl c nP nD U W K I R → U 8 1 = nI t → W 1000 32 = nI t → rl c nP nD (x_app w n t U) (m_app w n t W) K I R ∧ x_app w n t U 8 1 = nI (t + n) ∧ m_app w n t W 1000 32 = nI (t + n)
  | 0, t, U, W => fun _ _ h h1 h2 => ⟨h, h1, h2⟩
  | n + 1, t, U, W => fun hn ht h h1 h2 => by
    rw [x_app, m_app, show t + (n + 1) = t + 1 + n by omega, nI_1]
    refine e_app n (t + 1) _ _ (by omega) (by omega) (rl_tape (fun k j k1 k2 => by rw [u2_un k2, u2_ne k1]) (fun k j k1 k2 => by rw [u2_un (by omega), u2_ne k2]) ?_ h) u2_ss u2_ss
    obtain ⟨L, hL, a1, a2, a3⟩ := h.2.2.2.2.2.2.2.1
    have e : L = t := (nI_eq (by omega) (by omega)).mp (by rw [← a1, h1])
    subst e
    refine ⟨L + 1, by omega, u2_ss, u2_ss, fun q hq => ?_⟩
    rw [u2_ne (show (1031 : Nat) ≠ 1000 by decide), u2_ne (show (9 : Nat) ≠ 8 by decide)]
    by_cases hqL : q = L
    · subst hqL
      rw [u2_ss, u2_ss]
      exact ⟨by_inx _, by rw [nar_b, by_eq w n (by omega)]⟩
    · rw [u2_sn hqL, u2_sn hqL]
      exact a3 q (by omega)
theorem e_feed {c nP nD L : Nat} {U W : Mv} {K I : Mj} {R : Mr} (h : rl c nP nD U W K I R) (hL : U 8 1 = nI L) (hL3 : L ≤ 300) (n : Int32) (w : Int64) : W 1000 32 = nI L ∧ x_feed U n w L = m_feed W n w L ∧ rl c nP nD (x_feedV U n w L) (m_feedV W n w L) K I R := by
  have hW : W 1000 32 = nI L := by
    obtain ⟨L2, h2, a1, a2, -⟩ := h.2.2.2.2.2.2.2.1
    rw [a2, ← a1, hL]
  refine ⟨hW, ?_⟩
  rw [x_feed, m_feed, x_feedV, m_feedV]
  by_cases hn : 1 ≤ n ∧ n ≤ 8
  · have hr := i_rng (A := 1) (B := 8) (by decide) (by decide) hn
    have hx : inx 9 n := ⟨by omega, by show _ < (9 : Int); omega⟩
    have hN := (inx_c hx).1
    have he := inx_e hx
    rw [if_pos hn, if_pos hn, if_pos hn, if_pos hn, hL, hW]
    by_cases hle : nI L + n ≤ 300
    · have hl2 : L + n.toNatClampNeg ≤ 300 := by
        have h9 := hle
        rw [he, nI_add] at h9
        exact (nI_leI (b := 300) (by omega) (by decide)).mp h9
      rw [if_pos hle, if_pos hle, if_pos hle, if_pos hle]
      have r := e_app (w := w) n.toNatClampNeg L U (u2 W 1000 0 0) (by omega) hl2 (rl_0 h) hL (by rw [u2_sn (by decide)]; exact hW)
      exact ⟨by rw [r.2.1, r.2.2], r.1⟩
    · rw [if_neg hle, if_neg hle, if_neg hle, if_neg hle]
      exact ⟨rfl, rl_0 h⟩
  · rw [if_neg hn, if_neg hn, if_neg hn, if_neg hn]
    exact ⟨rfl, rl_0 h⟩
