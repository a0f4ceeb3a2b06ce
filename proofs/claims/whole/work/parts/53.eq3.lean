theorem e_abs (x : Int32) : x_abs x = m_size x := by
  rw [x_abs, m_size, Int32.zero_sub]
theorem isk1 (k : Int32) : x_isk k 1 ↔ (k = 1 ∨ k = 2) := by
  constructor
  · intro h
    rcases h with h | h | h
    · exact Or.inl h
    · exact absurd h (by decide)
    · exact Or.inr h.1
  · intro h
    rcases h with h | h
    · exact Or.inl h
    · exact Or.inr (Or.inr ⟨h, rfl⟩)
theorem isk3 (k : Int32) : x_isk k 3 ↔ k = 3 := by
  constructor
  · intro h
    rcases h with h | h | h
    · exact h
    · exact absurd h (by decide)
    · exact absurd h.2 (by decide)
  · exact fun h => Or.inl h
theorem mc2 {W : Mv} {i : Nat} {a : Int32} : m_c1 W 2 i a = a + (if (if m_kind W i = 1 then (1 : Int32) else if m_kind W i = 2 then 1 else 0) = 0 then 0 else 1) := by
  rw [m_c1, if_neg (show ¬ (2 : Int32) = 6 by decide), m_isv, if_pos (show (2 : Int32) = 2 from rfl)]
theorem mc3 {W : Mv} {i : Nat} {a : Int32} : m_c1 W 3 i a = a + (if (if m_kind W i = 3 then (1 : Int32) else 0) = 0 then 0 else 1) := by
  rw [m_c1, if_neg (show ¬ (3 : Int32) = 6 by decide), m_isv, if_neg (show ¬ (3 : Int32) = 2 by decide), if_pos (show (3 : Int32) = 3 from rfl)]
theorem mc4 {W : Mv} {i : Nat} {a : Int32} : m_c1 W 4 i a = a + (if W 1015 i = 0 then 0 else 1) := by
  rw [m_c1, if_neg (show ¬ (4 : Int32) = 6 by decide), m_isv, if_neg (show ¬ (4 : Int32) = 2 by decide), if_neg (show ¬ (4 : Int32) = 3 by decide), if_pos (show (4 : Int32) = 4 from rfl)]
theorem mc5 {W : Mv} {i : Nat} {a : Int32} : m_c1 W 5 i a = a + (if (if W 1017 i ≤ 0 then (0 : Int32) else 1) = 0 then 0 else 1) := by
  rw [m_c1, if_neg (show ¬ (5 : Int32) = 6 by decide), m_isv, if_neg (show ¬ (5 : Int32) = 2 by decide), if_neg (show ¬ (5 : Int32) = 3 by decide), if_neg (show ¬ (5 : Int32) = 4 by decide)]
theorem e_count {c nP nD : Nat} {U W : Mv} {K I : Mj} {R : Mr} (h : rl c nP nD U W K I R) (x : Int32) : x_count U nD x = m_count W nD x := by
  have hz : ∀ q : Int32, 0 ≤ q ∧ q ≤ 7 → ¬ (0 ≤ x ∧ x ≤ 7) → ¬ x = q := fun q hq hv e => hv (e ▸ hq)
  rw [x_count, m_count]
  by_cases hv : 0 ≤ x ∧ x ≤ 7
  · rw [if_pos hv]
    by_cases c0 : x = 0
    · rw [if_pos c0, if_pos c0, h.1.2.2.1, h.1.2.2.2.2.1]
    · rw [if_neg c0, if_neg c0]
      by_cases c1 : x = 1
      · rw [if_pos c1, if_pos c1, h.1.2.2.2.1, h.1.2.2.2.2.2]
      · rw [if_neg c1, if_neg c1]
        by_cases c7 : x = 7
        · subst c7
          obtain ⟨L, hL, a1, a2, a3⟩ := h.2.2.2.2.2.2.2.1
          rw [if_neg (by decide), if_neg (by decide), if_neg (by decide), if_neg (by decide), if_neg (by decide), if_pos rfl, if_pos rfl, a1, a2]
        · rw [if_neg c7, if_neg c7]
          by_cases c2 : x = 2
          · subst c2
            rw [if_pos rfl]
            refine lpI_cong (N := nD) (fun i a hi => ?_) nD 0 0 (by omega)
            have hk := (dl_kind (h.2.2.1 i hi)).1
            rw [hk, mc2]
            by_cases k1 : m_kind W i = 1
            · rw [if_pos ((isk1 _).mpr (Or.inl k1)), if_pos k1, if_neg (show ¬ (1 : Int32) = 0 by decide)]
            · by_cases k2 : m_kind W i = 2
              · rw [if_pos ((isk1 _).mpr (Or.inr k2)), if_neg k1, if_pos k2, if_neg (show ¬ (1 : Int32) = 0 by decide)]
              · rw [if_neg (fun e => ((isk1 _).mp e).elim k1 k2), if_neg k1, if_neg k2, if_pos rfl, Int32.add_zero]
          · rw [if_neg c2]
            by_cases c3 : x = 3
            · subst c3
              rw [if_pos rfl]
              refine lpI_cong (N := nD) (fun i a hi => ?_) nD 0 0 (by omega)
              have hk := (dl_kind (h.2.2.1 i hi)).1
              rw [hk, mc3]
              by_cases k1 : m_kind W i = 3
              · rw [if_pos ((isk3 _).mpr k1), if_pos k1, if_neg (show ¬ (1 : Int32) = 0 by decide)]
              · rw [if_neg (fun e => k1 ((isk3 _).mp e)), if_neg k1, if_pos rfl, Int32.add_zero]
            · rw [if_neg c3]
              by_cases c4 : x = 4
              · subst c4
                rw [if_pos rfl, h.2.2.2.2.2.1, mis]
                refine lpI_cong (N := nD) (fun i a hi => ?_) nD 0 0 (by omega)
                rw [mc4]
                by_cases k1 : W 1015 i = 0
                · rw [if_pos k1, if_pos k1, Int32.add_zero]
                · rw [if_neg k1, if_neg k1]
              · rw [if_neg c4]
                by_cases c5 : x = 5
                · subst c5
                  rw [if_pos rfl]
                  refine lpI_cong (N := nD) (fun i a hi => ?_) nD 0 0 (by omega)
                  obtain ⟨-, -, -, -, -, -, -, ⟨h8, hk⟩, -⟩ := h.2.2.1 i hi
                  have h8' : U (200 + i) 8 = W 1017 i := h8
                  rw [h8', mc5]
                  have hk' : W 1017 i = 0 ∨ W 1017 i = 1 ∨ W 1017 i = 2 ∨ W 1017 i = 3 := by
                    rcases hk with e | e | e | e
                    · exact Or.inl e
                    · exact Or.inr (Or.inl e.1)
                    · exact Or.inr (Or.inr (Or.inl e.1))
                    · exact Or.inr (Or.inr (Or.inr e.1))
                  rcases hk' with e | e | e | e
                  · rw [e, if_pos rfl, if_pos (show (0 : Int32) ≤ 0 by decide), if_pos rfl, Int32.add_zero]
                  · rw [e, if_neg (show ¬ (1 : Int32) = 0 by decide), if_neg (show ¬ (1 : Int32) ≤ 0 by decide), if_neg (show ¬ (1 : Int32) = 0 by decide)]
                  · rw [e, if_neg (show ¬ (2 : Int32) = 0 by decide), if_neg (show ¬ (2 : Int32) ≤ 0 by decide), if_neg (show ¬ (1 : Int32) = 0 by decide)]
                  · rw [e, if_neg (show ¬ (3 : Int32) = 0 by decide), if_neg (show ¬ (3 : Int32) ≤ 0 by decide), if_neg (show ¬ (1 : Int32) = 0 by decide)]
                · rw [if_neg c5]
                  have c6 : x = 6 := by
                    have h1 := Int32.le_iff_toInt_le.mp hv.1
                    have h2 := Int32.le_iff_toInt_le.mp hv.2
                    have e1 : (0 : Int32).toInt = 0 := by decide
                    have e2 : (7 : Int32).toInt = 7 := by decide
                    have e6 : (6 : Int32).toInt = 6 := by decide
                    have k0 := i32_neL c0 (k := 0) (by decide)
                    have k1 := i32_neL c1 (k := 1) (by decide)
                    have k2 := i32_neL c2 (k := 2) (by decide)
                    have k3 := i32_neL c3 (k := 3) (by decide)
                    have k4 := i32_neL c4 (k := 4) (by decide)
                    have k5 := i32_neL c5 (k := 5) (by decide)
                    have k7 := i32_neL c7 (k := 7) (by decide)
                    exact Int32.toInt_inj.mp (by rw [e6]; omega)
                  rw [if_pos c6]
                  refine lpI_cong (N := nD) (fun i a hi => ?_) nD 0 0 (by omega)
                  have h3 : U (200 + i) 3 = W 1011 i := (h.2.2.1 i hi).2.2.2.1.1
                  rw [m_c1, if_pos c6, h3, e_abs]
  · rw [if_neg hv, if_neg (hz 0 (by decide) hv), if_neg (hz 1 (by decide) hv), if_neg (hz 2 (by decide) hv), if_neg (hz 3 (by decide) hv), if_neg (hz 4 (by decide) hv), if_neg (hz 5 (by decide) hv), if_neg (hz 6 (by decide) hv), if_neg (hz 7 (by decide) hv)]
theorem rl_tr {c nP nD : Nat} {U U' W W' : Mv} {K I : Mj} {R : Mr} (hU : ∀ k j, k ≠ 14 → k ≠ 15 → U' k j = U k j) (hW : ∀ k j, ¬ (k = 1000 ∧ (j = 0 ∨ j = 47)) → k ≠ 1046 → W' k j = W k j) (hB : rB U' W') (h : rl c nP nD U W K I R) : rl c nP nD U' W' K I R := by
  obtain ⟨⟨h1, h2, h3, h4, h5, h6⟩, hP, hD, hZ, hG, hm, hf, hT, -⟩ := h
  refine ⟨⟨h1, h2, by rw [hU 1 2 (by decide) (by decide)]; exact h3, by rw [hU 2 2 (by decide) (by decide)]; exact h4, by rw [hW 1000 1 (by decide) (by decide)]; exact h5, by rw [hW 1000 7 (by decide) (by decide)]; exact h6⟩, ?_, ?_, ?_, ?_, ?_, ?_, ?_, hB⟩
  · intro i hi
    exact rpP_ag (by omega) (fun q hq j => hU _ _ (by omega) (by omega)) (hW _ _ (by omega) (by omega)) (hW _ _ (by omega) (by omega)) (hW _ _ (by omega) (by omega)) (hW _ _ (by omega) (by omega)) (hP i hi)
  · intro d hd
    exact dlP_ag (fun j => hU _ _ (by omega) (by omega)) (fun k h7 h8 => hW _ _ (by omega) (by omega)) (hD d hd)
  · intro d h7 h8 k h9 h10
    rw [hW _ _ (by omega) (by omega)]
    exact hZ d h7 h8 k h9 h10
  · exact rG_ag (fun j => hU _ _ (by decide) (by decide)) (fun j h7 h8 => hW _ _ (by omega) (by decide)) hG
  · rw [hU 0 7 (by decide) (by decide), mis_ag (W := W) (W' := W') (fun j => hW _ _ (by omega) (by decide))]
    exact hm
  · rw [hU 10 5 (by decide) (by decide), hW 1000 33 (by decide) (by decide)]
    exact hf
  · exact rT_ag (hU _ _ (by decide) (by decide)) (fun j => hU _ _ (by decide) (by decide)) (hW _ _ (by decide) (by decide)) (fun j => hW _ _ (by omega) (by decide)) hT
theorem e_bg {c nP nD : Nat} {U W : Mv} {K I : Mj} {R : Mr} {a : Int32} (h : rl c nP nD U W K I R) : rl c nP nD (x_beg U a) (m_bg W a) K I R := by
  obtain ⟨n, hn, h1, h2, h3⟩ := h.2.2.2.2.2.2.2.2
  rw [x_beg, m_bg]
  by_cases hc : n < 16
  · have hc1 : ¬ 16 ≤ U 14 1 := by rw [h1]; exact nI_ge (b := 16) hc (by decide)
    have hc2 : ¬ 16 ≤ W 1000 47 := by rw [h2]; exact nI_ge (b := 16) hc (by decide)
    rw [if_neg hc1, if_neg hc2, h1, h2, nI_clamp (by omega)]
    refine rl_tr (fun k j k1 k2 => by rw [u2_ne k1, u2_ne k2]) (fun k j k1 k2 => by rw [u2_un (by omega), u2_ne k2]) ⟨n + 1, by omega, by rw [u2_ss, nI_1], by rw [u2_ss, nI_1], fun t ht => ?_⟩ h
    rw [u2_ne (show (15 : Nat) ≠ 14 by decide), u2_ne (show (1046 : Nat) ≠ 1000 by decide)]
    by_cases hnt : t = n
    · subst hnt
      rw [u2_ss, u2_ss]
    · rw [u2_sn hnt, u2_sn hnt]
      exact h3 t (by omega)
  · have e16 : n = 16 := by omega
    subst e16
    rw [if_pos (by rw [h1]; decide), if_pos (by rw [h2]; decide)]
    exact h
theorem e_w {c nP nD t : Nat} {U W : Mv} {K I : Mj} {R : Mr} (h : rl c nP nD U W K I R) (ht : t < nD) : x_w U t = m_w W t ∧ rl c nP nD (x_wV U t) (m_wV W t) K I R := by
  have hd := h.2.2.1 t ht
  have hk := dl_kind hd
  have hl : U (200 + t) 3 = W 1011 t := hd.2.2.2.1.1
  rw [x_w, m_w, x_wV, m_wV, hk.1, hl]
  rcases hk.2 with e | e | e | e
  · rw [e, if_neg (by decide), if_neg (by decide), if_neg (by decide), if_neg (by decide), if_neg (by decide), if_neg (by decide), if_neg (by decide), if_neg (by decide), if_neg (by decide), if_neg (by decide), if_neg (by decide), if_neg (by decide)]
    exact ⟨rfl, e_bg h⟩
  · simp only [e, show ¬ (1 : Int32) = 3 by decide, show ¬ (1 : Int32) = 2 by decide, if_true, if_false]
    exact ⟨trivial, e_bg (e_bg h)⟩
  · simp only [e, show ¬ (2 : Int32) = 3 by decide, show ¬ (2 : Int32) = 1 by decide, if_true, if_false]
    exact ⟨trivial, e_bg (e_bg (e_bg h))⟩
  · simp only [e, show ¬ (3 : Int32) = 2 by decide, show ¬ (3 : Int32) = 1 by decide, if_true, if_false]
    exact ⟨trivial, e_bg (e_bg h)⟩
theorem e_m {c nP nD t : Nat} {U W : Mv} {K I : Mj} {R : Mr} (h : rl c nP nD U W K I R) (ht : t < nD) : x_m U t = m_mk W t ∧ rl c nP nD (x_mV U t) (m_mkV W t) K I R := by
  have hd := h.2.2.1 t ht
  have hk := dl_kind hd
  have hl : U (200 + t) 1 = W 1009 t := hd.2.1.1
  have hw := e_w (e_bg (a := 20) (e_bg (a := 21) h)) ht
  rw [x_m, m_mk, x_mV, m_mkV, hk.1, hl]
  rcases hk.2 with e | e | e | e
  · simp only [e, show ¬ (0 : Int32) = 3 by decide, show ¬ (0 : Int32) = 2 by decide, show ¬ (0 : Int32) = 1 by decide, if_false, Int32.add_zero]
    exact ⟨trivial, e_bg h⟩
  · simp only [e, show ¬ (1 : Int32) = 3 by decide, show ¬ (1 : Int32) = 2 by decide, if_true, if_false, hw.1]
    exact ⟨trivial, hw.2⟩
  · simp only [e, show ¬ (2 : Int32) = 3 by decide, show ¬ (2 : Int32) = 1 by decide, if_true, if_false, hw.1]
    exact ⟨trivial, hw.2⟩
  · simp only [e, show ¬ (3 : Int32) = 2 by decide, show ¬ (3 : Int32) = 1 by decide, if_true, if_false]
    exact ⟨trivial, e_bg (e_bg h)⟩
theorem rl_ask0 {c nP nD : Nat} {U W : Mv} {K I : Mj} {R : Mr} (h : rl c nP nD U W K I R) : rl c nP nD (u2 U 14 1 0) (u2 (u2 W 1000 0 0) 1000 47 0) K I R :=
  rl_tr (fun k j k1 _ => by rw [u2_ne k1]) (fun k j k1 _ => by rw [u2_un (by omega), u2_un (by omega)]) ⟨0, by decide, by rw [u2_ss]; decide, by rw [u2_ss]; decide, fun t ht => absurd ht (by omega)⟩ h
theorem e_ask {c nP nD : Nat} {U W : Mv} {K I : Mj} {R : Mr} (h : rl c nP nD U W K I R) (x v : Int32) : x_ask U nD x v = m_ask W nD x v ∧ rl c nP nD (x_askV U nD x v) (m_askV W nD x v) K I R := by
  rw [x_ask, m_ask, x_askV, m_askV]
  by_cases hx : inx nD x
  · rw [if_pos hx, if_pos hx, if_pos hx, if_pos hx]
    by_cases hv : 0 ≤ v ∧ v ≤ 1
    · rw [if_pos hv, if_pos hv, if_pos hv, if_pos hv]
      by_cases h0 : v = 0
      · rw [if_pos h0, if_pos h0, if_pos h0, if_pos h0]
        exact e_w (rl_ask0 h) (inx_c hx).1
      · rw [if_neg h0, if_neg h0, if_neg h0, if_neg h0]
        exact e_m (rl_ask0 h) (inx_c hx).1
    · rw [if_neg hv, if_neg hv, if_neg hv, if_neg hv]
      exact ⟨rfl, rl_0 h⟩
  · rw [if_neg hx, if_neg hx, if_neg hx, if_neg hx]
    exact ⟨rfl, rl_0 h⟩
