theorem e_sight {c nP nD : Nat} {U W : Mv} {K I : Mj} {R : Mr} (h : rl c nP nD U W K I R) : K 3 2 = I 1000 23 ∧ rl c nP nD (u2 U 3 3 (U 3 3 + 1)) (u2 (u2 (u2 W 1000 0 0) 1000 24 (W 1000 21)) 1000 25 (W 1000 25 + 1)) (u2 (u2 K 3 2 0) 3 4 0) (u2 I 1000 23 0) R := by
  obtain ⟨g1, g2, g3, g4, g5, g6, g7⟩ := h.2.2.2.2.1
  refine ⟨g6, rl_glob (fun k j hk => by rw [u2_ne hk]) (fun k j hk => by rw [u2_un (by omega), u2_un (by omega), u2_un (by omega)]) ?_ h⟩
  have w21 : u2 (u2 (u2 W 1000 0 0) 1000 24 (W 1000 21)) 1000 25 (W 1000 25 + 1) 1000 21 = W 1000 21 := by rw [u2_sn (by decide), u2_sn (by decide), u2_sn (by decide)]
  have w22 : u2 (u2 (u2 W 1000 0 0) 1000 24 (W 1000 21)) 1000 25 (W 1000 25 + 1) 1000 22 = W 1000 22 := by rw [u2_sn (by decide), u2_sn (by decide), u2_sn (by decide)]
  have w24 : u2 (u2 (u2 W 1000 0 0) 1000 24 (W 1000 21)) 1000 25 (W 1000 25 + 1) 1000 24 = W 1000 21 := by rw [u2_sn (by decide), u2_ss]
  unfold rG
  rw [w21, w22, w24, u2_sn (by decide), u2_sn (by decide), u2_ss, u2_ss, u2_sn (by decide), u2_ss, u2_ss, u2_ss, Int32.sub_self]
  exact ⟨g1, g2, ⟨g2.1, Int32.le_refl _⟩, g4, by rw [g5], rfl, by decide⟩
theorem e_leak {c nP nD : Nat} {U W : Mv} {K I : Mj} {R : Mr} (h : rl c nP nD U W K I R) (x v : Int32) : x_leak U nP x v = m_leak W nP x v ∧ rl c nP nD (x_leakV U nP x v) (m_leakV W nP x v) K I R := by
  rw [x_leak, m_leak, x_leakV, m_leakV]
  by_cases hx : inx nP x
  · rw [if_pos hx, if_pos hx, if_pos hx, if_pos hx]
    by_cases hv : 0 ≤ v ∧ v ≤ 60
    · rw [if_pos hv, if_pos hv, if_pos hv, if_pos hv]
      have htn := (inx_c hx).1
      generalize x.toNatClampNeg = t at htn ⊢
      refine ⟨(h.2.1 t htn).2.1, ?_⟩
      obtain ⟨⟨h1, h2, h3, h4, h5, h6⟩, hP, hD, hZ, hG, hm, hf, hT, hB⟩ := rl_0 (x := 0) h
      have hU : ∀ k j, ¬ (k = 100 + t ∧ j = 5) → u2 U (100 + t) 5 v k j = U k j := fun k j hk => u2_un hk
      have hW : ∀ k j, k ≠ 1005 → u2 (u2 W 1000 0 0) 1005 t v k j = u2 W 1000 0 0 k j := fun k j hk => by rw [u2_ne hk]
      refine ⟨⟨h1, h2, by rw [hU _ _ (by omega)]; exact h3, by rw [hU _ _ (by omega)]; exact h4, by rw [hW _ _ (by omega)]; exact h5, by rw [hW _ _ (by omega)]; exact h6⟩, ?_, ?_, ?_, ?_, ?_, ?_, ?_, ?_⟩
      · intro i hi
        obtain ⟨p0, p5, p3, p4, p6, hp⟩ := hP i hi
        have e : ∀ q j, j ≠ 5 → u2 U (100 + t) 5 v (100 + q) j = U (100 + q) j := fun q j hj => hU _ _ (by omega)
        have f := fun k (hk : k ≠ 1005) => hW k i hk
        unfold rpP
        rw [e i 0 (by decide), e i 2 (by decide), e i 3 (by decide), e i 4 (by decide), f 1002 (by decide), f 1003 (by decide), f 1004 (by decide)]
        refine ⟨p0, ?_, p3, p4, ?_, ?_⟩
        · by_cases hit : i = t
          · subst hit
            rw [u2_ss, u2_ss]
          · rw [hU _ _ (by omega), u2_sn hit]
            exact p5
        · by_cases hit : i = t
          · subst hit
            rw [u2_ss]
            exact hv
          · rw [u2_sn hit]
            exact p6
        · rcases hp with hp | ⟨j, q0, q1, q2, q3, q4, q5⟩
          · exact Or.inl hp
          · exact Or.inr ⟨j, q0, q1, q2, by rw [e j 2 (by decide)]; exact q3, by rw [e j 3 (by decide)]; exact q4, by rw [e j 4 (by decide)]; exact q5⟩
      · intro d hd
        exact dlP_ag (fun j => hU _ _ (by omega)) (fun k h7 h8 => hW _ _ (by omega)) (hD d hd)
      · intro d h7 h8 k h9 h10
        rw [hW _ _ (by omega)]
        exact hZ d h7 h8 k h9 h10
      · exact rG_ag (fun j => hU _ _ (by omega)) (fun j h7 h8 => hW _ _ (by omega)) hG
      · rw [hU 0 7 (by omega), mis_ag (W := u2 W 1000 0 0) (fun j => hW _ _ (by omega))]
        exact hm
      · rw [hU 10 5 (by omega), hW 1000 33 (by decide)]
        exact hf
      · exact rT_ag (hU _ _ (by omega)) (fun j => hU _ _ (by omega)) (hW _ _ (by decide)) (fun j => hW _ _ (by omega)) hT
      · exact rB_ag (hU _ _ (by omega)) (fun j => hU _ _ (by omega)) (hW _ _ (by decide)) (fun j => hW _ _ (by omega)) hB
    · rw [if_neg hv, if_neg hv, if_neg hv, if_neg hv]
      exact ⟨rfl, rl_0 h⟩
  · rw [if_neg hx, if_neg hx, if_neg hx, if_neg hx]
    exact ⟨rfl, rl_0 h⟩
theorem lpI_cong {f g : Nat → Int32 → Int32} {N : Nat} (h : ∀ i a, i < N → f i a = g i a) : ∀ n i a, i + n ≤ N → lpI f n i a = lpI g n i a
  | 0, _, _ => fun _ => rfl
  | n + 1, i, a => fun hn => by
    rw [lpI, lpI, h i a (by omega)]
    exact lpI_cong h n (i + 1) _ (by omega)
theorem e_mark1 {c nP nD t : Nat} {U W : Mv} {K I : Mj} {R : Mr} {y : Int32} (hy : y = 0 ∨ y = 1) (h : rl c nP nD U W K I R) (ht : t < nD) : rl c nP nD (u2 U (200 + t) 7 y) (u2 W 1016 t y) K I R := by
  have hd := h.2.2.1 t ht
  refine rl_dial ht (fun k hk => by rw [u2_ne hk]) (fun k j hk => by rw [u2_un (by omega)]) (by rw [u2_ne (by decide)]) ?_ h
  obtain ⟨d1, d2, d3, d4, d5, d6, d7, d8, d9⟩ := hd
  have ea : ∀ j, j ≠ 7 → u2 U (200 + t) 7 y (200 + t) j = U (200 + t) j := fun j hj => u2_sn hj
  have eb : ∀ k, k ≠ 1016 → u2 W 1016 t y k t = W k t := fun k hk => by rw [u2_ne hk]
  unfold dlP
  rw [ea 1 (by decide), ea 2 (by decide), ea 3 (by decide), ea 4 (by decide), ea 5 (by decide), ea 6 (by decide), ea 8 (by decide), ea 9 (by decide), ea 10 (by decide), ea 11 (by decide)]
  show _ ∧ (_ = u2 W 1016 t y 1009 t ∧ _) ∧ _
  rw [eb 1009 (by decide)]
  refine ⟨?_, ⟨d2.1, ?_⟩, ?_, ?_, ?_, ?_, ?_, ?_, ?_⟩
  · show ∃ i, i < nP ∧ _ ∧ u2 W 1016 t y 1008 t = nI i
    rw [eb 1008 (by decide)]
    exact d1
  · exact d2.2
  · show _ = u2 W 1016 t y 1010 t ∧ (u2 W 1016 t y 1010 t = 0 ∨ u2 W 1016 t y 1010 t = 1 ∨ u2 W 1016 t y 1010 t = 2)
    rw [eb 1010 (by decide)]
    exact d3
  · show _ = u2 W 1016 t y 1011 t ∧ _ ≤ Int32.toInt (u2 W 1016 t y 1011 t) ∧ Int32.toInt (u2 W 1016 t y 1011 t) ≤ _
    rw [eb 1011 (by decide)]
    exact d4
  · show _ = u2 W 1016 t y 1013 t ∧ _ = u2 W 1016 t y 1014 t ∧ _ = u2 W 1016 t y 1012 t
    rw [eb 1012 (by decide), eb 1013 (by decide), eb 1014 (by decide)]
    exact d5
  · show u2 U (200 + t) 7 y (200 + t) 7 = u2 W 1016 t y 1016 t ∧ (u2 W 1016 t y 1016 t = 0 ∨ u2 W 1016 t y 1016 t = 1)
    rw [u2_ss, u2_ss]
    exact ⟨rfl, hy⟩
  · show u2 W 1016 t y 1015 t = 0 ∨ u2 W 1016 t y 1015 t = 1
    rw [eb 1015 (by decide)]
    exact d7
  · show _ = u2 W 1016 t y 1017 t ∧ (u2 W 1016 t y 1017 t = 0 ∨ (u2 W 1016 t y 1017 t = 1 ∧ _ = u2 W 1016 t y 1018 t) ∨ (u2 W 1016 t y 1017 t = 2 ∧ _ = u2 W 1016 t y 1018 t) ∨ (u2 W 1016 t y 1017 t = 3 ∧ _ = u2 W 1016 t y 1018 t ∧ _ = u2 W 1016 t y 1019 t))
    rw [eb 1017 (by decide), eb 1018 (by decide), eb 1019 (by decide)]
    exact d8
  · show _ = u2 W 1016 t y 1020 t
    rw [eb 1020 (by decide)]
    exact d9
theorem e_mark {c nP nD : Nat} {U W : Mv} {K I : Mj} {R : Mr} (h : rl c nP nD U W K I R) (x v : Int32) : x_mark U nD x v = m_mark W nD x v ∧ rl c nP nD (x_markV U nD x v) (m_markV W nD x v) K I R := by
  have hr : rl c nP nD (x_markV U nD x v) (m_markV W nD x v) K I R := by
    rw [x_markV, m_markV]
    by_cases hx : inx nD x
    · rw [if_pos hx, if_pos hx]
      by_cases hv : 0 ≤ v ∧ v ≤ 1
      · rw [if_pos hv, if_pos hv]
        exact e_mark1 (by split; exact Or.inr rfl; exact Or.inl rfl) (rl_0 h) (inx_c hx).1
      · rw [if_neg hv, if_neg hv]
        exact rl_0 h
    · rw [if_neg hx, if_neg hx]
      exact rl_0 h
  refine ⟨?_, hr⟩
  rw [x_mark, m_mark]
  by_cases hx : inx nD x
  · rw [if_pos hx, if_pos hx]
    by_cases hv : 0 ≤ v ∧ v ≤ 1
    · rw [if_pos hv, if_pos hv]
      refine lpI_cong (N := nD) (fun i a hi => ?_) nD 0 0 (by omega)
      have hd : x_markV U nD x v (200 + i) 7 = m_markV W nD x v 1016 i := (hr.2.2.1 i hi).2.2.2.2.2.1.1
      rw [hd, Int32.add_zero]
    · rw [if_neg hv, if_neg hv]
  · rw [if_neg hx, if_neg hx]
