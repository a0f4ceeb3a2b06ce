theorem x_lk_ag {c nP nD : Nat} {U0 U U' W : Mv} {K I : Mj} {R : Mr} (h : rl c nP nD U0 W K I R) (e : ∀ q, q < nP → U' (100 + q) = U (100 + q)) : ∀ n i a, i < nP → x_lk U' R n (100 + i) a = x_lk U R n (100 + i) a
  | 0, _, _ => fun _ => rfl
  | n + 1, i, a => fun hi => by
    obtain ⟨-, -, -, -, -, hp⟩ := h.2.1 i hi
    rw [x_lk, x_lk, e i hi]
    rcases hp with ⟨-, p2, -⟩ | ⟨j, p0, -, p2, -⟩
    · rw [p2]
    · rw [p2]
      exact x_lk_ag h e n j _ (by omega)
theorem x_air_ag {c nP nD i : Nat} {U0 U U' W : Mv} {K I : Mj} {R : Mr} (h : rl c nP nD U0 W K I R) (e : ∀ q, q < nP → U' (100 + q) = U (100 + q)) (hi : i < nP) : x_air U' R i = x_air U R i := by
  rw [x_air, x_air, x_lk_ag h e _ _ _ hi, x_air0, x_air0, e i hi]
theorem e_puffL {c nP nD : Nat} {K I : Mj} {R : Mr} (hc : c ≤ 1000000) : ∀ n i (U W : Mv) a, i + n = nD → rl (c + 1) nP nD (u2 U 0 7 (mis W nD)) W K I R → (∀ q, q < nP → x_air U R q = W 1006 q) → (∀ d, i ≤ d → d < nD → -(60 * (c : Int)) ≤ (W 1011 d).toInt ∧ (W 1011 d).toInt ≤ 60 * (c : Int)) → a = lpI (fun i a => if W 1015 i = 0 then a else a + 1) i 0 0 →
    (x_puffL R n i U a).2 = (m_puffL n i W a).2 ∧ (m_puffL n i W a).2 = mis (m_puffL n i W a).1 nD ∧ rl (c + 1) nP nD (u2 (x_puffL R n i U a).1 0 7 (mis (m_puffL n i W a).1 nD)) (m_puffL n i W a).1 K I R
  | 0, i, U, W, a => fun hn h hair hb ha => by
    have e : i = nD := by omega
    subst e
    exact ⟨rfl, ha, h⟩
  | n + 1, i, U, W, a => fun hn h hair hb ha => by
    have hi : i < nD := by omega
    obtain ⟨⟨q, hq, hR, h8⟩, -⟩ := h.2.2.1 i hi
    have hq30 := h.1.1
    have h8' : W 1008 i = nI q := h8
    have hpl : x_pl R (200 + i) - 100 = q := by
      rw [x_pl, hR]
      show 100 + q - 100 = q
      omega
    obtain ⟨r1, r2, r3⟩ := e_st hc h hi (hb i (by omega) hi) (by omega) h8' (hair q hq)
    have ea : (if ¬ x_air U R q < U (200 + i) 1 then a else a + 1) = (if W 1009 i ≤ W 1006 (W 1008 i).toNatClampNeg then a + 0 else a + 1) := by
      by_cases hm : x_air U R q < U (200 + i) 1
      · rw [if_neg (fun e => e hm), if_neg (fun e => r3.mpr e hm)]
      · rw [if_pos hm, if_pos (r3.mp hm), Int32.add_zero]
    rw [x_puffL, m_puffL, hpl, ea]
    refine e_puffL hc n (i + 1) _ _ _ (by omega) r1 (fun q2 hq2 => ?_) (fun d h1 h2 => ?_) ?_
    · rw [m_st_ne (by omega), ← hair q2 hq2]
      exact x_air_ag h (fun q3 h3 => x_puff_ne (by omega)) hq2
    · rw [m_st_ne (by omega)]
      exact hb d (by omega) h2
    · rw [← ea, lpI_snoc, Nat.zero_add, r2]
      have hcg : lpI (fun i_1 a => if m_st W i 1015 i_1 = 0 then a else a + 1) i 0 0 = a := by
        rw [ha]
        exact lpI_cong (N := i) (fun d b hd => by rw [m_st_ne (by omega)]) i 0 0 (by omega)
      rw [hcg]
      by_cases hm : x_air U R q < U (200 + i) 1
      · have hm2 : ¬ ¬ x_air U R q < U (200 + i) 1 := fun e => e hm
        rw [if_neg hm2, if_neg hm2, if_neg (show ¬ (1 : Int32) = 0 by decide)]
      · rw [if_pos hm, if_pos hm, if_pos rfl]
