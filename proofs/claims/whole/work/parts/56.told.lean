theorem i_rng {x : Int32} {a b : Int32} {A B : Int} (ha : a.toInt = A) (hb : b.toInt = B) (h : a ≤ x ∧ x ≤ b) : A ≤ x.toInt ∧ x.toInt ≤ B := by
  have h1 := Int32.le_iff_toInt_le.mp h.1
  have h2 := Int32.le_iff_toInt_le.mp h.2
  omega
theorem rl_way {c nP nD : Nat} {U W : Mv} {K I : Mj} {R : Mr} (h : rl c nP nD U W K I R) : wayOk W nP := fun i hi => by
  obtain ⟨-, -, -, -, -, hp⟩ := h.2.1 i hi
  rcases hp with ⟨p1, -⟩ | ⟨j, p0, p1, -⟩
  · exact Or.inl p1
  · exact Or.inr ⟨j, p0, p1⟩
theorem rl_w3 {c nP nD : Nat} {U W : Mv} {K I : Mj} {R : Mr} (h : rl c nP nD U W K I R) : ∀ i, i < nP → 0 ≤ (W 1003 i).toInt ∧ (W 1003 i).toInt ≤ 50 := fun i hi => i_rng (by decide) (by decide) (h.2.1 i hi).2.2.1
theorem rl_w5 {c nP nD : Nat} {U W : Mv} {K I : Mj} {R : Mr} (h : rl c nP nD U W K I R) : ∀ i, i < nP → 0 ≤ (W 1005 i).toInt ∧ (W 1005 i).toInt ≤ 60 := fun i hi => i_rng (by decide) (by decide) (h.2.1 i hi).2.2.2.2.1
theorem rl_loss {c nP nD : Nat} {U W : Mv} {K I : Mj} {R : Mr} (h : rl c nP nD U W K I R) : ∀ N i, i < N → i < nP → (U (100 + i) 2).toInt = wsum W (fun i => (W 1003 i).toInt) (i + 1) i
  | 0, _ => fun h => absurd h (by omega)
  | N + 1, i => fun h1 h2 => by
    have hn := h.1.1
    obtain ⟨-, -, -, -, -, hp⟩ := h.2.1 i h2
    rcases hp with ⟨p1, -, p2, -⟩ | ⟨j, p0, p1, -, p2, -⟩
    · rw [wsum_0 p1, p2]
    · have hj := rl_loss h N j (by omega) (by omega)
      have b1 := wsum_b hn (rl_way h) (B := 50) (rl_w3 h) (j + 1) j (by omega) (by omega)
      have b2 := rl_w3 h i h2
      rw [wsum_1 hn (rl_way h) h2 p0 p1, p2, y_add (by rw [hj]; omega) (by rw [hj]; omega), hj]
theorem rl_lk {c nP nD : Nat} {U W : Mv} {K I : Mj} {R : Mr} (h : rl c nP nD U W K I R) : ∀ (n i : Nat) (a : Int32), i < n → i < nP → 0 ≤ a.toInt → a.toInt + 60 * ((i : Int) + 1) ≤ 2000 → (x_lk U R n (100 + i) a).toInt = a.toInt + wsum W (fun i => (W 1005 i).toInt) (i + 1) i
  | 0, _, _ => fun h => absurd h (by omega)
  | n + 1, i, a => fun h1 h2 h3 h4 => by
    have hn := h.1.1
    obtain ⟨-, q5, -, -, -, hp⟩ := h.2.1 i h2
    have b2 := rl_w5 h i h2
    have e1 : (a + W 1005 i).toInt = a.toInt + (W 1005 i).toInt := y_add (by omega) (by omega)
    rw [x_lk, q5]
    rcases hp with ⟨p1, p3, -⟩ | ⟨j, p0, p1, p3, -⟩
    · rw [p3, wsum_0 p1]
      exact e1
    · rw [p3, wsum_1 hn (rl_way h) h2 p0 p1]
      show (x_lk U R n (100 + j) (a + W 1005 i)).toInt = _
      rw [rl_lk h n j (a + W 1005 i) (by omega) (by omega) (by rw [e1]; omega) (by rw [e1]; omega), e1]
      omega
theorem air0_V {u q : Int32} (hu : 0 ≤ u.toInt ∧ u.toInt ≤ 1500) (hq : 0 ≤ q.toInt ∧ q.toInt ≤ 1800) : airV (if 0 < 100 - u - q then 100 - u - q else 0) (100 - u.toInt - q.toInt) := by
  have z : (0 : Int32).toInt = 0 := by decide
  have z1 : (100 : Int32).toInt = 100 := by decide
  have e1 : (100 - u).toInt = 100 - u.toInt := by rw [y_sub (by omega) (by omega), z1]
  have e2 : (100 - u - q).toInt = 100 - u.toInt - q.toInt := by rw [y_sub (by omega) (by omega), e1]
  unfold airV
  split
  · next h =>
    have h3 := Int32.lt_iff_toInt_lt.mp h
    rw [e2] at h3 ⊢
    omega
  · next h =>
    have h3 : ¬ (0 : Int32).toInt < (100 - u - q).toInt := fun e => h (Int32.lt_iff_toInt_lt.mpr e)
    rw [e2] at h3
    rw [z] at h3 ⊢
    omega
theorem e_air {c nP nD : Nat} {U W : Mv} {K I : Mj} {R : Mr} (h : rl c nP nD U W K I R) {i : Nat} (hi : i < nP) : x_air U R i = m_air nP 0 W 1006 i := by
  have hn := h.1.1
  have z : (0 : Int32).toInt = 0 := by decide
  have hlk := rl_lk h (i + 1) i 0 (by omega) hi (by decide) (by rw [z]; omega)
  have hls := rl_loss h (i + 1) i (by omega) hi
  have b1 := wsum_b hn (rl_way h) (B := 50) (rl_w3 h) (i + 1) i (by omega) hi
  have b2 := wsum_b hn (rl_way h) (B := 60) (rl_w5 h) (i + 1) i (by omega) hi
  rw [z] at hlk
  have h1 := air0_V (u := U (100 + i) 2) (q := x_lk U R (i + 1) (100 + i) 0) (by omega) (by omega)
  have h2 := air_G hn (rl_way h) (rl_w3 h) (rl_w5 h) (i + 1) i (by omega) hi
  rw [m_air_G nP 0 W rfl]
  refine airV_eq (A := 100 - wsum W (fun i => (W 1003 i).toInt) (i + 1) i - wsum W (fun i => (W 1005 i).toInt) (i + 1) i) ?_ h2
  rw [hls, hlk, Int.zero_add] at h1
  exact h1
theorem e_lag {c nP nD : Nat} {U W W' : Mv} {K I : Mj} {R : Mr} (h : rl c nP nD U W K I R) (h2 : W' 1002 = W 1002) (h4 : W' 1004 = W 1004) : ∀ n i a, i < n → i < nP → m_lag W' n i a = a + U (100 + i) 3
  | 0, _, _ => fun h => absurd h (by omega)
  | n + 1, i, a => fun q1 q2 => by
    have hn := h.1.1
    obtain ⟨-, -, -, -, -, hp⟩ := h.2.1 i q2
    rw [m_lag, h2, h4]
    rcases hp with ⟨p1, -, -, p3, -⟩ | ⟨j, p0, p1, -, -, p3, -⟩
    · rw [if_pos p1, p3]
    · rw [if_neg (show ¬ W 1002 i = -1000000 by rw [p1]; exact nI_nb (by omega)), p1, nI_clamp (by omega), e_lag h h2 h4 n j _ (by omega) (by omega), p3, Int32.add_assoc]
theorem m_air_ne6 {k : Nat} (h : k ≠ 1006) (n i : Nat) (V : Mv) : m_air n i V k = V k := by
  rw [m_air_G n i V rfl, m_aG_ne h]
theorem rl_air {c nP nD : Nat} {U W : Mv} {K I : Mj} {R : Mr} (h : rl c nP nD U W K I R) : rl c nP nD U (m_air nP 0 W) K I R :=
  rl_ag (fun _ _ _ => rfl) (fun k j hk => by rw [m_air_ne6 (by omega)]) h
theorem e_told {c nP nD : Nat} {U W : Mv} {K I : Mj} {R : Mr} (h : rl c nP nD U W K I R) (x v : Int32) : x_told U R nP x v = m_told W nP x v ∧ rl c nP nD U (m_toldV W nP x v) K I R := by
  have h0 := rl_0 (x := 0) h
  rw [x_told, m_told, m_toldV]
  by_cases hx : inx nP x
  · rw [if_pos hx, if_pos hx, if_pos hx]
    have htn := (inx_c hx).1
    generalize x.toNatClampNeg = t at htn ⊢
    by_cases hv : 0 ≤ v ∧ v ≤ 2
    · rw [if_pos hv, if_pos hv]
      refine ⟨?_, rl_air h0⟩
      by_cases c0 : v = 0
      · rw [if_pos c0, if_pos c0]
        exact e_air h0 htn
      · rw [if_neg c0, if_neg c0]
        by_cases c1 : v = 1
        · rw [if_pos c1, if_pos c1, e_lag h (W' := m_air nP 0 (u2 W 1000 0 0)) (by rw [m_air_ne6 (by decide), u2_ne (by decide)]) (by rw [m_air_ne6 (by decide), u2_ne (by decide)]) (t + 1) t 0 (by omega) htn, Int32.zero_add]
        · have c2 : v = 2 := by
            have h1 := i_rng (A := 0) (B := 2) (by decide) (by decide) hv
            have k0 := i32_neL c0 (k := 0) (by decide)
            have k1 := i32_neL c1 (k := 1) (by decide)
            have e2 : (2 : Int32).toInt = 2 := by decide
            exact Int32.toInt_inj.mp (by rw [e2]; omega)
          rw [if_neg c1, if_neg c1, if_pos c2]
          exact (h.2.1 t htn).2.1
    · have hz : ∀ q : Int32, 0 ≤ q ∧ q ≤ 2 → ¬ v = q := fun q hq e => hv (e ▸ hq)
      rw [if_neg hv, if_neg hv, if_neg (hz 0 (by decide)), if_neg (hz 1 (by decide)), if_neg (hz 2 (by decide))]
      exact ⟨rfl, h0⟩
  · rw [if_neg hx, if_neg hx, if_neg hx]
    exact ⟨rfl, h0⟩
theorem e_ahead {c nP nD : Nat} {U W : Mv} {K I : Mj} {R : Mr} (h : rl c nP nD U W K I R) (x : Int32) : x_ahead U R nD x = m_ahead W nD x := by
  rw [x_ahead, m_ahead]
  by_cases hx : inx nD x
  · have hd := rl_d h hx
    have hk := dl_kind hd
    rw [if_pos hx, if_pos hx]
    generalize x.toNatClampNeg = t at hd hk ⊢
    obtain ⟨⟨i, hi, hR, h8⟩, -⟩ := hd
    have h8' : W 1008 t = nI i := h8
    have hn := h.1.1
    have hl : m_lag (u2 W 1000 0 0) (i + 1) i 0 = U (100 + i) 3 := by rw [e_lag h (by rw [u2_ne (by decide)]) (by rw [u2_ne (by decide)]) (i + 1) i 0 (by omega) hi, Int32.zero_add]
    have hpl : x_pl R (200 + t) = 100 + i := by rw [x_pl, hR]; rfl
    have e9 : ∀ y : Int32, y + 10 - 1 = y + 9 := fun y => by rw [Int32.sub_eq_add_neg, Int32.add_assoc]; rfl
    rw [hk.1, hpl, h8', nI_clamp (by omega), hl, e9]
    by_cases k1 : m_kind W t = 1
    · rw [if_pos ((isk1 _).mpr (Or.inl k1)), if_pos k1]
    · by_cases k2 : m_kind W t = 2
      · rw [if_pos ((isk1 _).mpr (Or.inr k2)), if_neg k1, if_pos k2]
      · rw [if_neg (fun e => ((isk1 _).mp e).elim k1 k2), if_neg k1, if_neg k2]
  · rw [if_neg hx, if_neg hx]
