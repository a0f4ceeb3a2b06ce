theorem x_airE_eq' {V X : Mv} {k e : Nat} (h : ∀ j, j ≠ 7 → V j = X j) (hk : k ≠ 7) : x_airE V k e = x_airE X k e := x_airE_eq h hk
theorem x_nextL_ne {R : Mr} {f k : Nat} (h : k ≠ 7) : ∀ n i V b mo, (x_nextL R f n i V b mo).1 k = V k
  | 0, _, _, _, _ => rfl
  | n + 1, i, V, b, mo => by
    rw [x_nextL]
    split
    · rw [x_nextL_ne h n, x_un_ne h]
    · rw [x_nextL_ne h n, x_un_ne h]
/-- the hypothesis of next's contract -/
theorem e_hair {c nP nD : Nat} {U W : Mv} {K I : Mj} {R : Mr} (h : rl c nP nD U W K I R) : ∀ f, x_find R nD nP 0 (u2 U 4 3 0) 4 3 = nI f → f ≤ 30 → ∀ i, i < nP → ∀ e, e < f → inx 101 (x_airE (x_find R nD nP 0 (u2 U 4 3 0)) (100 + i) e) := by
  intro f hf hf30 i hi e he
  have hn := h.1.1
  obtain ⟨f', hf', e1, -, e3⟩ := e_all h
  have hff : f' = f := (nI_eq (by omega) (by omega)).mp (by rw [← e1, hf])
  subst hff
  obtain ⟨p, l, g1, g2, g3, g4, -, g6, -⟩ := e3 e he
  have hX := rl_find h
  have r := e_airE hX hi g1 g3 g4 g6
  have b1 := wsum_b hn (rl_way hX) (B := 50) (rl_w3 hX) (i + 1) i (by omega) hi
  have o := ow_l (l := l) hn (rl_way hX) (p := p) (by omega) (by omega) (i + 1) i (by omega) hi
  exact airV_in r (by omega)
/-- the pairs of one dial -/
theorem e_pairs {c nP nD f d : Nat} {X W M V N : Mv} {K I : Mj} {R : Mr} (h : rl c nP nD X W K I R) (hf : f ≤ nP) (h2 : M 1002 = W 1002) (h3 : M 1003 = W 1003) (h8 : M 1008 = W 1008) (hfd : ∀ e, e < f → fnd nP X M e) (hd : d < nD) (hV : ∀ j, j ≠ 7 → V j = X j) (hN : N = m_nA nP f 0 M) : ∃ u : Nat, u ≤ 1000 ∧ (x_un V (x_pl R (200 + d)) f).2 = nI u ∧ m_pr N f d = nI u := by
  have hn := h.1.1
  obtain ⟨-, -, -, -, -, -, i, hi, hW8, hpl, -⟩ := dx h hd
  have ha : ∀ e, e < f → x_airE X (100 + i) e = nI (x_airE X (100 + i) e).toNatClampNeg ∧ (x_airE X (100 + i) e).toNatClampNeg ≤ 100 ∧ N 1030 (30 * e + i) = x_airE X (100 + i) e := by
    intro e he
    obtain ⟨p, l, g1, g2, g3, g4, g5, g6, g7⟩ := hfd e he
    have r := e_airE h hi g1 g3 g4 g6
    have b1 := wsum_b hn (rl_way h) (B := 50) (rl_w3 h) (i + 1) i (by omega) hi
    have o := ow_l (l := l) hn (rl_way h) (p := p) (by omega) (by omega) (i + 1) i (by omega) hi
    have hin := airV_in r (by omega)
    have r2 := e_nA h hi g1 g3 f 0 M h2 h3 (Nat.zero_le e) (by omega) g5 g7
    rw [← hN] at r2
    exact ⟨inx_e hin, by have := (inx_c hin).1; omega, airV_eq r2 r⟩
  have hub : ∀ g, g ≤ f → unl (fun e => (x_airE X (100 + i) e).toNatClampNeg) g ≤ 30 * g := by
    intro g
    induction g with
    | zero => intro _; exact Nat.le_refl _
    | succ g ih =>
      intro hg
      have := ih (by omega)
      rw [unl]
      omega
  refine ⟨unl (fun e => (x_airE X (100 + i) e).toNatClampNeg) f, ?_, ?_, ?_⟩
  · have := hub f (Nat.le_refl _)
    omega
  · rw [hpl]
    exact e_un (by omega) (fun e he => ⟨(ha e he).1, (ha e he).2.1⟩) (by omega) hV
  · refine e_pr (fun e he => ?_)
    have q8 : N 1008 d = nI i := by rw [hN, m_nA_ne (by decide) (by decide), h8, hW8]
    rw [q8, nI_clamp (by omega), (ha e he).2.2]
    exact ⟨(ha e he).1, (ha e he).2.1⟩
theorem e_nB {c nP nD f : Nat} {X W M N : Mv} {K I : Mj} {R : Mr} (h : rl c nP nD X W K I R) (hf : f ≤ nP) (h2 : M 1002 = W 1002) (h3 : M 1003 = W 1003) (h8 : M 1008 = W 1008) (hfd : ∀ e, e < f → fnd nP X M e) (hN : N = m_nA nP f 0 M) : ∀ n i V b mo, i + n ≤ nD → (∀ j, j ≠ 7 → V j = X j) → (x_nextL R f n i V b mo).2 = m_nB N f n i b mo
  | 0, _, _, _, _ => fun _ _ => rfl
  | n + 1, i, V, b, mo => fun hi hV => by
    obtain ⟨u, -, q1, q2⟩ := e_pairs h hf h2 h3 h8 hfd (d := i) (by omega) hV hN
    have hV' : ∀ j, j ≠ 7 → (x_un V (x_pl R (200 + i)) f).1 j = X j := fun j hj => by rw [x_un_ne hj]; exact hV j hj
    rw [x_nextL, m_nB, q1, q2]
    by_cases hm : nI u ≤ mo
    · rw [if_pos hm, if_pos hm]
      exact e_nB h hf h2 h3 h8 hfd hN n (i + 1) _ b mo (by omega) hV'
    · rw [if_neg hm, if_neg hm]
      exact e_nB h hf h2 h3 h8 hfd hN n (i + 1) _ _ _ (by omega) hV'
theorem e_next {c nP nD : Nat} {U W : Mv} {K I : Mj} {R : Mr} (h : rl c nP nD U W K I R) : x_next U R nP nD = m_next W nP nD ∧ rl c nP nD (x_nextV U R nP nD) (m_nextV W nP nD) K I R := by
  have hn := h.1.1
  obtain ⟨f, hf, e1, e2, e3⟩ := e_all h
  have hX := rl_find h
  have e7 : m_all (u2 W 1000 0 0) nP nD 1000 7 = nI nD := by rw [m_all_sc (by decide), u2_sn (by decide)]; exact h.1.2.2.2.2.2
  rw [x_next, m_next, x_nextV, m_nextV, e1, e2, e7, nI_clamp (by omega)]
  generalize x_find R nD nP 0 (u2 U 4 3 0) = X at e1 e3 hX ⊢
  generalize m_all (u2 W 1000 0 0) nP nD = M at e2 e3 hX e7 ⊢
  by_cases hf2 : 2 ≤ f
  · have c1 : (2 : Int32) ≤ nI f := (nI_leI (a := 2) (by decide) (by omega)).mpr hf2
    have c2 : ¬ nI f < (2 : Int32) := fun e => absurd ((nI_ltI (b := 2) (by omega) (by decide)).mp e) (by omega)
    rw [if_pos c1, if_neg c2, if_pos c1, if_neg c2]
    have hx : rl c nP nD (x_nextL R f nD 0 X (-1000000) (-1)).1 M K I R := rl_ag (fun k j hk => by rw [x_nextL_ne (by omega)]) (fun _ _ _ => rfl) hX
    by_cases hD0 : nD = 0
    · subst hD0
      rw [if_pos (show nI 0 = 0 by decide), if_pos (show nI 0 = 0 by decide)]
      exact ⟨rfl, hx⟩
    · have hz : ¬ nI nD = 0 := fun e => hD0 ((nI_eq (b := 0) (by have := h.1.2.1; omega) (by decide)).mp e)
      rw [if_neg hz, if_neg hz]
      refine ⟨?_, rl_ag (fun _ _ _ => rfl) (fun k j hk => by rw [m_nA_ne (by omega) (by omega)]) hx⟩
      obtain ⟨n, rfl⟩ : ∃ n, nD = n + 1 := ⟨nD - 1, by omega⟩
      obtain ⟨u, hu, q1, q2⟩ := e_pairs hX hf rfl rfl rfl e3 (d := 0) (by omega) (fun _ _ => rfl) (N := m_nA nP f 0 M) rfl
      have c3 : ¬ nI u ≤ (-1 : Int32) := fun e => by
        have := Int32.le_iff_toInt_le.mp e
        rw [nI_toInt (by omega), show (-1 : Int32).toInt = -1 by decide] at this
        omega
      rw [x_nextL, m_nB, q1, q2, if_neg c3, if_neg c3]
      exact e_nB hX hf rfl rfl rfl e3 rfl n 1 _ _ _ (by omega) (fun j hj => x_un_ne hj)
  · have c1 : ¬ (2 : Int32) ≤ nI f := fun e => hf2 ((nI_leI (a := 2) (by decide) (by omega)).mp e)
    have c2 : nI f < (2 : Int32) := (nI_ltI (b := 2) (by omega) (by decide)).mpr (by omega)
    rw [if_neg c1, if_pos c2, if_neg c1, if_pos c2]
    exact ⟨rfl, hX⟩
