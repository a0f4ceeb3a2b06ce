theorem st_C {nD L T a e dn : Nat} {V W : Mv} (h : tr L a e V W) (hd : dn < nD) (hdD : nD ≤ 40) (hT : W 1000 41 = nI T) (hT4 : T < 1000) : oc nD L T (a + 4) V W (x_rC V (nI dn)) (m_rD W (nI dn)) := by
  obtain ⟨n1, n2⟩ := tr_nt h
  rw [x_rC, m_rD, ← n1]
  have hk : ∀ k, k ≠ 8 → x_tokV V k = V k := fun k hk => x_tokV_ne hk
  rcases n2 with n0 | ⟨n2, n3⟩
  · obtain ⟨o1, o2⟩ := oc_bad (nD := nD) (T := T) (a0 := a + 4) (V0 := V) (W0 := W) (n := 1) (Or.inl rfl) h
    rw [n0, if_pos rfl, m_rE, bz_f (show ¬ (0 : Int32) < 0 by decide), take_bad h.2.1, flt_F o2]
    exact o1
  · have hp : 0 < x_nt V := by rcases n2 with q | q | q <;> (rw [q]; decide)
    have hz : ¬ x_nt V = 0 := by rcases n2 with q | q | q <;> (rw [q]; decide)
    obtain ⟨a1, e1, l1, h1⟩ := tr_take (so := bz (0 < x_nt V)) h (by rw [bz_t hp]; decide)
    have hT1 : m_takeV W (bz (0 < x_nt V)) 1000 41 = nI T := by rw [m_takeV_sc (by omega)]; exact hT
    have hrow : ∀ k, 1042 ≤ k → k ≤ 1045 → m_takeV W (bz (0 < x_nt V)) k = W k := fun k k1 _ => m_takeV_ne (by omega)
    rw [if_neg hz, m_rE]
    generalize m_takeV W (bz (0 < x_nt V)) = W1 at h1 hT1 hrow ⊢
    have h1l := h1.2.2.1
    by_cases c3 : x_nt V = 3
    · rw [c3, if_pos rfl, m_rF, if_pos rfl]
      have sg := tr_sg (c := 60) (by decide) h1
      by_cases c4 : x_sg (x_tokV V) 60
      · have r2 : x_sgV V 60 = x_tokV V := by rw [x_sgV, if_pos c4]
        obtain ⟨a2, e2, l2, h2⟩ := tr_take (so := bz (m_is W1 60)) h1 (by rw [bz_t (sg.mp c4)]; decide)
        have hT2 : m_takeV W1 (bz (m_is W1 60)) 1000 41 = nI T := by rw [m_takeV_sc (by omega)]; exact hT1
        have hrow2 : ∀ k, 1042 ≤ k → k ≤ 1045 → m_takeV W1 (bz (m_is W1 60)) k = W k := fun k k1 k2 => by rw [m_takeV_ne (by omega)]; exact hrow k k1 k2
        rw [if_pos c4, r2, m_rG]
        generalize m_takeV W1 (bz (m_is W1 60)) = W2 at h2 hT2 hrow2 ⊢
        have h2l := h2.2.2.1
        have hs2 := (tr_s h2).1
        by_cases c5 : x_tokV (x_tokV V) 8 2 = 2
        · have r3 : x_rnV (x_tokV V) = x_tokV (x_tokV V) := by rw [x_rnV, if_pos c5]
          obtain ⟨m1, -, -⟩ := tr_num h2 c5
          obtain ⟨a3, e3, l3, h3⟩ := tr_take (so := bz (W2 1000 36 = 3)) h2 (by rw [bz_t (hs2.mp c5)]; decide)
          have hT3 : m_takeV W2 (bz (W2 1000 36 = 3)) 1000 41 = nI T := by rw [m_takeV_sc (by omega)]; exact hT2
          have hrow3 : ∀ k, 1042 ≤ k → k ≤ 1045 → m_takeV W2 (bz (W2 1000 36 = 3)) k = W k := fun k k1 k2 => by rw [m_takeV_ne (by omega)]; exact hrow2 k k1 k2
          rw [if_pos (show x_rn (x_tokV V) from c5), r3, m_rH, if_pos rfl, if_pos rfl]
          generalize m_takeV W2 (bz (W2 1000 36 = 3)) = W3 at h3 hT3 hrow3 ⊢
          have h3l := h3.2.2.1
          exact oc_to (by omega) (by rw [x_tokV_ne (by decide), x_tokV_ne (by decide)]) (by rw [x_tokV_ne (by decide), x_tokV_ne (by decide)]) (by rw [x_tokV_ne (by decide), x_tokV_ne (by decide)]) (by rw [x_tokV_ne (by decide), x_tokV_ne (by decide)]) hrow3 (st_D h3 hd hdD hT3 hT4 (Or.inl ⟨rfl, m1.symm, rfl⟩))
        · have r3 : x_rnV (x_tokV V) = x_ref (x_tokV (x_tokV V)) 1 := by rw [x_rnV, if_neg c5]
          obtain ⟨o1, o2⟩ := oc_bad (nD := nD) (T := T) (a0 := a + 4) (V0 := V) (W0 := W) (n := 1) (Or.inl rfl) h2
          rw [if_neg (show ¬ x_rn (x_tokV V) from c5), r3, bz_f (fun q => c5 (hs2.mpr q)), take_bad h2.2.1, flt_H o2]
          exact o1
      · have r2 : x_sgV V 60 = x_ref (x_tokV V) 1 := by rw [x_sgV, if_neg c4]
        obtain ⟨o1, o2⟩ := oc_bad (nD := nD) (T := T) (a0 := a + 4) (V0 := V) (W0 := W) (n := 1) (Or.inl rfl) h1
        rw [if_neg c4, r2, bz_f (fun q => c4 (sg.mpr q)), take_bad h1.2.1, flt_G o2]
        exact o1
    · have n4 : x_nt V = 1 ∨ x_nt V = 2 := by
        rcases n2 with q | q | q
        · exact Or.inl q
        · exact Or.inr q
        · exact absurd q c3
      rw [if_neg c3, m_rF, if_neg c3, m_rG, m_rH, if_neg c3, if_neg c3]
      exact oc_to (by omega) rfl rfl rfl rfl hrow (st_D h1 hd hdD hT1 hT4 (Or.inr ⟨n4, rfl⟩))
theorem st_B {nD L T a e : Nat} {V W : Mv} (h : tr L a e V W) (hs : V 8 2 = 2) (hdD : nD ≤ 40) (hT : W 1000 41 = nI T) (hT4 : T < 1000) : oc nD L T (a + 5) V W (x_rB V nD) (m_rB W nD) := by
  obtain ⟨M, hM, hMe⟩ := x_numV_b (tr_tkX h) hs
  obtain ⟨n1, n2, n3⟩ := tr_num h hs
  rw [x_rB, m_rB, if_pos h.2.1, if_pos n2, n1, hMe]
  by_cases c1 : nD ≤ M
  · obtain ⟨o1, o2⟩ := oc_bad (nD := nD) (T := T) (a0 := a + 5) (V0 := V) (W0 := W) (n := 2) (Or.inr rfl) h
    rw [if_pos ((nI_leI (by omega) (by omega)).mpr c1), if_neg (fun q : inx nD (nI M) => by
      have := q.2
      rw [nI_toInt (by omega)] at this
      omega), flt_C o2]
    exact o1
  · obtain ⟨a1, e1, l1, h1⟩ := tr_take (so := bz (W 1000 36 = 3)) h (by rw [bz_t n2]; decide)
    have hT1 : m_takeV W (bz (W 1000 36 = 3)) 1000 41 = nI T := by rw [m_takeV_sc (by omega)]; exact hT
    have hrow : ∀ k, 1042 ≤ k → k ≤ 1045 → m_takeV W (bz (W 1000 36 = 3)) k = W k := fun k k1 _ => m_takeV_ne (by omega)
    rw [if_neg (fun q => c1 ((nI_leI (by omega) (by omega)).mp q)), if_pos (show nI M < (40 : Int32) from (nI_ltI (b := 40) (by omega) (by decide)).mpr (by omega)), if_pos (inx_n (by omega) (by omega)), m_rC, n1, hMe]
    generalize m_takeV W (bz (W 1000 36 = 3)) = W1 at h1 hT1 hrow ⊢
    exact oc_to (by omega) (x_tokV_ne (by decide)) (x_tokV_ne (by decide)) (x_tokV_ne (by decide)) (x_tokV_ne (by decide)) hrow (st_C h1 (by omega) hdD hT1 hT4)
theorem st_A {nD L T a e : Nat} {V W : Mv} (h : tr L a e V W) (hdD : nD ≤ 40) (hT : W 1000 41 = nI T) (hT4 : T < 1000) : oc nD L T (a + 9) V W (x_rA V nD) (m_rA W nD) := by
  obtain ⟨-, b1, b2⟩ := tr_name h (i := 0) (by decide)
  have b1 : ¬ x_isnV V 0 = 0 ↔ m_naR W = 1684627820 := b1
  rw [x_rA, m_rA]
  by_cases c1 : x_isnV V 0 = 0
  · obtain ⟨o1, o2⟩ := oc_bad (nD := nD) (T := T) (a0 := a + 9) (V0 := V) (W0 := W) (n := 1) (Or.inl rfl) h
    rw [if_pos c1, bz_f (fun q => b1.mpr q c1), take_bad h.2.1, m_rB, if_neg o2, flt_C o2]
    exact o1
  · obtain ⟨a1, e1, l1, h1⟩ := tr_take (so := bz (m_naR W = 1684627820)) h (by rw [bz_t (b1.mp c1)]; decide)
    have hT1 : m_takeV W (bz (m_naR W = 1684627820)) 1000 41 = nI T := by rw [m_takeV_sc (by omega)]; exact hT
    have hrow : ∀ k, 1042 ≤ k → k ≤ 1045 → m_takeV W (bz (m_naR W = 1684627820)) k = W k := fun k k1 _ => m_takeV_ne (by omega)
    have h4 := b2 c1
    rw [if_neg c1]
    generalize m_takeV W (bz (m_naR W = 1684627820)) = W1 at h1 hT1 hrow ⊢
    have hs2 := (tr_s h1).1
    by_cases c5 : x_tokV V 8 2 = 2
    · have r3 : x_rnV V = x_tokV V := by rw [x_rnV, if_pos c5]
      rw [if_pos (show x_rn V from c5), r3]
      exact oc_to (by omega) (x_tokV_ne (by decide)) (x_tokV_ne (by decide)) (x_tokV_ne (by decide)) (x_tokV_ne (by decide)) hrow (st_B h1 c5 hdD hT1 hT4)
    · have r3 : x_rnV V = x_ref (x_tokV V) 1 := by rw [x_rnV, if_neg c5]
      obtain ⟨o1, o2⟩ := oc_bad (nD := nD) (T := T) (a0 := a + 9) (V0 := V) (W0 := W) (n := 1) (Or.inl rfl) h1
      have w3 : ¬ W1 1000 36 = 3 := fun q => c5 (hs2.mpr q)
      rw [if_neg (show ¬ x_rn V from c5), r3, m_rB, if_pos h1.2.1, if_neg w3, m_rC, bz_f w3, take_bad h1.2.1, flt_D o2]
      exact o1
/-- the waiting rows against the told ones: for each dial the latest of its contracts -/
def RR (nD j : Nat) (V W : Mv) : Prop := (∀ t, t < j → inx nD (W 1042 t)) ∧ ∀ d, d < nD → (V 11 d = 0 ∧ ∀ t, t < j → ¬ W 1042 t = nI d) ∨ ∃ t, t < j ∧ W 1042 t = nI d ∧ (∀ t', t < t' → t' < j → ¬ W 1042 t' = nI d) ∧ V 11 d = W 1043 t ∧ trm (V 11 d) (V 12 d) (V 13 d) (W 1044 t) (W 1045 t)
theorem trm_nz {s b p A B : Int32} (h : trm s b p A B) : ¬ s = 0 := by
  rcases h with ⟨h, -⟩ | ⟨h | h, -⟩ <;> (rw [h]; decide)
theorem RR_s {nD j dn : Nat} {V W V' W' : Mv} {s b p A B : Int32} (h : RR nD j V W) (hd : dn < nD) (hdD : nD ≤ 40) (ht : trm s b p A B) (h11 : V' 11 = va_up (V 11) dn s) (h12 : V' 12 = va_up (V 12) dn b) (h13 : V' 13 = va_up (V 13) dn p) (g2 : W' 1042 = va_up (W 1042) j (nI dn)) (g3 : W' 1043 = va_up (W 1043) j s) (g4 : W' 1044 = va_up (W 1044) j A) (g5 : W' 1045 = va_up (W 1045) j B) : RR nD (j + 1) V' W' := by
  obtain ⟨r1, r2⟩ := h
  refine ⟨fun t ht => ?_, fun d hdd => ?_⟩
  · rw [g2]
    by_cases htj : t = j
    · rw [htj, va_up_self]
      exact inx_n hd (by omega)
    · rw [va_up_ne _ _ htj]
      exact r1 t (by omega)
  · rw [h11, h12, h13, g2, g3, g4, g5]
    by_cases hdn : d = dn
    · subst hdn
      refine Or.inr ⟨j, by omega, va_up_self _ _ _, fun t' q1 q2 => absurd q2 (by omega), ?_, ?_⟩
      · rw [va_up_self, va_up_self]
      · rw [va_up_self, va_up_self, va_up_self, va_up_self, va_up_self]
        exact ht
    · have hnn : ¬ nI dn = nI d := fun q => hdn ((nI_eq (by omega) (by omega)).mp q).symm
      rw [va_up_ne _ _ hdn, va_up_ne _ _ hdn, va_up_ne _ _ hdn]
      rcases r2 d hdd with ⟨q1, q2⟩ | ⟨t, q1, q2, q3, q4, q5⟩
      · refine Or.inl ⟨q1, fun t ht => ?_⟩
        by_cases htj : t = j
        · rw [htj, va_up_self]
          exact hnn
        · rw [va_up_ne _ _ htj]
          exact q2 t (by omega)
      · have htj : t ≠ j := by omega
        refine Or.inr ⟨t, by omega, by rw [va_up_ne _ _ htj]; exact q2, fun t' u1 u2 => ?_, by rw [va_up_ne _ _ htj]; exact q4, by rw [va_up_ne _ _ htj, va_up_ne _ _ htj]; exact q5⟩
        by_cases hj : t' = j
        · rw [hj, va_up_self]
          exact hnn
        · rw [va_up_ne _ _ hj]
          exact q3 t' u1 (by omega)
theorem RR_ag {nD j : Nat} {V V' W : Mv} (h11 : V' 11 = V 11) (h12 : V' 12 = V 12) (h13 : V' 13 = V 13) (h : RR nD j V W) : RR nD j V' W := by
  unfold RR at h ⊢
  rw [h11, h12, h13]
  exact h
theorem e_rt {nD L : Nat} (hdD : nD ≤ 40) : ∀ m n i a e V W, tr L a e V W → 9 * i ≤ a → i + m = 40 → m < n → V 10 4 = nI i → W 1000 41 = nI i → RR nD i V W → m_okr nD m i W ∧
    (((x_rt nD n V).2 = 0 ∧ (x_rt nD n V).1 10 5 = m_go nD m W 1000 39 ∧ (x_rt nD n V).1 10 6 = m_go nD m W 1000 40 ∧ (m_go nD m W 1000 39 = 1 ∨ m_go nD m W 1000 39 = 2)) ∨
     ((x_rt nD n V).2 = 1 ∧ m_go nD m W 1000 39 = 0 ∧ ∃ j, j ≤ 40 ∧ (x_rt nD n V).1 10 4 = nI j ∧ m_go nD m W 1000 41 = nI j ∧ (x_rt nD n V).1 10 5 = V 10 5 ∧ RR nD j (x_rt nD n V).1 (m_go nD m W)))
  | 0, _, i, a, e, V, W => fun h h9 hi _ _ _ _ => absurd h.2.2.2.1 (by have := h.2.2.1; have := h.1.2.1; omega)
  | m + 1, 0, _, _, _, _, _ => fun _ _ _ hmn => absurd hmn (by omega)
  | m + 1, n + 1, i, a, e, V, W => fun h h9 hi hmn hc hT hR => by
    have hs := (tr_s h).2.2.1
    have hae := h.2.2.1
    have heL := h.2.2.2.1
    have hL3 := h.1.2.1
    rw [x_rt, m_go, if_pos h.2.1]
    by_cases c1 : V 8 2 = 0
    · rw [if_pos c1, if_pos (hs.mp c1)]
      refine ⟨fun _ q => absurd (hs.mp c1) q, Or.inr ⟨rfl, h.2.1, i, by omega, hc, hT, rfl, hR⟩⟩
    · have c1' : ¬ W 1000 36 = 1 := fun q => c1 (hs.mpr q)
      rw [if_neg c1, if_neg c1']
      have hA := st_A h hdD hT (by omega)
      rcases hA with ⟨o1, o2, o3, o4⟩ | ⟨o0, a', e', dn, s, b, p, A, B, o1, o2, o3, o4, o5, ⟨o6, o7, o8⟩, ⟨o9, p1, p2, p3⟩, p4⟩
      · have o5 : ¬ m_rA W nD 1000 39 = 0 := by rcases o4 with q | q <;> (rw [q]; decide)
        have g : ∀ k, m_go nD k (m_rA W nD) = m_rA W nD := fun k => by
          cases k with
          | zero => rfl
          | succ k => rw [m_go, if_neg o5]
        have ok : ∀ k q, m_okr nD k q (m_rA W nD) := fun k q => by
          cases k with
          | zero => exact fun z => o5 z.1
          | succ k => exact fun z => absurd z o5
        rw [if_pos o1, g]
        exact ⟨fun _ _ => ⟨hT, by omega, ok _ _⟩, Or.inl ⟨rfl, o2, o3, o4⟩⟩
      · have ho : ¬ (x_rA V nD).2 = 0 := by rw [o0]; decide
        rw [if_neg ho]
        have hc' : (x_rA V nD).1 10 4 = nI i := by rw [x_rA_c]; exact hc
        generalize (x_rA V nD).1 = V1 at o2 o6 o7 o8 p4 hc' ⊢
        generalize hWr : m_rA W nD = W1 at o2 o4 o9 p1 p2 p3 ⊢
        have t2 : tr L a' e' (x_tokV (u2 V1 10 4 (V1 10 4 + 1))) W1 := tr_agV (tok_ag (u2_ne (by decide)) (u2_ne (by decide))) (by rw [x_tokV_ne (by decide), x_tokV_ne (by decide), u2_ne (by decide)]) o2
        have R2 : RR nD (i + 1) (x_tokV (u2 V1 10 4 (V1 10 4 + 1))) W1 := RR_ag (by rw [x_tokV_ne (by decide), u2_ne (by decide)]) (by rw [x_tokV_ne (by decide), u2_ne (by decide)]) (by rw [x_tokV_ne (by decide), u2_ne (by decide)]) (RR_s hR o3 hdD o5 o6 o7 o8 o9 p1 p2 p3)
        have c2 : x_tokV (u2 V1 10 4 (V1 10 4 + 1)) 10 4 = nI (i + 1) := by rw [x_tokV_ne (by decide), u2_ss, hc', nI_1]
        have c3 : x_tokV (u2 V1 10 4 (V1 10 4 + 1)) 10 5 = V 10 5 := by rw [x_tokV_ne (by decide), u2_sn (by decide)]; exact p4
        obtain ⟨k1, k2⟩ := e_rt hdD m n (i + 1) a' e' _ W1 t2 (by omega) (by omega) (by omega) c2 o4 R2
        rw [c3] at k2
        refine ⟨fun _ _ => ⟨hT, by omega, by rw [hWr]; exact k1⟩, k2⟩
