theorem e_ct0 {c nP nD L : Nat} {U W : Mv} {K I : Mj} {R : Mr} (h : rl c nP nD U W K I R) (hL : U 8 1 = nI L) (hL3 : L ≤ 300) : W 1000 32 = nI L ∧ byT L (U 9) (W 1031) ∧ ∃ a e, tr L a e (x_tokV (x_t0 U)) (m_stp (m_c0 W L) L 0) ∧ RR nD 0 (x_tokV (x_t0 U)) (m_stp (m_c0 W L) L 0) ∧ m_stp (m_c0 W L) L 0 1000 41 = nI 0 := by
  obtain ⟨L2, h2, a1, a2, a3⟩ := h.2.2.2.2.2.2.2.1
  have hLL : L2 = L := (nI_eq (by omega) (by omega)).mp (by rw [← a1, hL])
  subst hLL
  have hD := h.1.2.1
  refine ⟨a2, a3, ?_⟩
  have b1 : m_c0 W L2 1000 34 = nI L2 := by
    rw [m_c0, u2_sn (by decide), u2_sn (by decide), u2_sn (by decide), u2_sn (by decide), u2_ss]
  have b2 : byT L2 (x_t0 U 9) (m_c0 W L2 1031) := by
    rw [x_t0_ne (by decide) (by decide) (by decide), m_c0_ne (by decide)]
    exact a3
  have b3 : m_c0 W L2 1000 39 = 0 := by rw [m_c0, u2_sn (by decide), u2_ss]
  have b4 : x_t0 U 8 4 = nI 0 := by
    rw [x_t0, u2_ss]
    rfl
  obtain ⟨a, e, -, q⟩ := tr_tok (p := 0) (V := x_t0 U) (W := m_c0 W L2) ⟨(x_t00 hL hL3).1, hL3, b1, b2⟩ b3 b4 (Nat.zero_le _)
  refine ⟨a, e, q, ⟨fun t ht => absurd ht (by omega), fun d hd => Or.inl ⟨?_, fun t ht => absurd ht (by omega)⟩⟩, ?_⟩
  · rw [x_tokV_ne (by decide), x_t0, u2_ne (by decide), u2_ne (by decide), x_fillL_at 40 0 U (by omega) (by omega)]
  · rw [m_stp_sc (by omega), m_c0, u2_ss]
    rfl
theorem tape_10 {U : Mv} : x_tokV (x_t0 U) 10 5 = U 10 5 := by
  rw [x_tokV_ne (by decide), x_t0, u2_ne (by decide), u2_sn (by decide), x_fillL_ne (by decide)]
theorem inx_up {n m : Nat} {x : Int32} (h : inx n x) (hnm : n ≤ m) : inx m x := ⟨h.1, by have := h.2; omega⟩
/-- contracts: equal answers, and what the reference's contract asks for -/
theorem e_ct {c nP nD L : Nat} {U W : Mv} {K I : Mj} {R : Mr} {F : Mv × Int32} (h : rl c nP nD U W K I R) (hL : U 8 1 = nI L) (hL3 : L ≤ 300) (hF : F = x_tape U nD) :
    W 1000 32 = nI L ∧ (∀ t, t < L → inx 256 (W 1031 t)) ∧ m_okr nD 40 0 (m_stp (m_c0 W L) L 0) ∧ (m_ctF W L nD 1000 39 ≤ 0 → ∃ T2, T2 ≤ 40 ∧ m_ctF W L nD 1000 41 = nI T2 ∧ ∀ t, t < T2 → inx 40 (m_ctF W L nD 1042 t)) ∧ x_ctR F nD = m_finr (m_ctF W L nD) ∧ rl c nP nD (x_ctV F nD) (m_fin (m_ctF W L nD)) K I R := by
  have hD := h.1.2.1
  obtain ⟨g1, g2, a, e, g3, g4, g5⟩ := e_ct0 h hL hL3
  obtain ⟨k1, k2⟩ := e_rt hD 40 301 0 a e _ _ g3 (Nat.zero_le _) rfl (by decide) x_t0_c g5 g4
  rw [tape_10] at k2
  have hFe : ∀ k, k ≠ 8 → k ≠ 10 → k ≠ 11 → k ≠ 12 → k ≠ 13 → F.1 k = U k := fun k h8 h10 h11 h12 h13 => by rw [hF]; exact x_tape_ne h8 h10 h11 h12 h13
  have hFd : x_rt nD 301 (x_tokV (x_t0 U)) = F := by rw [hF, x_tape]
  have hGd : m_go nD 40 (m_stp (m_c0 W L) L 0) = m_ctF W L nD := by rw [m_ctF]
  rw [hFd, hGd] at k2
  have j33 := ctF_j (W := W) (L := L) (nD := nD) (j := 33) (by decide) (by decide)
  have j32 := ctF_32 (W := W) (L := L) (nD := nD)
  have hj : ∀ j, j ≠ 0 → (j < 32 ∨ j = 33 ∨ 41 < j) → m_ctF W L nD 1000 j = W 1000 j := fun j q1 q2 => ctF_j q1 q2
  have hk : ∀ k, k ≠ 1000 → (k < 1042 ∨ 1045 < k) → m_ctF W L nD k = W k := fun k q1 q2 => ctF_ne q1 q2
  clear hFd hGd hF g3 g4 g5
  refine ⟨g1, fun t ht => (g2 t ht).1, k1, ?_⟩
  generalize m_ctF W L nD = G at k2 j33 j32 hj hk ⊢
  have base : ∀ W' : Mv, (∀ k j, ¬ (k = 1000 ∧ j = 33) → W' k j = G k j) → (u2 F.1 8 1 0) 10 5 = W' 1000 33 → rl c nP nD (u2 F.1 8 1 0) W' K I R := by
    intro W' q1 q2
    refine rl_ct (U := U) (W := W) (fun k j q8 q9 q10 q11 q12 q13 => ?_) (fun k j r1 r2 r3 => ?_) q2 ⟨0, by omega, u2_ss, by rw [q1 _ _ (by decide), j32]; decide, fun t ht => absurd ht (by omega)⟩ h
    · rw [u2_ne q8, hFe k q8 q10 q11 q12 q13]
    · rw [q1 _ _ (by omega)]
      by_cases h0 : k = 1000
      · subst h0
        rw [hj j (by omega) (by omega)]
      · rw [hk k h0 (by omega)]
  rcases k2 with ⟨o1, o2, o3, o4⟩ | ⟨o0, o1, j, o2, o3, o4, o5, o6, o7⟩
  · have n39 : ¬ G 1000 39 ≤ 0 := by rcases o4 with q | q <;> (rw [q]; decide)
    refine ⟨fun q => absurd q n39, ?_, ?_⟩
    · rw [x_ctR, m_finr, if_pos o1, if_neg n39, o3]
    · rw [x_ctV, m_fin, if_pos o1, if_neg n39]
      exact base _ (fun k j q => u2_un q) (by rw [u2_ne (by decide), u2_ss]; exact o2)
  · have n39 : G 1000 39 ≤ 0 := by rw [o1]; decide
    have nF : ¬ F.2 = 0 := by rw [o0]; decide
    refine ⟨fun _ => ⟨j, o2, o4, fun t ht => inx_up (o6 t ht) hD⟩, ?_, ?_⟩
    · rw [x_ctR, m_finr, if_neg nF, if_pos n39, x_pf_ne nD 0 _ (by omega), u2_ne (by decide), o3, o4]
    · rw [x_ctV, m_fin, if_neg nF, if_pos n39, o4, nI_clamp (by omega)]
      have hb := base G (fun _ _ _ => rfl) (by rw [u2_ne (by decide), o5, j33]; exact h.2.2.2.2.2.2.1)
      refine rl_dials (fun k hk2 => x_pf_ne nD 0 _ (by omega)) (fun k i hki => ?_) (fun d hd => ?_) hb
      · rcases hki with q | q | q
        · rw [m_cf_ne (Or.inl q)]
        · rw [m_cf_ne (Or.inr q)]
        · exact m_cf_no j 0 G (fun t' _ q2 => by have := (inx_c (o6 t' (by omega))).1; omega)
      · rw [x_pf_at nD 0 _ (by omega) (by omega), u2_ne (show (11 : Nat) ≠ 8 by decide), u2_ne (show (12 : Nat) ≠ 8 by decide), u2_ne (show (13 : Nat) ≠ 8 by decide)]
        have hdl := hb.2.2.1 d hd
        have hcl : ∀ t, t < j → ((G 1042 t).toNatClampNeg = d ↔ G 1042 t = nI d) := fun t ht => by
          have q := inx_e (o6 t ht)
          have q2 := (inx_c (o6 t ht)).1
          exact ⟨fun e => by rw [q, e], fun e => by rw [e, nI_clamp (by omega)]⟩
        rcases o7 d hd with ⟨q1, q2⟩ | ⟨t, q1, q2, q3, q4, q5⟩
        · rw [if_pos q1]
          exact dlP_ag (fun _ => rfl) (fun k _ _ => m_cf_no j 0 G (fun t' _ r2 => fun e => q2 t' (by omega) ((hcl t' (by omega)).mp e))) hdl
        · rw [if_neg (trm_nz q5), x_begin_s, u2_ne (show 200 + d ≠ 8 by omega)]
          rw [u2_ne (show 200 + d ≠ 8 by omega)] at hdl
          obtain ⟨c1, c2, c3, c4⟩ := m_cf_at (d := d) (t0 := t) j 0 G (by omega) (by omega) ((hcl t q1).mpr q2) (fun t' r1 r2 => fun e => q3 t' r1 (by omega) ((hcl t' (by omega)).mp e))
          have cn : ∀ k, k < 1017 → m_cf j 0 G k d = G k d := fun k hk2 => by rw [m_cf_ne (Or.inl hk2)]
          obtain ⟨d1, d2, d3, d4, d5, d6, d7, -, -⟩ := hdl
          have ar : ∀ (f : Nat → Int32) (w x y z : Int32) i, i < 8 → va_up (va_up (va_up (va_up f 8 w) 9 x) 10 y) 11 z i = f i := fun f w x y z i hi => by
            rw [va_up_ne _ _ (by omega), va_up_ne _ _ (by omega), va_up_ne _ _ (by omega), va_up_ne _ _ (by omega)]
          have a8 : ∀ (f : Nat → Int32) (w x y z : Int32), va_up (va_up (va_up (va_up f 8 w) 9 x) 10 y) 11 z 8 = w := fun f w x y z => by
            rw [va_up_ne _ _ (by decide), va_up_ne _ _ (by decide), va_up_ne _ _ (by decide), va_up_self]
          have a9 : ∀ (f : Nat → Int32) (w x y z : Int32), va_up (va_up (va_up (va_up f 8 w) 9 x) 10 y) 11 z 9 = x := fun f w x y z => by
            rw [va_up_ne _ _ (by decide), va_up_ne _ _ (by decide), va_up_self]
          have a10 : ∀ (f : Nat → Int32) (w x y z : Int32), va_up (va_up (va_up (va_up f 8 w) 9 x) 10 y) 11 z 10 = y := fun f w x y z => by
            rw [va_up_ne _ _ (by decide), va_up_self]
          unfold dlP
          dsimp only
          rw [ar _ _ _ _ _ 1 (by decide), ar _ _ _ _ _ 2 (by decide), ar _ _ _ _ _ 3 (by decide), ar _ _ _ _ _ 4 (by decide), ar _ _ _ _ _ 5 (by decide), ar _ _ _ _ _ 6 (by decide), ar _ _ _ _ _ 7 (by decide), a8, a9, a10, va_up_self]
          rw [cn 1008 (by decide), cn 1009 (by decide), cn 1010 (by decide), cn 1011 (by decide), cn 1012 (by decide), cn 1013 (by decide), cn 1014 (by decide), cn 1015 (by decide), cn 1016 (by decide), c1, c2, c3, c4]
          refine ⟨d1, d2, d3, d4, d5, d6, d7, ⟨q4, ?_⟩, rfl⟩
          rw [← q4]
          rcases q5 with ⟨s1, s2, s3⟩ | ⟨s1 | s1, s2⟩
          · exact Or.inr (Or.inr (Or.inr ⟨s1, s2, s3⟩))
          · exact Or.inr (Or.inl ⟨s1, s2⟩)
          · exact Or.inr (Or.inr (Or.inl ⟨s1, s2⟩))
