/-! contracts: one contract read by both -/
theorem tr_agV {L a e : Nat} {V V' W : Mv} (h8 : V' 8 = V 8) (h9 : V' 9 = V 9) (h : tr L a e V W) : tr L a e V' W := by
  obtain ⟨⟨g1, g2, g3, g4⟩, q⟩ := h
  refine ⟨⟨by rw [h8]; exact g1, g2, g3, by rw [h9]; exact g4⟩, ?_⟩
  rw [h8]
  exact q
theorem tr_agW {L a e : Nat} {V W W' : Mv} (h0 : ∀ j, 34 ≤ j → j ≤ 39 → W' 1000 j = W 1000 j) (h1 : W' 1031 = W 1031) (h : tr L a e V W) : tr L a e V W' := by
  obtain ⟨⟨g1, g2, g3, g4⟩, q1, q2, q3, q4, q5, q6, q7, q8, q9⟩ := h
  exact ⟨⟨g1, g2, by rw [h0 _ (by decide) (by decide)]; exact g3, by rw [h1]; exact g4⟩, by rw [h0 _ (by decide) (by decide)]; exact q1, q2, q3, q4, q5, by rw [h0 _ (by decide) (by decide)]; exact q6, by rw [h0 _ (by decide) (by decide)]; exact q7, by rw [h0 _ (by decide) (by decide)]; exact q8, by rw [h0 _ (by decide) (by decide), h1]; exact q9⟩
theorem tok_ag {M N : Mv} (h8 : M 8 = N 8) (h9 : M 9 = N 9) : x_tokV M 8 = x_tokV N 8 := by
  rw [x_tokV, x_tokV, x_tok, x_tok, u2_s, u2_s, u2_s, u2_s, u2_s, u2_s, h8, h9]
theorem tr_tkX {L a e : Nat} {V W : Mv} (h : tr L a e V W) : tkX V L := by
  have hs := tr_s h
  obtain ⟨⟨g1, g2, g3, g4⟩, -, l1, l2, v3, v4, w7, w5, w8, hk⟩ := h
  refine ⟨g1, g2, a, e, v3, v4, l1, l2, hs.2.2.2.2, fun q => ?_⟩
  rcases hk with ⟨q1, -⟩ | ⟨q1, -⟩ | ⟨-, -, -, q4, q5⟩ | ⟨q1, -⟩ | ⟨q1, -⟩
  · rw [q] at q1; exact absurd q1 (by decide)
  · rw [q] at q1; exact absurd q1 (by decide)
  · refine ⟨q4, fun t t1 t2 => ?_⟩
    obtain ⟨p1, p2⟩ := g4 t (by omega)
    have q6 := q5 t t1 t2
    have r := i_rng (A := 48) (B := 57) (by decide) (by decide) q6
    rw [p2, bq_lo p1 (by omega)]
    exact q6
  · rw [q] at q1; exact absurd q1 (by decide)
  · rw [q] at q1; exact absurd q1 (by decide)
def trm (s b p A B : Int32) : Prop := (s = 3 ∧ b = A ∧ p = B) ∨ ((s = 1 ∨ s = 2) ∧ p = A)
/-- what comes of reading one contract -/
def oc (nD L T a : Nat) (V W : Mv) (r : Mv × Int32) (W' : Mv) : Prop :=
  (r.2 = 0 ∧ r.1 10 5 = W' 1000 39 ∧ r.1 10 6 = W' 1000 40 ∧ (W' 1000 39 = 1 ∨ W' 1000 39 = 2)) ∨
  (r.2 = 1 ∧ ∃ (a' e' dn : Nat) (s b p A B : Int32), a ≤ a' ∧ tr L a' e' (x_tokV r.1) W' ∧ dn < nD ∧ W' 1000 41 = nI (T + 1) ∧ trm s b p A B ∧ (r.1 11 = va_up (V 11) dn s ∧ r.1 12 = va_up (V 12) dn b ∧ r.1 13 = va_up (V 13) dn p) ∧ (W' 1042 = va_up (W 1042) T (nI dn) ∧ W' 1043 = va_up (W 1043) T s ∧ W' 1044 = va_up (W 1044) T A ∧ W' 1045 = va_up (W 1045) T B) ∧ r.1 10 5 = V 10 5)
theorem oc_to {nD L T a a2 : Nat} {V V2 W W2 W' : Mv} {r : Mv × Int32} (ha : a2 ≤ a) (h11 : V 11 = V2 11) (h12 : V 12 = V2 12) (h13 : V 13 = V2 13) (h10 : V 10 = V2 10) (hW : ∀ k, 1042 ≤ k → k ≤ 1045 → W k = W2 k) (h : oc nD L T a V W r W') : oc nD L T a2 V2 W2 r W' := by
  rcases h with h | ⟨h0, a', e', dn, s, b, p, A, B, h1, h2, h3, h4, h5, h6, h7, h8⟩
  · exact Or.inl h
  · rw [h11, h12, h13] at h6
    rw [hW 1042 (by decide) (by decide), hW 1043 (by decide) (by decide), hW 1044 (by decide) (by decide), hW 1045 (by decide) (by decide)] at h7
    rw [h10] at h8
    exact Or.inr ⟨h0, a', e', dn, s, b, p, A, B, by omega, h2, h3, h4, h5, h6, h7, h8⟩
theorem flt_J {W : Mv} {d s A B : Int32} (h : ¬ W 1000 39 = 0) : m_rJ W d s A B = W := by rw [m_rJ, if_neg h]
theorem flt_I {W : Mv} {d s A B : Int32} (h : ¬ W 1000 39 = 0) : m_rI W d s A B = W := by rw [m_rI, take_flt h, flt_J h]
theorem flt_H {W : Mv} {d s A : Int32} (h : ¬ W 1000 39 = 0) : m_rH W d s A = W := by
  rw [m_rH, take_flt h]
  split
  · rw [flt_I h]
  · rw [flt_I h]
theorem flt_G {W : Mv} {d s : Int32} (h : ¬ W 1000 39 = 0) : m_rG W d s = W := by rw [m_rG, take_flt h, flt_H h]
theorem flt_F {W : Mv} {d s : Int32} (h : ¬ W 1000 39 = 0) : m_rF W d s = W := by
  rw [m_rF, take_flt h]
  split
  · rw [flt_G h]
  · rw [flt_G h]
theorem flt_E {W : Mv} {d s : Int32} (h : ¬ W 1000 39 = 0) : m_rE W d s = W := by rw [m_rE, take_flt h, flt_F h]
theorem flt_D {W : Mv} {d : Int32} (h : ¬ W 1000 39 = 0) : m_rD W d = W := by rw [m_rD, flt_E h]
theorem flt_C {W : Mv} (h : ¬ W 1000 39 = 0) : m_rC W = W := by rw [m_rC, take_flt h, flt_D h]
/-- a fault at the token that stands now -/
theorem oc_bad {nD L T a a0 e : Nat} {V V0 W W0 : Mv} {n : Int32} (hn : n = 1 ∨ n = 2) (h : tr L a e V W) : oc nD L T a0 V0 W0 (x_ref V n, 0) (m_bad W n) ∧ ¬ m_bad W n 1000 39 = 0 := by
  obtain ⟨-, q1, -, -, q4, -, q6, -⟩ := h
  obtain ⟨b1, b2⟩ := bad_39 (n := n) q1
  refine ⟨Or.inl ⟨rfl, ?_, ?_, ?_⟩, ?_⟩
  · show x_ref V n 10 5 = _
    rw [b1, x_ref, u2_sn (by decide), u2_ss]
  · show x_ref V n 10 6 = _
    rw [b2, x_ref, u2_ss, q4, q6]
  · rw [b1]
    exact hn
  · rw [b1]
    rcases hn with hn | hn
    · rw [hn]; decide
    · rw [hn]; decide
theorem st_D {nD L T a e dn : Nat} {V W : Mv} {s b A B : Int32} (h : tr L a e (x_tokV V) W) (hd : dn < nD) (hdD : nD ≤ 40) (hT : W 1000 41 = nI T) (hT4 : T < 1000) (hs : trm s b (m_nuR W) A B) : oc nD L T e V W (x_rD V (nI dn) s b) (m_rI (m_takeV W (bz (W 1000 36 = 3))) (nI dn) s A B) := by
  have hs2 := (tr_s h).1
  rw [x_rD]
  by_cases c1 : x_tokV V 8 2 = 2
  · have r1 : x_rnV V = x_tokV V := by rw [x_rnV, if_pos c1]
    obtain ⟨n1, n2, -⟩ := tr_num h c1
    obtain ⟨a2, e2, l2, h2⟩ := tr_take (so := bz (W 1000 36 = 3)) h (by rw [bz_t (hs2.mp c1)]; decide)
    have hT1 : m_takeV W (bz (W 1000 36 = 3)) 1000 41 = nI T := by rw [m_takeV_sc (by omega)]; exact hT
    have hrow : ∀ k, k ≠ 1000 → m_takeV W (bz (W 1000 36 = 3)) k = W k := fun k hk => m_takeV_ne hk
    generalize m_takeV W (bz (W 1000 36 = 3)) = W1 at h2 hT1 hrow ⊢
    have sg := tr_sg (c := 59) (by decide) h2
    rw [if_pos c1, r1]
    by_cases c2 : x_sg (x_tokV (x_tokV V)) 59
    · have r2 : x_sgV (x_tokV V) 59 = x_tokV (x_tokV V) := by rw [x_sgV, if_pos c2]
      obtain ⟨a3, e3, l3, h3⟩ := tr_take (so := bz (m_is W1 59)) h2 (by rw [bz_t (sg.mp c2)]; decide)
      have hT2 : m_takeV W1 (bz (m_is W1 59)) 1000 41 = nI T := by rw [m_takeV_sc (by omega)]; exact hT1
      have hrow2 : ∀ k, k ≠ 1000 → m_takeV W1 (bz (m_is W1 59)) k = W k := fun k hk => by rw [m_takeV_ne hk]; exact hrow k hk
      rw [if_pos c2, r2, m_rI]
      generalize m_takeV W1 (bz (m_is W1 59)) = W2 at h3 hT2 hrow2 ⊢
      have f2 : W2 1000 39 = 0 := h3.2.1
      have hj : ∀ j, j ≠ 41 → m_rJ W2 (nI dn) s A B 1000 j = W2 1000 j := fun j hj => m_rJ_sc hj
      have ht : x_tokV (u2 (u2 (u2 (x_tokV (x_tokV V)) 11 (nI dn).toNatClampNeg s) 12 (nI dn).toNatClampNeg b) 13 (nI dn).toNatClampNeg (x_numV (x_tokV V))) 8 = x_tokV (x_tokV (x_tokV V)) 8 := tok_ag (by rw [u2_ne (by decide), u2_ne (by decide), u2_ne (by decide)]) (by rw [u2_ne (by decide), u2_ne (by decide), u2_ne (by decide)])
      refine Or.inr ⟨rfl, a3, e3, dn, s, b, m_nuR W, A, B, by have := h2.2.2.1; omega, ?_, hd, ?_, hs, ⟨?_, ?_, ?_⟩, ⟨?_, ?_, ?_, ?_⟩, ?_⟩
      · exact tr_agW (fun j _ _ => hj j (by omega)) (m_rJ_ne (by omega)) (tr_agV ht (by rw [x_tokV_ne (by decide), x_tokV_ne (V := x_tokV (x_tokV V)) (by decide)]; show u2 (u2 (u2 (x_tokV (x_tokV V)) 11 (nI dn).toNatClampNeg s) 12 (nI dn).toNatClampNeg b) 13 (nI dn).toNatClampNeg (x_numV (x_tokV V)) 9 = _; rw [u2_ne (by decide), u2_ne (by decide), u2_ne (by decide)]) h3)
      · rw [m_rJ, if_pos f2, u2_ss, hT2, nI_1]
      · show u2 (u2 (u2 (x_tokV (x_tokV V)) 11 (nI dn).toNatClampNeg s) 12 (nI dn).toNatClampNeg b) 13 (nI dn).toNatClampNeg (x_numV (x_tokV V)) 11 = _
        rw [u2_ne (by decide), u2_ne (by decide), u2_s, x_tokV_ne (by decide), x_tokV_ne (by decide), nI_clamp (by omega)]
      · show u2 (u2 (u2 (x_tokV (x_tokV V)) 11 (nI dn).toNatClampNeg s) 12 (nI dn).toNatClampNeg b) 13 (nI dn).toNatClampNeg (x_numV (x_tokV V)) 12 = _
        rw [u2_ne (by decide), u2_s, u2_ne (by decide), x_tokV_ne (by decide), x_tokV_ne (by decide), nI_clamp (by omega)]
      · show u2 (u2 (u2 (x_tokV (x_tokV V)) 11 (nI dn).toNatClampNeg s) 12 (nI dn).toNatClampNeg b) 13 (nI dn).toNatClampNeg (x_numV (x_tokV V)) 13 = _
        rw [u2_s, u2_ne (by decide), u2_ne (by decide), x_tokV_ne (by decide), x_tokV_ne (by decide), nI_clamp (by omega), n1]
      · rw [m_rJ, if_pos f2, u2_ne (by decide), u2_ne (by decide), u2_ne (by decide), u2_ne (by decide), u2_s, hT2, nI_clamp (by omega), hrow2 _ (by decide)]
      · rw [m_rJ, if_pos f2, u2_ne (by decide), u2_ne (by decide), u2_ne (by decide), u2_s, u2_ne (by decide), hT2, nI_clamp (by omega), hrow2 _ (by decide)]
      · rw [m_rJ, if_pos f2, u2_ne (by decide), u2_ne (by decide), u2_s, u2_ne (by decide), u2_ne (by decide), hT2, nI_clamp (by omega), hrow2 _ (by decide)]
      · rw [m_rJ, if_pos f2, u2_ne (by decide), u2_s, u2_ne (by decide), u2_ne (by decide), u2_ne (by decide), hT2, nI_clamp (by omega), hrow2 _ (by decide)]
      · show u2 (u2 (u2 (x_tokV (x_tokV V)) 11 (nI dn).toNatClampNeg s) 12 (nI dn).toNatClampNeg b) 13 (nI dn).toNatClampNeg (x_numV (x_tokV V)) 10 5 = _
        rw [u2_ne (by decide), u2_ne (by decide), u2_ne (by decide), x_tokV_ne (by decide), x_tokV_ne (by decide)]
    · have r2 : x_sgV (x_tokV V) 59 = x_ref (x_tokV (x_tokV V)) 1 := by rw [x_sgV, if_neg c2]
      obtain ⟨o1, o2⟩ := oc_bad (nD := nD) (T := T) (a0 := e) (V0 := V) (W0 := W) (n := 1) (Or.inl rfl) h2
      rw [if_neg c2, r2, m_rI, bz_f (fun q => c2 (sg.mpr q)), take_bad h2.2.1, flt_J o2]
      exact o1
  · have r1 : x_rnV V = x_ref (x_tokV V) 1 := by rw [x_rnV, if_neg c1]
    obtain ⟨o1, o2⟩ := oc_bad (nD := nD) (T := T) (a0 := e) (V0 := V) (W0 := W) (n := 1) (Or.inl rfl) h
    rw [if_neg c1, r1, bz_f (fun q => c1 (hs2.mpr q)), take_bad h.2.1, flt_I o2]
    exact o1
theorem tr_nt {L a e : Nat} {V W : Mv} (h : tr L a e V W) : x_nt V = (if m_naR W = 1718378868 then 1 else if m_naR W = 491394656372 then 2 else if m_naR W = 1818588019 then 3 else 0) ∧ (x_nt V = 0 ∨ ((x_nt V = 1 ∨ x_nt V = 2 ∨ x_nt V = 3) ∧ a + 4 ≤ e)) := by
  obtain ⟨-, a1, a2⟩ := tr_name h (i := 1) (by decide)
  obtain ⟨-, b1, b2⟩ := tr_name h (i := 2) (by decide)
  obtain ⟨-, c1, c2⟩ := tr_name h (i := 3) (by decide)
  have a1 : ¬ x_isnV V 1 = 0 ↔ m_naR W = 1718378868 := a1
  have b1 : ¬ x_isnV V 2 = 0 ↔ m_naR W = 491394656372 := b1
  have c1 : ¬ x_isnV V 3 = 0 ↔ m_naR W = 1818588019 := c1
  rw [x_nt]
  by_cases q1 : x_isnV V 1 = 0
  · rw [if_pos q1, if_neg (fun q => a1.mpr q q1)]
    by_cases q2 : x_isnV V 2 = 0
    · rw [if_pos q2, if_neg (fun q => b1.mpr q q2)]
      by_cases q3 : x_isnV V 3 = 0
      · rw [if_pos q3, if_neg (fun q => c1.mpr q q3)]
        exact ⟨rfl, Or.inl rfl⟩
      · rw [if_neg q3, if_pos (c1.mp q3)]
        exact ⟨rfl, Or.inr ⟨Or.inr (Or.inr rfl), c2 q3⟩⟩
    · rw [if_neg q2, if_pos (b1.mp q2)]
      exact ⟨rfl, Or.inr ⟨Or.inr (Or.inl rfl), b2 q2⟩⟩
  · rw [if_neg q1, if_pos (a1.mp q1)]
    exact ⟨rfl, Or.inr ⟨Or.inl rfl, a2 q1⟩⟩
