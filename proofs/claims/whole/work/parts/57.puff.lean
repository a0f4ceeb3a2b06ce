def m_ow (W : Mv) (i : Nat) (mi lt : Int32) : Int32 := if W 1017 i = 1 then W 1020 i + W 1018 i else if W 1017 i = 2 then (if mi = 0 then W 1020 i + W 1018 i else W 1020 i) else if W 1017 i = 3 then (if W 1018 i ≤ lt then W 1020 i else W 1020 i + W 1019 i) else W 1020 i
theorem m_o_eq {W W0 : Mv} {i : Nat} {mi lt : Int32} (hw : W0 1020 i = W 1020 i) : m_o2 W (m_o1 W W0 i mi) i lt = u2 W0 1020 i (m_ow W i mi lt) := by
  have hid : u2 W0 1020 i (W 1020 i) = W0 := u2_id hw
  rw [m_o2, m_o1, m_ow, hw]
  by_cases c1 : W 1017 i = 1
  · rw [if_pos c1, if_pos c1, if_neg (by rw [c1]; decide)]
  · rw [if_neg c1, if_neg c1]
    by_cases c2 : W 1017 i = 2
    · rw [if_pos c2, if_pos c2, if_neg (by rw [c2]; decide)]
      split
      · rfl
      · exact hid.symm
    · rw [if_neg c2, if_neg c2]
      by_cases c3 : W 1017 i = 3
      · rw [if_pos c3, if_pos c3]
        split
        · exact hid.symm
        · rw [hw]
      · rw [if_neg c3, if_neg c3]
        exact hid.symm
theorem x_puff_1 {U : Mv} {R : Mr} {i p1 : Nat} (h : ¬ x_air U R p1 < U (200 + i) 1) : x_puff U R i p1 = u2 (x_puff1 U (200 + i)) (200 + i) 11 (if x_paid (x_puff1 U (200 + i)) (200 + i) 1 = 0 then U (200 + i) 11 else U (200 + i) 11 + U (200 + i) 10) := by
  have hid : u2 (x_puff1 U (200 + i)) (200 + i) 11 (U (200 + i) 11) = x_puff1 U (200 + i) := u2_id (by rw [x_puff1, u2_sn (by decide), u2_sn (by decide)])
  rw [x_puff, if_neg h]
  split
  · exact hid.symm
  · rw [x_puff2]
theorem x_puff_0 {U : Mv} {R : Mr} {i p1 : Nat} (h : x_air U R p1 < U (200 + i) 1) : x_puff U R i p1 = u2 (x_puff0 U (200 + i)) (200 + i) 11 (if x_paid (x_puff0 U (200 + i)) (200 + i) 0 = 0 then U (200 + i) 11 else U (200 + i) 11 + U (200 + i) 10) := by
  have hid : u2 (x_puff0 U (200 + i)) (200 + i) 11 (U (200 + i) 11) = x_puff0 U (200 + i) := u2_id (by rw [x_puff0, u2_sn (by decide), u2_sn (by decide), u2_sn (by decide)])
  rw [x_puff, if_pos h]
  split
  · exact hid.symm
  · rw [x_puff2]
theorem dlP_puff {c c' nP : Nat} {r : Option Nat} {a b a' b' : Nat → Int32} (h : dlP c nP r a b) (ea : ∀ j, j ≠ 3 → j ≠ 5 → j ≠ 6 → j ≠ 11 → a' j = a j) (eb : ∀ k, 1008 ≤ k → k ≤ 1019 → k ≠ 1011 → k ≠ 1012 → k ≠ 1014 → k ≠ 1015 → b' k = b k) (h3 : a' 3 = b' 1011) (hl : -(60 * (c' : Int)) ≤ (b' 1011).toInt ∧ (b' 1011).toInt ≤ 60 * (c' : Int)) (h5 : a' 5 = b' 1014) (h6 : a' 6 = b' 1012) (h15 : b' 1015 = 0 ∨ b' 1015 = 1) (h11 : a' 11 = b' 1020) : dlP c' nP r a' b' := by
  obtain ⟨d1, d2, d3, -, ⟨d4, -, -⟩, d6, -, d8, -⟩ := h
  unfold dlP
  rw [ea 1 (by decide) (by decide) (by decide) (by decide), ea 2 (by decide) (by decide) (by decide) (by decide), ea 4 (by decide) (by decide) (by decide) (by decide), ea 7 (by decide) (by decide) (by decide) (by decide), ea 8 (by decide) (by decide) (by decide) (by decide), ea 9 (by decide) (by decide) (by decide) (by decide), ea 10 (by decide) (by decide) (by decide) (by decide), eb 1008 (by decide) (by decide) (by decide) (by decide) (by decide) (by decide), eb 1009 (by decide) (by decide) (by decide) (by decide) (by decide) (by decide), eb 1010 (by decide) (by decide) (by decide) (by decide) (by decide) (by decide), eb 1013 (by decide) (by decide) (by decide) (by decide) (by decide) (by decide), eb 1016 (by decide) (by decide) (by decide) (by decide) (by decide) (by decide), eb 1017 (by decide) (by decide) (by decide) (by decide) (by decide) (by decide), eb 1018 (by decide) (by decide) (by decide) (by decide) (by decide) (by decide), eb 1019 (by decide) (by decide) (by decide) (by decide) (by decide) (by decide)]
  exact ⟨d1, d2, d3, ⟨h3, hl.1, hl.2⟩, ⟨d4, h5, h6⟩, d6, h15, d8, h11⟩
/-- what is owed behind a puff: mv whether it moved, la the lateness behind it -/
theorem ow_eq {c nP : Nat} {r : Option Nat} {U W U1 : Mv} {t : Nat} {mv mi la : Int32} (h : dlP c nP r (U (200 + t)) (fun k => W k t)) (e8 : U1 (200 + t) 8 = U (200 + t) 8) (e9 : U1 (200 + t) 9 = U (200 + t) 9) (e3 : U1 (200 + t) 3 = la) (hm : (mv = 1 ∧ mi = 0) ∨ (mv = 0 ∧ mi = 1)) : (if x_paid U1 (200 + t) mv = 0 then U (200 + t) 11 else U (200 + t) 11 + U (200 + t) 10) = m_ow W t mi la := by
  obtain ⟨-, -, -, -, -, -, -, ⟨d8, d9⟩, d11⟩ := h
  have d8' : U (200 + t) 8 = W 1017 t := d8
  have d11' : U (200 + t) 11 = W 1020 t := d11
  rw [x_paid, m_ow, e8, e9, e3, d8', d11']
  rcases d9 with d | ⟨d, q⟩ | ⟨d, q⟩ | ⟨d, q, q2⟩
  · have d' : W 1017 t = 0 := d
    rw [d', if_neg (show ¬ (0 : Int32) = 1 by decide), if_neg (show ¬ (0 : Int32) = 2 by decide), if_neg (show ¬ (0 : Int32) = 3 by decide), if_pos rfl, if_neg (show ¬ (0 : Int32) = 1 by decide), if_neg (show ¬ (0 : Int32) = 2 by decide), if_neg (show ¬ (0 : Int32) = 3 by decide)]
  · have d' : W 1017 t = 1 := d
    have q' : U (200 + t) 10 = W 1018 t := q
    rw [d', if_pos rfl, if_neg (show ¬ (1 : Int32) = 0 by decide), if_pos rfl, q']
  · have d' : W 1017 t = 2 := d
    have q' : U (200 + t) 10 = W 1018 t := q
    rw [d', if_neg (show ¬ (2 : Int32) = 1 by decide), if_pos rfl, if_neg (show ¬ (2 : Int32) = 1 by decide), if_pos rfl, q']
    rcases hm with ⟨m1, m2⟩ | ⟨m1, m2⟩
    · rw [m1, m2, if_neg (by decide), if_pos rfl]
    · rw [m1, m2, if_pos rfl, if_neg (by decide)]
  · have d' : W 1017 t = 3 := d
    have q' : U (200 + t) 9 = W 1018 t := q
    have q2' : U (200 + t) 10 = W 1019 t := q2
    rw [d', if_neg (show ¬ (3 : Int32) = 1 by decide), if_neg (show ¬ (3 : Int32) = 2 by decide), if_pos rfl, if_neg (show ¬ (3 : Int32) = 1 by decide), if_neg (show ¬ (3 : Int32) = 2 by decide), if_pos rfl, q', q2']
    by_cases hl : la < W 1018 t
    · rw [bz_t hl, if_neg (show ¬ (1 : Int32) = 0 by decide), if_neg (Int32.not_le.mpr hl)]
    · rw [bz_f hl, if_pos rfl, if_pos (Int32.not_lt.mp hl)]
/-- one dial changes, and the count of the missed is put right -/
theorem rl_dial2 {c nP nD t : Nat} {U U' W W' : Mv} {K I : Mj} {R : Mr} (ht : t < nD) (hU : ∀ k j, k ≠ 200 + t → ¬ (k = 0 ∧ j = 7) → U' k j = U k j) (hm : U' 0 7 = mis W' nD) (hW : ∀ k j, (k < 1011 ∨ 1020 < k ∨ j ≠ t) → W' k j = W k j) (hd : dlP c nP (R (200 + t) 0) (U' (200 + t)) (fun k => W' k t)) (h : rl c nP nD U W K I R) : rl c nP nD U' W' K I R := by
  obtain ⟨⟨h1, h2, h3, h4, h5, h6⟩, hP, hD, hZ, hG, -, hf, hT, hB⟩ := h
  refine ⟨⟨h1, h2, by rw [hU 1 2 (by omega) (by omega)]; exact h3, by rw [hU 2 2 (by omega) (by omega)]; exact h4, by rw [hW 1000 1 (by omega)]; exact h5, by rw [hW 1000 7 (by omega)]; exact h6⟩, ?_, ?_, ?_, ?_, hm, ?_, ?_, ?_⟩
  · intro i hi
    exact rpP_ag (by omega) (fun q hq j => hU _ _ (by omega) (by omega)) (hW _ _ (by omega)) (hW _ _ (by omega)) (hW _ _ (by omega)) (hW _ _ (by omega)) (hP i hi)
  · intro d hdn
    by_cases hdt : d = t
    · subst hdt
      exact hd
    · exact dlP_ag (fun j => hU _ _ (by omega) (by omega)) (fun k h7 h8 => hW _ _ (by omega)) (hD d hdn)
  · intro d h7 h8 k h9 h10
    rw [hW _ _ (by omega)]
    exact hZ d h7 h8 k h9 h10
  · exact rG_ag (fun j => hU _ _ (by omega) (by omega)) (fun j h7 h8 => hW _ _ (by omega)) hG
  · rw [hU 10 5 (by omega) (by omega), hW 1000 33 (by omega)]
    exact hf
  · exact rT_ag (hU _ _ (by omega) (by omega)) (fun j => hU _ _ (by omega) (by omega)) (hW _ _ (by omega)) (fun j => hW _ _ (by omega)) hT
  · exact rB_ag (hU _ _ (by omega) (by omega)) (fun j => hU _ _ (by omega) (by omega)) (hW _ _ (by omega)) (fun j => hW _ _ (by omega)) hB
theorem lpI_snoc {f : Nat → Int32 → Int32} : ∀ n i a, lpI f (n + 1) i a = f (i + n) (lpI f n i a)
  | 0, i, a => rfl
  | n + 1, i, a => by
    rw [lpI, lpI_snoc n (i + 1) (f i a), lpI]
    rw [show i + 1 + n = i + (n + 1) by omega]
theorem m_st_ne {W : Mv} {i k j : Nat} (h : k < 1011 ∨ 1020 < k ∨ j ≠ i) : m_st W i k j = W k j := by
  rw [m_st]
  split
  · rw [m_o_eq (by rw [m_p0, u2_ne (by decide), u2_ne (by decide), u2_ne (by decide), u2_ne (by decide)]), m_p0, u2_un (by omega), u2_un (by omega), u2_un (by omega), u2_un (by omega), u2_un (by omega)]
  · rw [m_o_eq (by rw [m_p1, u2_ne (by decide), u2_ne (by decide), u2_ne (by decide), u2_ne (by decide)]), m_p1, u2_un (by omega), u2_un (by omega), u2_un (by omega), u2_un (by omega), u2_un (by omega)]
