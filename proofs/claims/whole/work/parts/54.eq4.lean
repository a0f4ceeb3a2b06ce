theorem sz_int {x : Int32} (h : -2147483648 < x.toInt) : 0 ≤ (m_size x).toInt ∧ ((m_size x).toInt = 0 ↔ x.toInt = 0) := by
  have z : (0 : Int32).toInt = 0 := by decide
  have hlt := Int32.toInt_lt x
  rw [m_size]
  split
  · next h1 =>
    have h2 := Int32.le_iff_toInt_le.mp h1
    omega
  · next h1 =>
    have h2 : ¬ (0 : Int32).toInt ≤ x.toInt := fun e => h1 (Int32.le_iff_toInt_le.mpr e)
    have h3 : (-x).toInt = -x.toInt := by
      rw [Int32.toInt_neg, Int.bmod_def]
      omega
    omega
theorem i32_z {x : Int32} : x = 0 ↔ x.toInt = 0 := by
  have z : (0 : Int32).toInt = 0 := by decide
  constructor
  · intro h
    rw [h, z]
  · intro h
    exact Int32.toInt_inj.mp (by rw [h, z])
theorem nI_nb {t : Nat} (h : t < 1000) : ¬ nI t = -1000000 := by
  intro e
  have h1 := nI_toInt (n := t) (by omega)
  rw [e] at h1
  have h2 : (-1000000 : Int32).toInt = -1000000 := by decide
  omega
def mwI (W : Mv) (nD : Nat) (w : Option Nat) (b mb : Int32) : Prop := (w = none ∧ b = 0 ∧ mb = -1000000) ∨ ∃ t, t < nD ∧ w = some (200 + t) ∧ mb = nI t ∧ b = m_size (W 1011 t)
theorem e_mwL {U W : Mv} {nD : Nat} (hn : nD ≤ 40) (hl : ∀ i, i < nD → U (200 + i) 3 = W 1011 i ∧ -2147483648 < (W 1011 i).toInt) : ∀ n i w b mb, i + n = nD → mwI W nD w b mb → mwI W nD (x_mw U n i w b) (match x_mw U n i w b with
    | none => 0
    | some k => m_size (W 1011 (k - 200))) (m_mw W n i mb)
  | 0, i, w, b, mb => fun _ h => by
    rw [x_mw, m_mw]
    rcases h with ⟨h1, h2, h3⟩ | ⟨t, h0, h1, h2, h3⟩
    · rw [h1]
      exact Or.inl ⟨rfl, rfl, h3⟩
    · rw [h1]
      exact Or.inr ⟨t, h0, rfl, h2, by show m_size (W 1011 (200 + t - 200)) = _; rw [Nat.add_sub_cancel_left]⟩
  | n + 1, i, w, b, mb => fun hi h => by
    obtain ⟨e3, eb⟩ := hl i (by omega)
    have hs := sz_int eb
    rw [x_mw, m_mw, e3, e_abs]
    have z : (0 : Int32).toInt = 0 := by decide
    rcases h with ⟨h1, h2, h3⟩ | ⟨t, h0, h1, h2, h3⟩
    · subst h1 h2 h3
      by_cases hz : W 1011 i = 0
      · have hle : m_size (W 1011 i) ≤ 0 := Int32.le_iff_toInt_le.mpr (by rw [z, hs.2.mpr (i32_z.mp hz)]; omega)
        rw [if_pos hle, if_pos hz]
        exact e_mwL hn hl n (i + 1) _ _ _ (by omega) (Or.inl ⟨rfl, rfl, rfl⟩)
      · have hle : ¬ m_size (W 1011 i) ≤ 0 := fun e => hz (i32_z.mpr (hs.2.mp (by have := Int32.le_iff_toInt_le.mp e; omega)))
        rw [if_neg hle, if_neg hz, if_pos rfl]
        exact e_mwL hn hl n (i + 1) _ _ _ (by omega) (Or.inr ⟨i, by omega, rfl, rfl, rfl⟩)
    · subst h1 h2 h3
      have ht := sz_int (hl t h0).2
      by_cases hz : W 1011 i = 0
      · have hle : m_size (W 1011 i) ≤ m_size (W 1011 t) := Int32.le_iff_toInt_le.mpr (by rw [hs.2.mpr (i32_z.mp hz)]; exact ht.1)
        rw [if_pos hle, if_pos hz]
        exact e_mwL hn hl n (i + 1) _ _ _ (by omega) (Or.inr ⟨t, h0, rfl, rfl, rfl⟩)
      · rw [if_neg hz, if_neg (nI_nb (by omega)), nI_clamp (by omega)]
        by_cases hle : m_size (W 1011 i) ≤ m_size (W 1011 t)
        · rw [if_pos hle, if_pos hle]
          exact e_mwL hn hl n (i + 1) _ _ _ (by omega) (Or.inr ⟨t, h0, rfl, rfl, rfl⟩)
        · rw [if_neg hle, if_neg hle]
          exact e_mwL hn hl n (i + 1) _ _ _ (by omega) (Or.inr ⟨i, by omega, rfl, rfl, rfl⟩)
theorem e_roundL {c nP nD : Nat} {K I : Mj} {R : Mr} (hc : c ≤ 1000000) : ∀ n (U W : Mv) a, rl c nP nD U W K I R → (x_roundL nD n U a).2 = (m_roundL nD n W a).2 ∧ rl c nP nD (x_roundL nD n U a).1 (m_roundL nD n W a).1 K I R
  | 0, U, W, a => fun h => ⟨rfl, h⟩
  | n + 1, U, W, a => fun h => by
    have hm := e_mwL (U := U) (W := W) (nD := nD) h.1.2.1 (fun i hi => ⟨(h.2.2.1 i hi).2.2.2.1.1, by have h1 : -(60 * (c : Int)) ≤ (W 1011 i).toInt := (h.2.2.1 i hi).2.2.2.1.2.1; omega⟩) nD 0 none 0 (-1000000) (by omega) (Or.inl ⟨rfl, rfl, rfl⟩)
    rw [x_roundL, m_roundL]
    rcases hm with ⟨h1, -, h3⟩ | ⟨t, h0, h1, h2, -⟩
    · rw [h1, if_pos h3]
      exact ⟨rfl, h⟩
    · rw [h1, h2, if_neg (nI_nb (by have := h.1.2.1; omega)), nI_clamp (by have := h.1.2.1; omega)]
      exact e_roundL hc n _ _ _ (e_right1 h h0)
theorem e_round {c nP nD : Nat} {U W : Mv} {K I : Mj} {R : Mr} (hc : c ≤ 1000000) (h : rl c nP nD U W K I R) (x : Int32) : x_round U nD x = m_round W nD x ∧ rl c nP nD (x_roundV U nD x) (m_roundV W nD x) K I R := by
  rw [x_round, m_round, x_roundV, m_roundV]
  by_cases hx : 1 ≤ x ∧ x ≤ 10
  · rw [if_pos hx, if_pos hx, if_pos hx, if_pos hx]
    exact e_roundL hc _ _ _ _ (rl_0 h)
  · rw [if_neg hx, if_neg hx, if_neg hx, if_neg hx]
    exact ⟨rfl, rl_0 h⟩
