def m_aG (g : Nat → Int32) : Nat → Nat → Mv → Mv
  | 0, _, V => V
  | n + 1, i, V => m_aG g n (i + 1) (u2 V 1006 i (if 0 ≤ m_par V i - V 1003 i - g i then m_par V i - V 1003 i - g i else 0))
theorem m_aG_ne {g : Nat → Int32} {k : Nat} (h : k ≠ 1006) : ∀ n i V, m_aG g n i V k = V k
  | 0, _, _ => rfl
  | n + 1, i, V => by rw [m_aG, m_aG_ne h n, u2_ne h]
theorem m_airB_G {one l2 : Int32} : ∀ n i V, m_airB one l2 n i V = m_aG (fun i => if nI i = one then l2 else 0) n i V
  | 0, _, _ => rfl
  | n + 1, i, V => by rw [m_airB, m_aG, m_airB_G n]
theorem m_air_G {G : Nat → Int32} : ∀ n i V, V 1005 = G → m_air n i V = m_aG G n i V
  | 0, _, _ => fun _ => rfl
  | n + 1, i, V => fun h => by
    subst h
    rw [m_air, m_aG]
    exact m_air_G n (i + 1) _ (u2_ne (by decide))
theorem m_aG_lt {g : Nat → Int32} {q : Nat} : ∀ n i V, q < i → m_aG g n i V 1006 q = V 1006 q
  | 0, _, _ => fun _ => rfl
  | n + 1, i, V => fun h => by rw [m_aG, m_aG_lt n _ _ (by omega), u2_sn (by omega)]
theorem m_aG_at {g : Nat → Int32} {q : Nat} (hq : q < 1000) : ∀ n i V, i ≤ q → q < i + n → (V 1002 q = -1000000 ∨ ∃ j, j < q ∧ V 1002 q = nI j) → m_aG g n i V 1006 q = (if 0 ≤ m_par (m_aG g n i V) q - V 1003 q - g q then m_par (m_aG g n i V) q - V 1003 q - g q else 0)
  | 0, i, V => fun h1 h2 _ => by omega
  | n + 1, i, V => fun h1 h2 hp => by
    by_cases hqi : q = i
    · subst hqi
      have hm : m_par (m_aG g (n + 1) q V) q = m_par V q := by
        rw [m_par, m_par, m_aG_ne (k := 1002) (by decide)]
        rcases hp with hp | ⟨j, hj, hp⟩
        · rw [if_pos hp, if_pos hp]
        · rw [hp, nI_clamp (by omega), m_aG_lt (n + 1) q V hj]
      rw [hm, m_aG, m_aG_lt n _ _ (by omega), u2_ss]
    · have h := m_aG_at (g := g) hq n (i + 1) (u2 V 1006 i (if 0 ≤ m_par V i - V 1003 i - g i then m_par V i - V 1003 i - g i else 0)) (by omega) (by omega) (by rw [u2_ne (by decide)]; exact hp)
      rw [u2_ne (show (1003 : Nat) ≠ 1006 by decide)] at h
      rw [m_aG]
      exact h
def wsum (W : Mv) (g : Nat → Int) : Nat → Nat → Int
  | 0, _ => 0
  | n + 1, i => g i + (if W 1002 i = -1000000 then 0 else wsum W g n (W 1002 i).toNatClampNeg)
/-- the ways: each pipe's next is none or an earlier one -/
def wayOk (W : Mv) (nP : Nat) : Prop := ∀ i, i < nP → W 1002 i = -1000000 ∨ ∃ j, j < i ∧ W 1002 i = nI j
theorem wsum_f {W : Mv} {g : Nat → Int} {nP : Nat} (hn : nP ≤ 30) (hw : wayOk W nP) : ∀ n m i, i < n → i < m → i < nP → wsum W g n i = wsum W g m i
  | 0, _, _ => fun h => absurd h (by omega)
  | _ + 1, 0, _ => fun _ h => absurd h (by omega)
  | n + 1, m + 1, i => fun h1 h2 h3 => by
    rw [wsum, wsum]
    rcases hw i h3 with h | ⟨j, hj, h⟩
    · rw [if_pos h, if_pos h]
    · rw [if_neg (by rw [h]; exact nI_nb (by omega)), if_neg (by rw [h]; exact nI_nb (by omega)), h, nI_clamp (by omega), wsum_f hn hw n m j (by omega) (by omega) (by omega)]
theorem wsum_0 {W : Mv} {g : Nat → Int} {i : Nat} (h : W 1002 i = -1000000) : wsum W g (i + 1) i = g i := by
  rw [wsum, if_pos h]
  omega
theorem wsum_1 {W : Mv} {g : Nat → Int} {nP i j : Nat} (hn : nP ≤ 30) (hw : wayOk W nP) (hi : i < nP) (hj : j < i) (h : W 1002 i = nI j) : wsum W g (i + 1) i = g i + wsum W g (j + 1) j := by
  rw [wsum, if_neg (by rw [h]; exact nI_nb (by omega)), h, nI_clamp (by omega), wsum_f hn hw i (j + 1) j (by omega) (by omega) (by omega)]
theorem wsum_b {W : Mv} {g : Nat → Int} {nP B : Nat} (hn : nP ≤ 30) (hw : wayOk W nP) (hg : ∀ i, i < nP → 0 ≤ g i ∧ g i ≤ B) : ∀ N i, i < N → i < nP → 0 ≤ wsum W g (i + 1) i ∧ wsum W g (i + 1) i ≤ B * (i + 1)
  | 0, _ => fun h => absurd h (by omega)
  | N + 1, i => fun h1 h2 => by
    have hgi := hg i h2
    rcases hw i h2 with h | ⟨j, hj, h⟩
    · rw [wsum_0 h]
      refine ⟨hgi.1, Int.le_trans hgi.2 ?_⟩
      have : (B : Int) * 1 ≤ B * (i + 1) := Int.mul_le_mul_of_nonneg_left (by omega) (by omega)
      omega
    · rw [wsum_1 hn hw h2 hj h]
      have hj2 := wsum_b hn hw hg N j (by omega) (by omega)
      have : (B : Int) * (j + 1) ≤ B * i := Int.mul_le_mul_of_nonneg_left (by omega) (by omega)
      have e : (B : Int) * (i + 1) = B * i + B := by rw [Int.mul_add, Int.mul_one]
      omega
def airV (v : Int32) (A : Int) : Prop := (0 ≤ A ∧ v.toInt = A) ∨ (A < 0 ∧ v.toInt = 0)
theorem airV_eq {v w : Int32} {A : Int} (h1 : airV v A) (h2 : airV w A) : v = w := by
  apply Int32.toInt_inj.mp
  rcases h1 with h1 | h1 <;> rcases h2 with h2 | h2 <;> omega
theorem fl_air {P a b : Int32} {A : Int} (hP : airV P A) (hA : A ≤ 100) (ha : 0 ≤ a.toInt ∧ a.toInt ≤ 50) (hb : 0 ≤ b.toInt ∧ b.toInt ≤ 60) : airV (if 0 ≤ P - a - b then P - a - b else 0) (A - a.toInt - b.toInt) := by
  have z : (0 : Int32).toInt = 0 := by decide
  have e1 : (P - a).toInt = P.toInt - a.toInt := y_sub (by rcases hP with h | h <;> omega) (by rcases hP with h | h <;> omega)
  have e2 : (P - a - b).toInt = P.toInt - a.toInt - b.toInt := by rw [y_sub (by rw [e1]; rcases hP with h | h <;> omega) (by rw [e1]; rcases hP with h | h <;> omega), e1]
  unfold airV
  split
  · next h =>
    have h3 := Int32.le_iff_toInt_le.mp h
    rw [e2, z] at h3
    rw [e2]
    rcases hP with h | h <;> omega
  · next h =>
    have h3 : ¬ (0 : Int32).toInt ≤ (P - a - b).toInt := fun e => h (Int32.le_iff_toInt_le.mpr e)
    rw [e2, z] at h3
    rw [z]
    rcases hP with h | h <;> omega
theorem air_G {W : Mv} {g : Nat → Int32} {nP : Nat} (hn : nP ≤ 30) (hw : wayOk W nP) (h3 : ∀ i, i < nP → 0 ≤ (W 1003 i).toInt ∧ (W 1003 i).toInt ≤ 50) (hg : ∀ i, i < nP → 0 ≤ (g i).toInt ∧ (g i).toInt ≤ 60) : ∀ N i, i < N → i < nP → airV (m_aG g nP 0 W 1006 i) (100 - wsum W (fun i => (W 1003 i).toInt) (i + 1) i - wsum W (fun i => (g i).toInt) (i + 1) i)
  | 0, _ => fun h => absurd h (by omega)
  | N + 1, i => fun h1 h2 => by
    rw [m_aG_at (by omega) nP 0 W (by omega) (by omega) (hw i h2)]
    rcases hw i h2 with h | ⟨j, hj, h⟩
    · rw [wsum_0 h, wsum_0 h, m_par, m_aG_ne (by decide), if_pos h]
      exact fl_air (A := 100) (Or.inl ⟨by decide, by decide⟩) (by decide) (h3 i h2) (hg i h2)
    · rw [wsum_1 hn hw h2 hj h, wsum_1 hn hw h2 hj h, m_par, m_aG_ne (by decide), if_neg (show ¬ W 1002 i = -1000000 by rw [h]; exact nI_nb (by omega)), h, nI_clamp (by omega)]
      have hi := air_G hn hw h3 hg N j (by omega) (by omega)
      have b1 := wsum_b hn hw (B := 50) h3 (j + 1) j (by omega) (by omega)
      have b2 := wsum_b hn hw (B := 60) hg (j + 1) j (by omega) (by omega)
      have hf := fl_air hi (by omega) (h3 i h2) (hg i h2)
      rw [show 100 - ((W 1003 i).toInt + wsum W (fun i => (W 1003 i).toInt) (j + 1) j) - ((g i).toInt + wsum W (fun i => (g i).toInt) (j + 1) j) = 100 - wsum W (fun i => (W 1003 i).toInt) (j + 1) j - wsum W (fun i => (g i).toInt) (j + 1) j - (W 1003 i).toInt - (g i).toInt by omega]
      exact hf
