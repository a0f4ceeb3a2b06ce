/-! contracts: names and numbers of both sides (wb_ and g_or rows began as the kit's rows for pasting) -/
theorem wb_tb (n : Nat) : (lN n).toBitVec = BitVec.ofNat 64 n := rfl
theorem wb_inj {a b : Int64} (h : a.toBitVec = b.toBitVec) : a = b := Int64.toBitVec_inj.mp h
theorem wb_c : ∀ k, k < 64 → ((nI k).toInt64 &&& 63) = lN k := by decide +kernel
theorem wb_sm : ∀ k, k < 64 → (BitVec.ofNat 64 k).smod 64 = BitVec.ofNat 64 k := by decide +kernel
theorem wb_shl (n : Nat) {k : Nat} (hk : k < 64) : lN n <<< ((nI k).toInt64 &&& 63) = lN (n * 2 ^ k) := by
  rw [wb_c k hk]
  apply wb_inj
  rw [Int64.toBitVec_shiftLeft, wb_tb, wb_tb, wb_tb, wb_sm k hk]
  apply BitVec.eq_of_toNat_eq
  rw [BitVec.shiftLeft_eq', BitVec.toNat_shiftLeft, BitVec.toNat_ofNat, BitVec.toNat_ofNat, BitVec.toNat_ofNat, Nat.mod_eq_of_lt (show k < 2 ^ 64 by omega), Nat.shiftLeft_eq, Nat.mul_mod, Nat.mod_mod, ← Nat.mul_mod]
theorem u_tn {n : Nat} (h : n < 2 ^ 64) : (UInt64.ofNat n).toNat = n := Nat.mod_eq_of_lt h
theorem g_or {k p a b : Nat} (hp : 2 ^ k = p) (ha : a < p) (h : b * p + a < 2 ^ 64) : lN (b * p) ||| lN a = lN (b * p + a) := by
  subst hp
  have h1 : b * 2 ^ k ||| a = b * 2 ^ k + a := by rw [← Nat.shiftLeft_eq, Nat.shiftLeft_add_eq_or_of_lt ha]
  have h3 : UInt64.ofNat (b * 2 ^ k) ||| UInt64.ofNat a = UInt64.ofNat (b * 2 ^ k + a) := UInt64.toNat_inj.mp (by rw [UInt64.toNat_or, u_tn (by omega), u_tn (by omega), u_tn h, h1])
  have h2 := congrArg UInt64.toInt64 h3
  exact h2
def nvD (D : Nat → Nat) : Nat → Nat → Nat → Nat
  | 0, _, v => v
  | n + 1, t, v => nvD D n (t + 1) (256 * v + D t)
theorem e_naL {W : Mv} {L a : Nat} (hs : W 1000 36 = 2) (hb : ∀ t, t < L → inx 256 (W 1031 t)) : ∀ n t v, a + t + n ≤ L → v < 256 ^ t → t + n ≤ 6 → m_naL W n (a + t) (lN v) = lN (nvD (fun i => (W 1031 (a + i)).toNatClampNeg) n t v) ∧ nvD (fun i => (W 1031 (a + i)).toNatClampNeg) n t v < 256 ^ (t + n)
  | 0, _, _ => fun _ h2 _ => ⟨rfl, h2⟩
  | n + 1, t, v => fun h1 h2 h3 => by
    have hx := hb (a + t) (by omega)
    have hc := (inx_c hx).1
    have hp : 256 ^ t ≤ 256 ^ 5 := Nat.pow_le_pow_right (by decide) (by omega)
    have h5 : 256 ^ 5 = 1099511627776 := by decide
    have e1 : lN v <<< ((8 : Int32).toInt64 &&& 63) = lN (v * 2 ^ 8) := wb_shl v (k := 8) (by decide)
    have e2 : (W 1031 (a + t)).toInt64 = lN (W 1031 (a + t)).toNatClampNeg := by
      rw [inx_e hx, nI_l (by omega), nI_clamp (by omega)]
    have e3 := g_or (k := 8) (p := 2 ^ 8) (a := (W 1031 (a + t)).toNatClampNeg) (b := v) rfl (by omega) (by omega)
    have e4 : v * 2 ^ 8 + (W 1031 (a + t)).toNatClampNeg = 256 * v + (W 1031 (a + t)).toNatClampNeg := by omega
    rw [m_naL, if_pos hs, e1, e2, e3, e4, nvD]
    have r := e_naL (a := a) hs hb n (t + 1) (256 * v + (W 1031 (a + t)).toNatClampNeg) (by omega) (by
      have hq : ∀ P d : Nat, d < 256 → v < P → 256 * v + d < P * 256 := by
        intro P d hd hP
        omega
      rw [Nat.pow_succ]
      exact hq _ _ hc h2) (by omega)
    rw [show a + t + 1 = a + (t + 1) by omega]
    exact ⟨r.1, by rw [show t + (n + 1) = t + 1 + n by omega]; exact r.2⟩
theorem nv_w (D : Nat → Nat) (n : Nat) (h1 : 1 ≤ n) (h6 : n ≤ 6) (hD : ∀ t, t < n → 97 ≤ D t ∧ D t ≤ 122) :
    (nvD D n 0 0 = 1684627820 ↔ (n = 4 ∧ D 0 = 100 ∧ D 1 = 105 ∧ D 2 = 97 ∧ D 3 = 108)) ∧ (nvD D n 0 0 = 1718378868 ↔ (n = 4 ∧ D 0 = 102 ∧ D 1 = 108 ∧ D 2 = 97 ∧ D 3 = 116)) ∧ (nvD D n 0 0 = 491394656372 ↔ (n = 5 ∧ D 0 = 114 ∧ D 1 = 105 ∧ D 2 = 103 ∧ D 3 = 104 ∧ D 4 = 116)) ∧ (nvD D n 0 0 = 1818588019 ↔ (n = 4 ∧ D 0 = 108 ∧ D 1 = 101 ∧ D 2 = 115 ∧ D 3 = 115)) := by
  obtain rfl | rfl | rfl | rfl | rfl | rfl : n = 1 ∨ n = 2 ∨ n = 3 ∨ n = 4 ∨ n = 5 ∨ n = 6 := by omega
  · have d0 := hD 0 (by decide)
    simp only [nvD, Nat.zero_add, Nat.reduceAdd]
    refine ⟨?_, ?_, ?_, ?_⟩ <;> constructor <;> intro h <;> omega
  · have d0 := hD 0 (by decide)
    have d1 := hD 1 (by decide)
    simp only [nvD, Nat.zero_add, Nat.reduceAdd]
    refine ⟨?_, ?_, ?_, ?_⟩ <;> constructor <;> intro h <;> omega
  · have d0 := hD 0 (by decide)
    have d1 := hD 1 (by decide)
    have d2 := hD 2 (by decide)
    simp only [nvD, Nat.zero_add, Nat.reduceAdd]
    refine ⟨?_, ?_, ?_, ?_⟩ <;> constructor <;> intro h <;> omega
  · have d0 := hD 0 (by decide)
    have d1 := hD 1 (by decide)
    have d2 := hD 2 (by decide)
    have d3 := hD 3 (by decide)
    simp only [nvD, Nat.zero_add, Nat.reduceAdd]
    refine ⟨⟨fun h => ⟨trivial, by omega, by omega, by omega, by omega⟩, fun h => by omega⟩, ⟨fun h => ⟨trivial, by omega, by omega, by omega, by omega⟩, fun h => by omega⟩, ⟨fun h => by omega, fun h => by omega⟩, ⟨fun h => ⟨trivial, by omega, by omega, by omega, by omega⟩, fun h => by omega⟩⟩
  · have d0 := hD 0 (by decide)
    have d1 := hD 1 (by decide)
    have d2 := hD 2 (by decide)
    have d3 := hD 3 (by decide)
    have d4 := hD 4 (by decide)
    simp only [nvD, Nat.zero_add, Nat.reduceAdd]
    refine ⟨⟨fun h => by omega, fun h => by omega⟩, ⟨fun h => by omega, fun h => by omega⟩, ⟨fun h => ⟨trivial, by omega, by omega, by omega, by omega, by omega⟩, fun h => by omega⟩, ⟨fun h => by omega, fun h => by omega⟩⟩
  · have d0 := hD 0 (by decide)
    have d1 := hD 1 (by decide)
    have d2 := hD 2 (by decide)
    have d3 := hD 3 (by decide)
    have d4 := hD 4 (by decide)
    have d5 := hD 5 (by decide)
    simp only [nvD, Nat.zero_add, Nat.reduceAdd]
    refine ⟨?_, ?_, ?_, ?_⟩ <;> constructor <;> intro h <;> omega
theorem x_nm_iff {B : Nat → Int32} {a i : Nat} : ∀ n t, (x_nm B a i n t = 0 ∨ x_nm B a i n t = 1) ∧ (¬ x_nm B a i n t = 0 ↔ ∀ k, t ≤ k → k < t + n → B (a + k) = s_ch i k)
  | 0, t => ⟨Or.inr rfl, ⟨fun _ k h1 h2 => absurd h2 (by omega), fun _ => by rw [x_nm]; decide⟩⟩
  | n + 1, t => by
    obtain ⟨r1, r2⟩ := x_nm_iff (B := B) (a := a) (i := i) n (t + 1)
    rw [x_nm]
    by_cases h : B (a + t) = s_ch i t
    · rw [if_pos h]
      refine ⟨r1, r2.trans ⟨fun q k h1 h2 => ?_, fun q k h1 h2 => q k (by omega) (by omega)⟩⟩
      by_cases hk : k = t
      · rw [hk]
        exact h
      · exact q k (by omega) (by omega)
    · rw [if_neg h]
      exact ⟨Or.inl rfl, ⟨fun q => absurd rfl q, fun q => absurd (q t (by omega) (by omega)) h⟩⟩
theorem m_na_no {W : Mv} (h : ¬ W 1000 36 = 2) : m_naR W = 0 := by
  rw [m_naR]
  cases (W 1000 38).toNatClampNeg - (W 1000 37).toNatClampNeg with
  | zero => rfl
  | succ n => rw [m_naL, if_neg h]
def nwd (i : Nat) : Int64 := match i with
  | 0 => 1684627820 | 1 => 1718378868 | 2 => 491394656372 | _ => 1818588019
theorem tr_name {L a e i : Nat} {V W : Mv} (h : tr L a e V W) (hi : i < 4) : (x_isnV V i = 0 ∨ x_isnV V i = 1) ∧ (¬ x_isnV V i = 0 ↔ m_naR W = nwd i) ∧ (¬ x_isnV V i = 0 → a + 4 ≤ e) := by
  obtain ⟨⟨g1, g2, g3, g4⟩, -, l1, l2, v3, v4, w7, w5, w8, hk⟩ := h
  have hn0 : ¬ (0 : Int64) = nwd i := by
    obtain rfl | rfl | rfl | rfl : i = 0 ∨ i = 1 ∨ i = 2 ∨ i = 3 := by omega
    · decide
    · decide
    · decide
    · decide
  by_cases hs : W 1000 36 = 2
  · have hk2 : V 8 2 = 1 ∧ a < e ∧ e ≤ a + 6 ∧ ∀ i, a ≤ i → i < e → 97 ≤ W 1031 i ∧ W 1031 i ≤ 122 := by
      rcases hk with ⟨-, q, -⟩ | ⟨q1, -, q3, q4, q5⟩ | ⟨-, q, -⟩ | ⟨-, q, -⟩ | ⟨-, q, -⟩
      · rw [hs] at q; exact absurd q (by decide)
      · exact ⟨q1, q3, q4, q5⟩
      · rw [hs] at q; exact absurd q (by decide)
      · rw [hs] at q; exact absurd q (by decide)
      · rw [hs] at q; exact absurd q (by decide)
    obtain ⟨k1, k2, k3, k4⟩ := hk2
    have hD : ∀ t, t < e - a → 97 ≤ (W 1031 (a + t)).toNatClampNeg ∧ (W 1031 (a + t)).toNatClampNeg ≤ 122 := fun t ht => by
      have r := i_rng (A := 97) (B := 122) (by decide) (by decide) (k4 (a + t) (by omega) (by omega))
      have h1 : (W 1031 (a + t)).toNatClampNeg = (W 1031 (a + t)).toInt.toNat := rfl
      omega
    have hB : ∀ t, t < e - a → V 9 (a + t) = nI (W 1031 (a + t)).toNatClampNeg := fun t ht => by
      obtain ⟨q1, q2⟩ := g4 (a + t) (by omega)
      have r := i_rng (A := 97) (B := 122) (by decide) (by decide) (k4 (a + t) (by omega) (by omega))
      rw [q2, bq_lo q1 (by omega)]
      exact inx_e q1
    have hna : m_naR W = lN (nvD (fun i => (W 1031 (a + i)).toNatClampNeg) (e - a) 0 0) ∧ nvD (fun i => (W 1031 (a + i)).toNatClampNeg) (e - a) 0 0 < 281474976710656 := by
      have r := e_naL (a := a) hs (fun t ht => (g4 t ht).1) (e - a) 0 0 (by omega) (by decide) (by omega)
      rw [m_naR, w8, w7, nI_clamp (by omega), nI_clamp (by omega)]
      refine ⟨r.1, Nat.lt_of_lt_of_le r.2 ?_⟩
      have : 256 ^ (0 + (e - a)) ≤ 256 ^ 6 := Nat.pow_le_pow_right (by decide) (by omega)
      exact Nat.le_trans this (by decide)
    have hw := nv_w (fun i => (W 1031 (a + i)).toNatClampNeg) (e - a) (by omega) (by omega) hD
    obtain ⟨x1, x2⟩ := x_nm_iff (B := V 9) (a := a) (i := i) (s_len i) 0
    have hq : ∀ c : Nat, c < 2 ^ 63 → (lN (nvD (fun i => (W 1031 (a + i)).toNatClampNeg) (e - a) 0 0) = lN c ↔ nvD (fun i => (W 1031 (a + i)).toNatClampNeg) (e - a) 0 0 = c) := fun c hc => pk_lEQ (by omega) hc
    have hlen : (nI e - nI a = nI (s_len i)) ↔ e - a = s_len i := by
      have : s_len i < 2 ^ 31 := by
        obtain rfl | rfl | rfl | rfl : i = 0 ∨ i = 1 ∨ i = 2 ∨ i = 3 := by omega
        · decide
        · decide
        · decide
        · decide
      rw [pk_sub l1]
      exact nI_eq (by omega) this
    have hch : ∀ t c : Nat, t < e - a → c < 1000 → (V 9 (a + t) = nI c ↔ (W 1031 (a + t)).toNatClampNeg = c) := fun t c ht hc => by
      rw [hB t ht]
      have := hD t ht
      exact nI_eq (by omega) (by omega)
    rw [x_isnV, x_isn, if_pos k1, v3, v4, nI_clamp (by omega), nI_clamp (by omega), hna.1]
    have main : (¬ (if nI e - nI a = nI (s_len i) then x_nm (V 9) a i (s_len i) 0 else 0) = 0) ↔ (e - a = s_len i ∧ ∀ k, 0 ≤ k → k < 0 + s_len i → V 9 (a + k) = s_ch i k) := by
      by_cases hl : e - a = s_len i
      · rw [if_pos (hlen.mpr hl), x2]
        exact ⟨fun q => ⟨hl, q⟩, fun q => q.2⟩
      · rw [if_neg (fun q => hl (hlen.mp q))]
        exact ⟨fun q => absurd rfl q, fun q => absurd q.1 hl⟩
    refine ⟨?_, ?_, ?_⟩
    · split
      · exact x1
      · exact Or.inl rfl
    · rw [main]
      obtain rfl | rfl | rfl | rfl : i = 0 ∨ i = 1 ∨ i = 2 ∨ i = 3 := by omega
      · refine Iff.trans ?_ (Iff.trans hw.1.symm (hq 1684627820 (by decide)).symm)
        constructor
        · intro q
          have ql : e - a = 4 := q.1
          exact ⟨ql, (hch 0 100 (by omega) (by decide)).mp (q.2 0 (by decide) (by decide)), (hch 1 105 (by omega) (by decide)).mp (q.2 1 (by decide) (by decide)), (hch 2 97 (by omega) (by decide)).mp (q.2 2 (by decide) (by decide)), (hch 3 108 (by omega) (by decide)).mp (q.2 3 (by decide) (by decide))⟩
        · rintro ⟨ql, q0, q1, q2, q3⟩
          refine ⟨ql, fun k _ hk => ?_⟩
          have hk4 : k < 4 := hk
          obtain rfl | rfl | rfl | rfl : k = 0 ∨ k = 1 ∨ k = 2 ∨ k = 3 := by omega
          · exact (hch 0 100 (by omega) (by decide)).mpr q0
          · exact (hch 1 105 (by omega) (by decide)).mpr q1
          · exact (hch 2 97 (by omega) (by decide)).mpr q2
          · exact (hch 3 108 (by omega) (by decide)).mpr q3
      · refine Iff.trans ?_ (Iff.trans hw.2.1.symm (hq 1718378868 (by decide)).symm)
        constructor
        · intro q
          have ql : e - a = 4 := q.1
          exact ⟨ql, (hch 0 102 (by omega) (by decide)).mp (q.2 0 (by decide) (by decide)), (hch 1 108 (by omega) (by decide)).mp (q.2 1 (by decide) (by decide)), (hch 2 97 (by omega) (by decide)).mp (q.2 2 (by decide) (by decide)), (hch 3 116 (by omega) (by decide)).mp (q.2 3 (by decide) (by decide))⟩
        · rintro ⟨ql, q0, q1, q2, q3⟩
          refine ⟨ql, fun k _ hk => ?_⟩
          have hk4 : k < 4 := hk
          obtain rfl | rfl | rfl | rfl : k = 0 ∨ k = 1 ∨ k = 2 ∨ k = 3 := by omega
          · exact (hch 0 102 (by omega) (by decide)).mpr q0
          · exact (hch 1 108 (by omega) (by decide)).mpr q1
          · exact (hch 2 97 (by omega) (by decide)).mpr q2
          · exact (hch 3 116 (by omega) (by decide)).mpr q3
      · refine Iff.trans ?_ (Iff.trans hw.2.2.1.symm (hq 491394656372 (by decide)).symm)
        constructor
        · intro q
          have ql : e - a = 5 := q.1
          exact ⟨ql, (hch 0 114 (by omega) (by decide)).mp (q.2 0 (by decide) (by decide)), (hch 1 105 (by omega) (by decide)).mp (q.2 1 (by decide) (by decide)), (hch 2 103 (by omega) (by decide)).mp (q.2 2 (by decide) (by decide)), (hch 3 104 (by omega) (by decide)).mp (q.2 3 (by decide) (by decide)), (hch 4 116 (by omega) (by decide)).mp (q.2 4 (by decide) (by decide))⟩
        · rintro ⟨ql, q0, q1, q2, q3, q4⟩
          refine ⟨ql, fun k _ hk => ?_⟩
          have hk4 : k < 5 := hk
          obtain rfl | rfl | rfl | rfl | rfl : k = 0 ∨ k = 1 ∨ k = 2 ∨ k = 3 ∨ k = 4 := by omega
          · exact (hch 0 114 (by omega) (by decide)).mpr q0
          · exact (hch 1 105 (by omega) (by decide)).mpr q1
          · exact (hch 2 103 (by omega) (by decide)).mpr q2
          · exact (hch 3 104 (by omega) (by decide)).mpr q3
          · exact (hch 4 116 (by omega) (by decide)).mpr q4
      · refine Iff.trans ?_ (Iff.trans hw.2.2.2.symm (hq 1818588019 (by decide)).symm)
        constructor
        · intro q
          have ql : e - a = 4 := q.1
          exact ⟨ql, (hch 0 108 (by omega) (by decide)).mp (q.2 0 (by decide) (by decide)), (hch 1 101 (by omega) (by decide)).mp (q.2 1 (by decide) (by decide)), (hch 2 115 (by omega) (by decide)).mp (q.2 2 (by decide) (by decide)), (hch 3 115 (by omega) (by decide)).mp (q.2 3 (by decide) (by decide))⟩
        · rintro ⟨ql, q0, q1, q2, q3⟩
          refine ⟨ql, fun k _ hk => ?_⟩
          have hk4 : k < 4 := hk
          obtain rfl | rfl | rfl | rfl : k = 0 ∨ k = 1 ∨ k = 2 ∨ k = 3 := by omega
          · exact (hch 0 108 (by omega) (by decide)).mpr q0
          · exact (hch 1 101 (by omega) (by decide)).mpr q1
          · exact (hch 2 115 (by omega) (by decide)).mpr q2
          · exact (hch 3 115 (by omega) (by decide)).mpr q3
    · intro q
      have ql := (main.mp q).1
      have : 4 ≤ s_len i := by
        obtain rfl | rfl | rfl | rfl : i = 0 ∨ i = 1 ∨ i = 2 ∨ i = 3 := by omega
        · decide
        · decide
        · decide
        · decide
      omega
  · have hv : ¬ V 8 2 = 1 := fun q => by
      rcases hk with ⟨q1, -⟩ | ⟨-, q2, -⟩ | ⟨q1, -⟩ | ⟨q1, -⟩ | ⟨q1, -⟩
      · rw [q] at q1; exact absurd q1 (by decide)
      · exact hs q2
      · rw [q] at q1; exact absurd q1 (by decide)
      · rw [q] at q1; exact absurd q1 (by decide)
      · rw [q] at q1; exact absurd q1 (by decide)
    rw [x_isnV, x_isn, if_neg hv, m_na_no hs]
    exact ⟨Or.inl rfl, ⟨fun q => absurd rfl q, fun q => absurd q hn0⟩, fun q => absurd rfl q⟩
theorem e_nuL {W : Mv} {B : Nat → Int32} (hs : W 1000 36 = 3) : ∀ n t v, (∀ i, t ≤ i → i < t + n → B i = W 1031 i) → m_nuL W n t v = x_num B n t v
  | 0, _, _ => fun _ => rfl
  | n + 1, t, v => fun h => by rw [m_nuL, if_pos hs, x_num, h t (by omega) (by omega), e_nuL hs n (t + 1) _ (fun i h1 h2 => h i (by omega) (by omega))]
theorem tr_num {L a e : Nat} {V W : Mv} (h : tr L a e V W) (hs : V 8 2 = 2) : m_nuR W = x_numV V ∧ W 1000 36 = 3 ∧ a < e := by
  obtain ⟨⟨g1, g2, g3, g4⟩, -, l1, l2, v3, v4, w7, w5, w8, hk⟩ := h
  rcases hk with ⟨q, -⟩ | ⟨q, -⟩ | ⟨-, q2, q3, q4, q5⟩ | ⟨q, -⟩ | ⟨q, -⟩
  · rw [hs] at q; exact absurd q (by decide)
  · rw [hs] at q; exact absurd q (by decide)
  · refine ⟨?_, q2, q3⟩
    rw [m_nuR, x_numV, w8, w7, v3, v4, nI_clamp (by omega), nI_clamp (by omega)]
    refine e_nuL q2 _ _ _ (fun i h1 h2 => ?_)
    obtain ⟨p1, p2⟩ := g4 i (by omega)
    have r := i_rng (A := 48) (B := 57) (by decide) (by decide) (q5 i h1 (by omega))
    rw [p2, bq_lo p1 (by omega)]
  · rw [hs] at q; exact absurd q (by decide)
  · rw [hs] at q; exact absurd q (by decide)
/-- sorts agree -/
theorem tr_s {L a e : Nat} {V W : Mv} (h : tr L a e V W) : (V 8 2 = 2 ↔ W 1000 36 = 3) ∧ (V 8 2 = 3 ↔ W 1000 36 = 4) ∧ (V 8 2 = 0 ↔ W 1000 36 = 1) ∧ (¬ V 8 2 = 0 → a < e) ∧ (V 8 2 = 3 → a < L) := by
  obtain ⟨⟨g1, g2, g3, g4⟩, -, l1, l2, v3, v4, w7, w5, w8, hk⟩ := h
  rcases hk with ⟨q1, q2, q3⟩ | ⟨q1, q2, q3, -⟩ | ⟨q1, q2, q3, -⟩ | ⟨q1, q2, q3⟩ | ⟨q1, q2, q3⟩
  · rw [q1, q2]; exact ⟨by decide, by decide, by decide, fun q => absurd rfl q, fun q => absurd q (by decide)⟩
  · rw [q1, q2]; exact ⟨by decide, by decide, by decide, fun _ => q3, fun q => absurd q (by decide)⟩
  · rw [q1, q2]; exact ⟨by decide, by decide, by decide, fun _ => q3, fun q => absurd q (by decide)⟩
  · rw [q1, q2]; exact ⟨by decide, by decide, by decide, fun _ => q3, fun _ => by omega⟩
  · rw [q1, q2]; exact ⟨by decide, by decide, by decide, fun _ => q3, fun q => absurd q (by decide)⟩
theorem tr_sg {L a e : Nat} {V W : Mv} {c : Int32} (hc : 0 ≤ c.toInt ∧ c.toInt < 128) (h : tr L a e V W) : x_sg V c ↔ m_is W c := by
  have hs := tr_s h
  obtain ⟨⟨g1, g2, g3, g4⟩, -, l1, l2, v3, v4, w7, w5, w8, hk⟩ := h
  rw [x_sg, m_is, v3, w7, nI_clamp (by omega)]
  constructor
  · rintro ⟨q1, q2⟩
    obtain ⟨p1, p2⟩ := g4 a (hs.2.2.2.2 q1)
    rw [p2] at q2
    exact ⟨hs.2.1.mp q1, (pb_e p1 hc).mp q2⟩
  · rintro ⟨q1, q2⟩
    obtain ⟨p1, p2⟩ := g4 a (hs.2.2.2.2 (hs.2.1.mpr q1))
    rw [p2]
    exact ⟨hs.2.1.mpr q1, (pb_e p1 hc).mpr q2⟩
