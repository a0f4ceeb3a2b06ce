theorem wsum_ag {V W : Mv} {g : Nat → Int} (h : V 1002 = W 1002) : ∀ n i, wsum V g n i = wsum W g n i
  | 0, _ => rfl
  | n + 1, i => by rw [wsum, wsum, h, wsum_ag h n]
/-- V is W but for what explaining uses, and its row 'looked' is set -/
def agL (W V : Mv) (nD : Nat) : Prop := (∀ k, k ≠ 1000 → k ≠ 1006 → k ≠ 1027 → k ≠ 1028 → k ≠ 1029 → V k = W k) ∧ ∀ d, d < nD → V 1029 d = if 0 ≤ sp W d then 1 else 0
theorem airB_V {c nP nD p t i : Nat} {U W V : Mv} {K I : Mj} {R : Mr} (h : rl c nP nD U W K I R) (e2 : V 1002 = W 1002) (e3 : V 1003 = W 1003) (hp : p < nP) (ht : t ≤ 60) (hi : i < nP) : airV (m_airB (nI p) (nI t) nP 0 V 1006 i) (100 - wsum W (fun i => (W 1003 i).toInt) (i + 1) i - wsum W (fun q => (if nI q = nI p then nI t else (0 : Int32)).toInt) (i + 1) i) := by
  have hn := h.1.1
  have hw : wayOk V nP := fun q hq => by rw [e2]; exact rl_way h q hq
  have h3 : ∀ q, q < nP → 0 ≤ (V 1003 q).toInt ∧ (V 1003 q).toInt ≤ 50 := fun q hq => by rw [e3]; exact rl_w3 h q hq
  have hg : ∀ q, q < nP → 0 ≤ (if nI q = nI p then nI t else (0 : Int32)).toInt ∧ (if nI q = nI p then nI t else (0 : Int32)).toInt ≤ 60 := fun q hq => by
    rw [ow_g (by omega) (by omega) (by omega)]
    split <;> omega
  have r := air_G (g := fun q => if nI q = nI p then nI t else (0 : Int32)) hn hw h3 hg (i + 1) i (by omega) hi
  rw [wsum_ag e2, wsum_ag e2, e3] at r
  rw [m_airB_G]
  exact r
theorem dm_miss {c nP nD p t d : Nat} {U W V : Mv} {K I : Mj} {R : Mr} (h : rl c nP nD U W K I R) (e2 : V 1002 = W 1002) (e3 : V 1003 = W 1003) (hp : p < nP) (ht : t ≤ 60) (hd : d < nD) (hs : 0 ≤ sp W d) : (W 1009 d ≤ m_airB (nI p) (nI t) nP 0 V 1006 (W 1008 d).toNatClampNeg ↔ ¬ (fd W p d = 1 ∧ sp W d < t)) := by
  have hn := h.1.1
  obtain ⟨-, -, -, -, -, -, i, hi, h8, -, n1, n2, l1, l2⟩ := dx h hd
  have r := airB_V h e2 e3 hp ht hi
  have o := ow_l (l := t) hn (rl_way h) (p := p) (by omega) (by omega) (i + 1) i (by omega) hi
  rw [fd, h8, nI_clamp (by omega)]
  rw [sp, h8, nI_clamp (by omega)] at hs ⊢
  rw [Int32.le_iff_toInt_le]
  generalize wsum W (fun q => (if nI q = nI p then nI t else (0 : Int32)).toInt) (i + 1) i = b at r o
  generalize wsum W (fun i => (W 1003 i).toInt) (i + 1) i = a at r hs l1 l2 ⊢
  generalize m_airB (nI p) (nI t) nP 0 V 1006 i = v at r ⊢
  generalize ow W p i = o1 at o ⊢
  rcases r with r | r <;> omega
theorem m_ex1_0 {V : Mv} {i : Nat} : m_ex1 V i 0 = 0 := by rw [m_ex1, if_pos rfl]
theorem lp_ex0 {V : Mv} : ∀ n i, lpI (fun i a => m_ex1 V i a) n i 0 = 0
  | 0, _ => rfl
  | n + 1, i => by rw [lpI, m_ex1_0, lp_ex0 n]
theorem agL_B {W V : Mv} {nP nD : Nat} {a b : Int32} (h : agL W V nD) : agL W (m_airB a b nP 0 V) nD :=
  ⟨fun k h0 h1 h2 h3 h4 => by rw [m_airB_ne h1]; exact h.1 k h0 h1 h2 h3 h4, fun d hd => by rw [m_airB_ne (by decide)]; exact h.2 d hd⟩
theorem e_ex1 {c nP nD p t d : Nat} {U W V : Mv} {K I : Mj} {R : Mr} (h : rl c nP nD U W K I R) (hV : agL W V nD) (hp : p < nP) (ht : t ≤ 60) (hd : d < nD) : (m_ex1 (m_airB (nI p) (nI t) nP 0 V) d 1 = 1 ∧ gd W p t d) ∨ (m_ex1 (m_airB (nI p) (nI t) nP 0 V) d 1 = 0 ∧ ¬ gd W p t d) := by
  obtain ⟨-, -, -, -, -, D2, -⟩ := dx h hd
  have ag := (agL_B (nP := nP) (a := nI p) (b := nI t) hV)
  rw [m_ex1, if_neg (show ¬ (1 : Int32) = 0 by decide), ag.2 d hd, ag.1 1009 (by decide) (by decide) (by decide) (by decide) (by decide), ag.1 1008 (by decide) (by decide) (by decide) (by decide) (by decide), ag.1 1016 (by decide) (by decide) (by decide) (by decide) (by decide)]
  by_cases hs : 0 ≤ sp W d
  · have r := dm_miss h (V := V) (hV.1 1002 (by decide) (by decide) (by decide) (by decide) (by decide)) (hV.1 1003 (by decide) (by decide) (by decide) (by decide) (by decide)) hp ht hd hs
    rw [if_pos hs, if_neg (show ¬ (1 : Int32) = 0 by decide)]
    by_cases hc : fd W p d = 1 ∧ sp W d < t
    · rw [if_neg (fun e => r.mp e hc)]
      rcases D2 with m | m
      · rw [if_neg (by rw [m]; decide)]
        exact Or.inr ⟨rfl, fun g => absurd ((g hs).mp hc) (by rw [m]; decide)⟩
      · rw [if_pos m.symm]
        exact Or.inl ⟨rfl, fun _ => ⟨fun _ => m, fun _ => hc⟩⟩
    · rw [if_pos (r.mpr hc)]
      rcases D2 with m | m
      · rw [if_pos m.symm]
        exact Or.inl ⟨rfl, fun _ => ⟨fun e => absurd e hc, fun e => absurd e (by rw [m]; decide)⟩⟩
      · rw [if_neg (by rw [m]; decide)]
        exact Or.inr ⟨rfl, fun g => hc ((g hs).mpr m)⟩
  · rw [if_neg hs, if_pos rfl]
    exact Or.inl ⟨rfl, fun q => absurd q hs⟩
theorem e_exL {c nP nD p t : Nat} {U W V : Mv} {K I : Mj} {R : Mr} (h : rl c nP nD U W K I R) (hV : agL W V nD) (hp : p < nP) (ht : t ≤ 60) : ∀ n i, i + n ≤ nD → (lpI (fun i a => m_ex1 (m_airB (nI p) (nI t) nP 0 V) i a) n i 1 = 1 ∧ allG W p t n i) ∨ (lpI (fun i a => m_ex1 (m_airB (nI p) (nI t) nP 0 V) i a) n i 1 = 0 ∧ ¬ allG W p t n i)
  | 0, i => fun _ => Or.inl ⟨rfl, fun d q1 q2 => absurd q2 (by omega)⟩
  | n + 1, i => fun hi => by
    rw [lpI, allG_s]
    rcases e_ex1 h hV hp ht (d := i) (by omega) with ⟨q1, q2⟩ | ⟨q1, q2⟩
    · rw [q1]
      rcases e_exL h hV hp ht n (i + 1) (by omega) with ⟨q3, q4⟩ | ⟨q3, q4⟩
      · exact Or.inl ⟨q3, q2, q4⟩
      · exact Or.inr ⟨q3, fun e => q4 e.2⟩
    · rw [q1, lp_ex0]
      exact Or.inr ⟨rfl, fun e => q2 e.1⟩
theorem e_ls {c nP nD p : Nat} {U W : Mv} {K I : Mj} {R : Mr} (h : rl c nP nD U W K I R) (hp : p < nP) : ∀ n t V, agL W V nD → 1 ≤ t → t + n = 61 → ∃ t0, (m_ls (nI p) nP nD n t V).2 = t0 ∧ t ≤ t0 ∧ t0 ≤ 61 ∧ (∀ l, t ≤ l → l < t0 → ¬ allG W p l nD 0) ∧ (t0 < 61 → allG W p t0 nD 0)
  | 0, t, V => fun _ h1 h2 => ⟨t, rfl, Nat.le_refl _, by omega, fun l q1 q2 => absurd q2 (by omega), fun q => absurd q (by omega)⟩
  | n + 1, t, V => fun hV h1 h2 => by
    rw [m_ls, m_ex]
    rcases e_exL h hV hp (t := t) (by omega) nD 0 (by omega) with ⟨q1, q2⟩ | ⟨q1, q2⟩
    · rw [q1, if_neg (show ¬ (1 : Int32) = 0 by decide)]
      exact ⟨t, rfl, Nat.le_refl _, by omega, fun l q3 q4 => absurd q4 (by omega), fun _ => q2⟩
    · rw [q1, if_pos rfl]
      obtain ⟨t0, r1, r2, r3, r4, r5⟩ := e_ls h hp n (t + 1) _ (agL_B (nP := nP) (a := nI p) (b := nI t) hV) (by omega) (by omega)
      refine ⟨t0, r1, by omega, r3, fun l q3 q4 => ?_, r5⟩
      by_cases hl : l = t
      · rw [hl]
        exact q2
      · exact r4 l (by omega) q4
/-- bounds and tries give the same -/
theorem e_one {c nP nD p : Nat} {U W V : Mv} {K I : Mj} {R : Mr} (h : rl c nP nD U W K I R) (hV : agL W V nD) (hp : p < nP) : (x_ll U R (nI p) nD 0 1 60 = -1000000 ∧ (m_ls (nI p) nP nD 60 1 V).2 = 61) ∨ (∃ l, 1 ≤ l ∧ l ≤ 60 ∧ x_ll U R (nI p) nD 0 1 60 = nI l ∧ (m_ls (nI p) nP nD 60 1 V).2 = l) := by
  have r1 := e_ll h hp nD 0 1 60 (by omega) (by omega) (by omega) (by omega)
  obtain ⟨t0, r2, r3, r4, r5, r6⟩ := e_ls h hp 60 1 V hV (by omega) (by omega)
  rw [r2]
  rcases r1 with ⟨q1, q2⟩ | ⟨l0, q1, q2, q3, q4, q5⟩
  · refine Or.inl ⟨q1, ?_⟩
    by_cases ht : t0 < 61
    · exact absurd (r6 ht) (q2 t0 r3 (by omega))
    · omega
  · refine Or.inr ⟨l0, q2, q3, q1, ?_⟩
    by_cases h1 : t0 < l0
    · exact absurd (r6 (by omega)) (q5 t0 r3 h1)
    · by_cases h2 : l0 < t0
      · exact absurd q4 (r5 l0 q2 h2)
      · omega
/-- what both have found at e -/
def fnd (nP : Nat) (X M : Mv) (e : Nat) : Prop := ∃ p l, p < nP ∧ 1 ≤ l ∧ l ≤ 60 ∧ X 5 e = nI p ∧ M 1027 e = nI p ∧ X 6 e = nI l ∧ M 1028 e = nI l
theorem e_find {c nP nD : Nat} {U W : Mv} {K I : Mj} {R : Mr} (h : rl c nP nD U W K I R) : ∀ n i (X M : Mv) f, i + n = nP → (∀ k, k ≠ 4 → k ≠ 5 → k ≠ 6 → X k = U k) → agL W M nD → X 4 3 = nI f → M 1000 26 = nI f → f ≤ i → (∀ e, e < f → fnd nP X M e) → ∃ f', f' ≤ nP ∧ x_find R nD n i X 4 3 = nI f' ∧ m_allL nP nD n i M 1000 26 = nI f' ∧ ∀ e, e < f' → fnd nP (x_find R nD n i X) (m_allL nP nD n i M) e
  | 0, i, X, M, f => fun h1 _ _ h3 h4 h5 h6 => ⟨f, by omega, h3, h4, h6⟩
  | n + 1, i, X, M, f => fun h1 hX hM h3 h4 h5 h6 => by
    have hn := h.1.1
    have hr : rl c nP nD X W K I R := rl_ag (fun k j hk => by rw [hX k (by omega) (by omega) (by omega)]) (fun _ _ _ => rfl) h
    have ml : ∀ k, k ≠ 1006 → (m_ls (nI i) nP nD 60 1 M).1 k = M k := fun k hk => m_ls_ne hk
    have hM' : agL W (m_ls (nI i) nP nD 60 1 M).1 nD := ⟨fun k q0 q1 q2 q3 q4 => by rw [ml k q1]; exact hM.1 k q0 q1 q2 q3 q4, fun d hd => by rw [ml _ (by decide)]; exact hM.2 d hd⟩
    rw [x_find, m_allL]
    rcases e_one hr hM (p := i) (by omega) with ⟨q1, q2⟩ | ⟨l, l1, l2, q1, q2⟩
    · rw [if_pos q1, q2, if_pos (show (60 : Int32) < nI 61 by decide)]
      exact e_find h n (i + 1) X _ f (by omega) hX hM' h3 (by rw [ml _ (by decide)]; exact h4) (by omega) (fun e he => by
        obtain ⟨p, l, g1, g2, g3, g4, g5, g6, g7⟩ := h6 e he
        exact ⟨p, l, g1, g2, g3, g4, by rw [ml _ (by decide)]; exact g5, g6, by rw [ml _ (by decide)]; exact g7⟩)
    · rw [q1, q2, if_neg (nI_nb (by omega)), if_neg (show ¬ (60 : Int32) < nI l from fun e => absurd ((nI_ltI (a := 60) (by decide) (by omega)).mp e) (by omega))]
      generalize (m_ls (nI i) nP nD 60 1 M).1 = N at ml hM'
      have hN4 : N 1000 26 = nI f := by rw [ml _ (by decide)]; exact h4
      refine e_find h n (i + 1) _ _ (f + 1) (by omega) (fun k k4 k5 k6 => ?_) ⟨fun k k0 k1 k2 k3 k4 => ?_, fun d hd => ?_⟩ ?_ ?_ (by omega) (fun e he => ?_)
      · rw [x_fadd, u2_ne k4, u2_ne k6, u2_ne k5]
        exact hX k k4 k5 k6
      · rw [m_aadd, u2_ne k0, u2_ne k3, u2_ne k2]
        exact hM'.1 k k0 k1 k2 k3 k4
      · rw [m_aadd, u2_ne (by decide), u2_ne (by decide), u2_ne (by decide)]
        exact hM'.2 d hd
      · rw [x_fadd, u2_ss, h3, nI_1]
      · rw [m_aadd, u2_ss, hN4, nI_1]
      · rw [fnd, x_fadd, m_aadd, h3, hN4, nI_clamp (by omega)]
        by_cases hef : e = f
        · subst hef
          refine ⟨i, l, by omega, l1, l2, ?_, ?_, ?_, ?_⟩
          · rw [u2_ne (by decide), u2_ne (by decide), u2_ss]
          · rw [u2_ne (by decide), u2_ne (by decide), u2_ss]
          · rw [u2_ne (by decide), u2_ss]
          · rw [u2_ne (by decide), u2_ss]
        · obtain ⟨p, l', g1, g2, g3, g4, g5, g6, g7⟩ := h6 e (by omega)
          refine ⟨p, l', g1, g2, g3, ?_, ?_, ?_, ?_⟩
          · rw [u2_ne (by decide), u2_ne (by decide), u2_sn hef]
            exact g4
          · rw [u2_ne (by decide), u2_ne (by decide), u2_sn hef, ml _ (by decide)]
            exact g5
          · rw [u2_ne (by decide), u2_sn hef, u2_ne (by decide)]
            exact g6
          · rw [u2_ne (by decide), u2_sn hef, u2_ne (by decide), ml _ (by decide)]
            exact g7
theorem m_lkL_lt {d : Nat} : ∀ n i V, d < i → m_lkL n i V 1029 d = V 1029 d
  | 0, _, _ => fun _ => rfl
  | n + 1, i, V => fun h => by rw [m_lkL, m_lkL_lt n _ _ (by omega), u2_sn (by omega)]
theorem m_lkL_at {d : Nat} : ∀ n i V, i ≤ d → d < i + n → m_lkL n i V 1029 d = if V 1006 (V 1008 d).toNatClampNeg < V 1009 d then 0 else 1
  | 0, i, V => fun h1 h2 => absurd h2 (by omega)
  | n + 1, i, V => fun h1 h2 => by
    rw [m_lkL]
    by_cases hd : d = i
    · subst hd
      rw [m_lkL_lt n _ _ (by omega), u2_ss]
    · rw [m_lkL_at n _ _ (by omega) (by omega), u2_ne (by decide), u2_ne (by decide), u2_ne (by decide)]
theorem e_look0 {c nP nD d : Nat} {U W V : Mv} {K I : Mj} {R : Mr} (h : rl c nP nD U W K I R) (hV : ∀ k, k ≠ 1000 → V k = W k) (hd : d < nD) : m_lk nD 0 (m_airB (-1000000) 0 nP 0 V) 1029 d = if 0 ≤ sp W d then 1 else 0 := by
  have hn := h.1.1
  obtain ⟨-, -, -, -, -, -, i, hi, h8, -, n1, n2, l1, l2⟩ := dx h hd
  have hw : wayOk V nP := fun q hq => by rw [hV _ (by decide)]; exact rl_way h q hq
  have h3 : ∀ q, q < nP → 0 ≤ (V 1003 q).toInt ∧ (V 1003 q).toInt ≤ 50 := fun q hq => by rw [hV _ (by decide)]; exact rl_w3 h q hq
  have z : ∀ q : Nat, (if nI q = -1000000 then (0 : Int32) else 0).toInt = 0 := fun q => by
    split <;> rfl
  have hg : ∀ q, q < nP → 0 ≤ (if nI q = -1000000 then (0 : Int32) else 0).toInt ∧ (if nI q = -1000000 then (0 : Int32) else 0).toInt ≤ 60 := fun q _ => by rw [z q]; decide
  have r := air_G (g := fun q => if nI q = -1000000 then (0 : Int32) else 0) hn hw h3 hg (i + 1) i (by omega) hi
  have b := wsum_b (g := fun q => (if nI q = -1000000 then (0 : Int32) else 0).toInt) hn hw (B := 0) (fun q _ => by rw [z q]; decide) (i + 1) i (by omega) hi
  rw [wsum_ag (hV 1002 (by decide)), wsum_ag (hV 1002 (by decide)), hV 1003 (by decide)] at r
  rw [wsum_ag (hV 1002 (by decide))] at b
  rw [m_lk, m_lkL_at nD 0 _ (by omega) (by omega), m_airB_ne (k := 1008) (by decide), m_airB_ne (k := 1009) (by decide), hV 1008 (by decide), hV 1009 (by decide), sp, h8, nI_clamp (by omega), m_airB_G]
  generalize m_aG (fun q => if nI q = -1000000 then (0 : Int32) else 0) nP 0 V 1006 i = v at r ⊢
  generalize wsum W (fun q => (if nI q = -1000000 then (0 : Int32) else 0).toInt) (i + 1) i = b0 at r b
  generalize wsum W (fun i => (W 1003 i).toInt) (i + 1) i = a at r l1 l2 ⊢
  have b2 : b0 = 0 := by
    have := b.2
    rw [show ((0 : Nat) : Int) * ((i : Int) + 1) = 0 from Int.zero_mul _] at this
    omega
  by_cases hs : 0 ≤ 100 - a - (W 1009 d).toInt
  · rw [if_pos hs, if_neg (fun e => by
      have := Int32.lt_iff_toInt_lt.mp e
      rcases r with r | r <;> omega)]
  · rw [if_neg hs, if_pos (Int32.lt_iff_toInt_lt.mpr (by rcases r with r | r <;> omega))]
/-- both searches find the same -/
theorem e_all {c nP nD : Nat} {U W : Mv} {K I : Mj} {R : Mr} (h : rl c nP nD U W K I R) : ∃ f, f ≤ nP ∧ x_find R nD nP 0 (u2 U 4 3 0) 4 3 = nI f ∧ m_all (u2 W 1000 0 0) nP nD 1000 26 = nI f ∧ ∀ e, e < f → fnd nP (x_find R nD nP 0 (u2 U 4 3 0)) (m_all (u2 W 1000 0 0) nP nD) e := by
  refine e_find h nP 0 (u2 U 4 3 0) (u2 (m_lk nD 0 (m_airB (-1000000) 0 nP 0 (u2 W 1000 0 0))) 1000 26 0) 0 (by omega) (fun k k4 _ _ => u2_ne k4) ⟨fun k k0 k1 _ _ k4 => ?_, fun d hd => ?_⟩ u2_ss u2_ss (Nat.le_refl _) (fun e he => absurd he (by omega))
  · rw [u2_ne k0, m_lk_ne k4, m_airB_ne k1, u2_ne k0]
  · rw [u2_ne (by decide)]
    exact e_look0 h (fun k hk => u2_ne hk) hd
theorem rl_find {c nP nD : Nat} {U W : Mv} {K I : Mj} {R : Mr} (h : rl c nP nD U W K I R) : rl c nP nD (x_find R nD nP 0 (u2 U 4 3 0)) (m_all (u2 W 1000 0 0) nP nD) K I R := by
  refine rl_ag (fun k j hk => ?_) (fun k j hk => ?_) h
  · rw [x_find_ne (by omega) (by omega) (by omega), u2_ne (by omega)]
  · by_cases h0 : k = 1000
    · subst h0
      rw [m_all_sc (by omega), u2_sn (by omega)]
    · rw [m_all_ne h0 (by omega) (by omega) (by omega) (by omega), u2_ne h0]
theorem e_expl {c nP nD : Nat} {U W : Mv} {K I : Mj} {R : Mr} (h : rl c nP nD U W K I R) (x v : Int32) : x_expl U R nP nD x v = m_expl W nP nD x v ∧ rl c nP nD (x_explV U R nP nD v) (m_explV W nP nD v) K I R := by
  have hn := h.1.1
  rw [x_expl, m_expl, x_explV, m_explV]
  by_cases hv : 0 ≤ v ∧ v ≤ 1
  · rw [if_pos hv, if_pos hv, if_pos hv, if_pos hv]
    refine ⟨?_, rl_find h⟩
    obtain ⟨f, hf, e1, e2, e3⟩ := e_all h
    rw [e1, e2]
    by_cases hx : 0 ≤ x ∧ x ≤ nI f - 1
    · rw [if_pos hx, if_pos hx]
      have hi := (inx_w (by omega)).mp hx
      obtain ⟨p, l, -, -, -, g4, g5, g6, g7⟩ := e3 x.toNatClampNeg (inx_c hi).1
      rw [g4, g5, g6, g7]
    · rw [if_neg hx, if_neg hx]
  · rw [if_neg hv, if_neg hv, if_neg hv, if_neg hv]
    exact ⟨rfl, rl_0 h⟩
