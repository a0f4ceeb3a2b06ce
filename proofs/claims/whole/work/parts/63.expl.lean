/-! explains: the class's bounds against the reference's tries -/
def ow (W : Mv) (p i : Nat) : Int := wsum W (fun q => if q = p then 1 else 0) (i + 1) i
theorem ow_0 {W : Mv} {p i : Nat} (h : W 1002 i = -1000000) : ow W p i = if i = p then 1 else 0 := wsum_0 (g := fun q => if q = p then 1 else 0) h
theorem ow_1 {W : Mv} {nP p i j : Nat} (hn : nP ≤ 30) (hw : wayOk W nP) (hi : i < nP) (hj : j < i) (h : W 1002 i = nI j) : ow W p i = (if i = p then 1 else 0) + ow W p j := wsum_1 (g := fun q => if q = p then 1 else 0) hn hw hi hj h
theorem ow_hi {W : Mv} {nP p : Nat} (hn : nP ≤ 30) (hw : wayOk W nP) : ∀ N i, i < N → i < nP → i < p → ow W p i = 0
  | 0, _ => fun h => absurd h (by omega)
  | N + 1, i => fun h1 h2 h3 => by
    rcases hw i h2 with h | ⟨j, hj, h⟩
    · rw [ow_0 h, if_neg (by omega)]
    · rw [ow_1 hn hw h2 hj h, if_neg (by omega), ow_hi hn hw N j (by omega) (by omega) (by omega)]
      rfl
theorem ow_or {W : Mv} {nP p : Nat} (hn : nP ≤ 30) (hw : wayOk W nP) : ∀ N i, i < N → i < nP → ow W p i = 0 ∨ ow W p i = 1
  | 0, _ => fun h => absurd h (by omega)
  | N + 1, i => fun h1 h2 => by
    rcases hw i h2 with h | ⟨j, hj, h⟩
    · rw [ow_0 h]
      by_cases hip : i = p
      · rw [if_pos hip]
        exact Or.inr rfl
      · rw [if_neg hip]
        exact Or.inl rfl
    · rw [ow_1 hn hw h2 hj h]
      by_cases hip : i = p
      · rw [if_pos hip, ow_hi hn hw (j + 1) j (by omega) (by omega) (by omega)]
        exact Or.inr rfl
      · rw [if_neg hip, Int.zero_add]
        exact ow_or hn hw N j (by omega) (by omega)
theorem ow_g {p l q : Nat} (hp : p < 1000) (hl : l < 1000) (hq : q < 1000) : (if nI q = nI p then nI l else (0 : Int32)).toInt = if q = p then (l : Int) else 0 := by
  by_cases h : q = p
  · rw [if_pos h, if_pos (by rw [h]), nI_toInt (by omega)]
  · rw [if_neg h, if_neg (fun e => h ((nI_eq (by omega) (by omega)).mp e))]
    decide
theorem ow_l {W : Mv} {nP p l : Nat} (hn : nP ≤ 30) (hw : wayOk W nP) (hp : p < 1000) (hl : l < 1000) : ∀ N i, i < N → i < nP → (ow W p i = 0 ∧ wsum W (fun q => (if nI q = nI p then nI l else (0 : Int32)).toInt) (i + 1) i = 0) ∨ (ow W p i = 1 ∧ wsum W (fun q => (if nI q = nI p then nI l else (0 : Int32)).toInt) (i + 1) i = (l : Int))
  | 0, _ => fun h => absurd h (by omega)
  | N + 1, i => fun h1 h2 => by
    have hg := ow_g hp hl (q := i) (by omega)
    rcases hw i h2 with h | ⟨j, hj, h⟩
    · have e1 := (wsum_0 (g := fun q => (if nI q = nI p then nI l else (0 : Int32)).toInt) h).trans hg
      have e2 := ow_0 (p := p) h
      by_cases hip : i = p
      · rw [if_pos hip] at e1 e2
        exact Or.inr ⟨e2, e1⟩
      · rw [if_neg hip] at e1 e2
        exact Or.inl ⟨e2, e1⟩
    · have e1 := wsum_1 (g := fun q => (if nI q = nI p then nI l else (0 : Int32)).toInt) hn hw h2 hj h
      have e2 := ow_1 (p := p) hn hw h2 hj h
      have e3 : wsum W (fun q => (if nI q = nI p then nI l else (0 : Int32)).toInt) (i + 1) i = (if i = p then (l : Int) else 0) + wsum W (fun q => (if nI q = nI p then nI l else (0 : Int32)).toInt) (j + 1) j := by
        rw [← hg]
        exact e1
      have ih := ow_l hn hw hp hl N j (by omega) (by omega)
      generalize wsum W (fun q => (if nI q = nI p then nI l else (0 : Int32)).toInt) (i + 1) i = a at e3 ⊢
      generalize wsum W (fun q => (if nI q = nI p then nI l else (0 : Int32)).toInt) (j + 1) j = b at e3 ih
      by_cases hip : i = p
      · have hz := ow_hi hn hw (p := p) (j + 1) j (by omega) (by omega) (by omega)
        rw [if_pos hip] at e2 e3
        omega
      · rw [if_neg hip] at e2 e3
        omega
theorem bit_pair : ∀ i, i < 30 → ∀ p, p < 30 → ((((1 : Int32) <<< (nI i &&& 31)) &&& ((1 : Int32) <<< (nI p &&& 31)) = 0) ↔ i ≠ p) := by decide +kernel
theorem or_and0 (a b m : Int32) : ((a ||| b) &&& m = 0) ↔ (a &&& m = 0 ∧ b &&& m = 0) := by
  rw [← Int32.toBitVec_inj, ← Int32.toBitVec_inj, ← Int32.toBitVec_inj, Int32.toBitVec_and, Int32.toBitVec_or, Int32.toBitVec_and, Int32.toBitVec_and, BitVec.and_or_distrib_right]
  exact BitVec.or_eq_zero_iff
theorem rl_fed {c nP nD p : Nat} {U W : Mv} {K I : Mj} {R : Mr} (h : rl c nP nD U W K I R) (hp : p < 30) : ∀ N i, i < N → i < nP → ((U (100 + i) 4 &&& ((1 : Int32) <<< (nI p &&& 31)) = 0) ↔ ow W p i = 0)
  | 0, _ => fun h => absurd h (by omega)
  | N + 1, i => fun h1 h2 => by
    have hn := h.1.1
    obtain ⟨-, -, -, -, -, hq⟩ := h.2.1 i h2
    rcases hq with ⟨p1, -, -, -, p5⟩ | ⟨j, p0, p1, -, -, -, p5⟩
    · rw [p5, ow_0 p1, bit_pair i (by omega) p hp]
      by_cases hip : i = p
      · rw [if_pos hip]
        exact ⟨fun e => absurd hip e, fun e => absurd e (by decide)⟩
      · rw [if_neg hip]
        exact ⟨fun _ => rfl, fun _ => hip⟩
    · have o := ow_or (p := p) hn (rl_way h) (j + 1) j (by omega) (by omega)
      rw [p5, or_and0, bit_pair i (by omega) p hp, ow_1 hn (rl_way h) h2 p0 p1, rl_fed h hp N j (by omega) (by omega)]
      by_cases hip : i = p
      · rw [if_pos hip]
        exact ⟨fun e => absurd hip e.1, fun e => by omega⟩
      · rw [if_neg hip]
        exact ⟨fun e => by omega, fun e => ⟨hip, by omega⟩⟩
def sp (W : Mv) (d : Nat) : Int := 100 - wsum W (fun i => (W 1003 i).toInt) ((W 1008 d).toNatClampNeg + 1) (W 1008 d).toNatClampNeg - (W 1009 d).toInt
def fd (W : Mv) (p d : Nat) : Int := ow W p (W 1008 d).toNatClampNeg
def gd (W : Mv) (p l d : Nat) : Prop := 0 ≤ sp W d → ((fd W p d = 1 ∧ sp W d < l) ↔ W 1016 d = 1)
def allG (W : Mv) (p l n i : Nat) : Prop := ∀ d, i ≤ d → d < i + n → gd W p l d
theorem allG_s {W : Mv} {p l n i : Nat} : allG W p l (n + 1) i ↔ (gd W p l i ∧ allG W p l n (i + 1)) := by
  constructor
  · intro h
    exact ⟨h i (by omega) (by omega), fun d h1 h2 => h d (by omega) (by omega)⟩
  · intro h d h1 h2
    by_cases hd : d = i
    · rw [hd]
      exact h.1
    · exact h.2 d (by omega) (by omega)
theorem dx {c nP nD d : Nat} {U W : Mv} {K I : Mj} {R : Mr} (h : rl c nP nD U W K I R) (hd : d < nD) : (0 ≤ x_air0 U (x_pl R (200 + d)) 0 - U (200 + d) 1 ↔ 0 ≤ sp W d) ∧ (0 ≤ sp W d → x_air0 U (x_pl R (200 + d)) 0 - U (200 + d) 1 = nI (sp W d).toNat ∧ sp W d ≤ 99) ∧ (∀ p, p < nP → (x_fed U (x_pl R (200 + d)) (nI p) ↔ fd W p d = 1)) ∧ (∀ p, p < nP → (fd W p d = 0 ∨ fd W p d = 1)) ∧ U (200 + d) 7 = W 1016 d ∧ (W 1016 d = 0 ∨ W 1016 d = 1) ∧ ∃ i, i < nP ∧ W 1008 d = nI i ∧ x_pl R (200 + d) = 100 + i ∧ 1 ≤ (W 1009 d).toInt ∧ (W 1009 d).toInt ≤ 100 ∧ 0 ≤ wsum W (fun i => (W 1003 i).toInt) (i + 1) i ∧ wsum W (fun i => (W 1003 i).toInt) (i + 1) i ≤ 1500 := by
  have hn := h.1.1
  obtain ⟨⟨i, hi, hR, h8⟩, ⟨n1, n2⟩, -, -, -, ⟨m1, m2⟩, -⟩ := h.2.2.1 d hd
  have h8' : W 1008 d = nI i := h8
  have n1' : U (200 + d) 1 = W 1009 d := n1
  have hpl : x_pl R (200 + d) = 100 + i := by rw [x_pl, hR]; rfl
  have hb := i_rng (A := 1) (B := 100) (by decide) (by decide) n2
  have hls := rl_loss h (i + 1) i (by omega) hi
  have b1 := wsum_b hn (rl_way h) (B := 50) (rl_w3 h) (i + 1) i (by omega) hi
  have hsp : sp W d = 100 - wsum W (fun i => (W 1003 i).toInt) (i + 1) i - (W 1009 d).toInt := by rw [sp, h8', nI_clamp (by omega)]
  have hfd : ∀ p, fd W p d = ow W p i := fun p => by rw [fd, h8', nI_clamp (by omega)]
  have z : (0 : Int32).toInt = 0 := by decide
  have hv : airV (x_air0 U (100 + i) 0) (100 - (U (100 + i) 2).toInt - (0 : Int32).toInt) := air0_V (by omega) (by decide)
  rw [hls, z] at hv
  rw [hpl, n1']
  generalize x_air0 U (100 + i) 0 = v at hv ⊢
  have hb' : 1 ≤ (W 1009 d).toInt ∧ (W 1009 d).toInt ≤ 100 := hb
  clear hb
  have e1 : (v - W 1009 d).toInt = v.toInt - (W 1009 d).toInt := y_sub (by rcases hv with q | q <;> omega) (by rcases hv with q | q <;> omega)
  refine ⟨?_, ?_, ?_, ?_, m1, m2, i, hi, h8', rfl, hb'.1, hb'.2, b1.1, by omega⟩
  · rw [Int32.le_iff_toInt_le, e1, z, hsp]
    rcases hv with q | q <;> omega
  · intro hs
    rw [hsp] at hs ⊢
    refine ⟨Int32.toInt_inj.mp ?_, by omega⟩
    rw [e1, nI_toInt (by omega)]
    rcases hv with q | q <;> omega
  · intro p hp
    have f := rl_fed h (p := p) (by omega) (i + 1) i (by omega) hi
    have o := ow_or (p := p) hn (rl_way h) (i + 1) i (by omega) hi
    rw [hfd]
    exact ⟨fun e => o.resolve_left (fun q => e (f.mpr q)), fun e q => by have := f.mp q; omega⟩
  · intro p hp
    rw [hfd]
    exact ow_or hn (rl_way h) (i + 1) i (by omega) hi
def llS (P : Nat → Prop) (a b : Nat) (r : Int32) : Prop := (r = -1000000 ∧ ∀ l, a ≤ l → l ≤ b → ¬ P l) ∨ (∃ l0, r = nI l0 ∧ a ≤ l0 ∧ l0 ≤ b ∧ P l0 ∧ ∀ l, a ≤ l → l < l0 → ¬ P l)
theorem llS_to {P Q : Nat → Prop} {a b a' b' : Nat} {r : Int32} (ha : a ≤ a') (hb : b' ≤ b) (hq : ∀ l, a ≤ l → l ≤ b → (Q l ↔ (a' ≤ l ∧ l ≤ b' ∧ P l))) (h : llS P a' b' r) : llS Q a b r := by
  rcases h with ⟨h1, h2⟩ | ⟨l0, h1, h2, h3, h4, h5⟩
  · exact Or.inl ⟨h1, fun l q1 q2 q3 => by
      obtain ⟨t1, t2, t3⟩ := (hq l q1 q2).mp q3
      exact h2 l t1 t2 t3⟩
  · refine Or.inr ⟨l0, h1, by omega, by omega, (hq l0 (by omega) (by omega)).mpr ⟨h2, h3, h4⟩, fun l q1 q2 q3 => ?_⟩
    obtain ⟨t1, t2, t3⟩ := (hq l q1 (by omega)).mp q3
    exact h5 l t1 q2 t3
theorem e_ll {c nP nD p : Nat} {U W : Mv} {K I : Mj} {R : Mr} (h : rl c nP nD U W K I R) (hp : p < nP) : ∀ n i a b, i + n ≤ nD → 1 ≤ a → a ≤ 200 → b ≤ 60 → llS (fun l => allG W p l n i) a b (x_ll U R (nI p) n i (nI a) (nI b))
  | 0, i, a, b => fun _ h1 h2 h3 => by
    rw [x_ll]
    by_cases hab : b < a
    · rw [if_pos ((nI_ltI (by omega) (by omega)).mpr hab)]
      exact Or.inl ⟨rfl, fun l q1 q2 => absurd q2 (by omega)⟩
    · rw [if_neg (fun e => hab ((nI_ltI (by omega) (by omega)).mp e))]
      exact Or.inr ⟨a, rfl, Nat.le_refl _, by omega, fun d q1 q2 => absurd q2 (by omega), fun l q1 q2 => absurd q2 (by omega)⟩
  | n + 1, i, a, b => fun hi h1 h2 h3 => by
    obtain ⟨A, B, C, C2, D1, D2, -⟩ := dx h (d := i) (by omega)
    have C := C p hp
    have C2 := C2 p hp
    rw [x_ll]
    by_cases hs : 0 ≤ sp W i
    · obtain ⟨B1, B2⟩ := B hs
      rw [if_pos (A.mpr hs), D1, B1]
      generalize hS : (sp W i).toNat = S
      have hS2 : sp W i = (S : Int) := by omega
      rcases D2 with m0 | m1
      · rw [if_pos m0]
        by_cases hf : fd W p i = 1
        · rw [if_pos (C.mpr hf)]
          have g : ∀ l, gd W p l i ↔ l ≤ S := fun l => by
            unfold gd
            rw [m0, hS2]
            constructor
            · intro q
              exact Nat.le_of_not_lt (fun e => absurd ((q (by omega)).mp ⟨hf, by omega⟩) (by decide))
            · intro q _
              exact ⟨fun e => absurd e.2 (by omega), fun e => absurd e (by decide)⟩
          by_cases hb : S < b
          · rw [if_pos ((nI_ltI (by omega) (by omega)).mpr hb)]
            refine llS_to (Nat.le_refl _) (Nat.le_of_lt hb) (fun l q1 q2 => ?_) (e_ll h hp n (i + 1) a S (by omega) h1 h2 (by omega))
            rw [allG_s, g]
            exact ⟨fun e => ⟨q1, e.1, e.2⟩, fun e => ⟨e.2.1, e.2.2⟩⟩
          · rw [if_neg (fun e => hb ((nI_ltI (by omega) (by omega)).mp e))]
            refine llS_to (Nat.le_refl _) (Nat.le_refl _) (fun l q1 q2 => ?_) (e_ll h hp n (i + 1) a b (by omega) h1 h2 h3)
            rw [allG_s, g]
            exact ⟨fun e => ⟨q1, q2, e.2⟩, fun e => ⟨by omega, e.2.2⟩⟩
        · rw [if_neg (fun e => hf (C.mp e))]
          refine llS_to (Nat.le_refl _) (Nat.le_refl _) (fun l q1 q2 => ?_) (e_ll h hp n (i + 1) a b (by omega) h1 h2 h3)
          rw [allG_s]
          refine ⟨fun e => ⟨q1, q2, e.2⟩, fun e => ⟨fun _ => ?_, e.2.2⟩⟩
          rw [m0]
          exact ⟨fun e => absurd e.1 hf, fun e => absurd e (by decide)⟩
      · rw [if_neg (by rw [m1]; decide)]
        by_cases hf : fd W p i = 1
        · rw [if_pos (C.mpr hf), nI_1]
          have g : ∀ l, gd W p l i ↔ S < l := fun l => by
            unfold gd
            rw [m1, hS2]
            constructor
            · intro q
              have := ((q (by omega)).mpr rfl).2
              omega
            · intro q _
              exact ⟨fun e => rfl, fun e => ⟨hf, by omega⟩⟩
          by_cases hb : a < S + 1
          · rw [if_pos ((nI_ltI (by omega) (by omega)).mpr hb)]
            refine llS_to (Nat.le_of_lt hb) (Nat.le_refl _) (fun l q1 q2 => ?_) (e_ll h hp n (i + 1) (S + 1) b (by omega) (by omega) (by omega) h3)
            rw [allG_s, g]
            exact ⟨fun e => ⟨e.1, q2, e.2⟩, fun e => ⟨e.1, e.2.2⟩⟩
          · rw [if_neg (fun e => hb ((nI_ltI (by omega) (by omega)).mp e))]
            refine llS_to (Nat.le_refl _) (Nat.le_refl _) (fun l q1 q2 => ?_) (e_ll h hp n (i + 1) a b (by omega) h1 h2 h3)
            rw [allG_s, g]
            exact ⟨fun e => ⟨q1, q2, e.2⟩, fun e => ⟨by omega, e.2.2⟩⟩
        · rw [if_neg (fun e => hf (C.mp e))]
          refine Or.inl ⟨rfl, fun l q1 q2 q3 => ?_⟩
          exact hf (((allG_s.mp q3).1 hs).mpr m1).1
    · rw [if_neg (fun e => hs (A.mp e))]
      refine llS_to (Nat.le_refl _) (Nat.le_refl _) (fun l q1 q2 => ?_) (e_ll h hp n (i + 1) a b (by omega) h1 h2 h3)
      rw [allG_s]
      exact ⟨fun e => ⟨q1, q2, e.2⟩, fun e => ⟨fun q => absurd q hs, e.2.2⟩⟩
