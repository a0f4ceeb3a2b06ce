def tk0 (V : Mv) (L : Nat) : Prop := V 8 1 = nI L ∧ L ≤ 300 ∧ ∃ ee, V 8 4 = nI ee ∧ ee ≤ L
def tkX (V : Mv) (L : Nat) : Prop := V 8 1 = nI L ∧ L ≤ 300 ∧ ∃ a ee, V 8 3 = nI a ∧ V 8 4 = nI ee ∧ a ≤ ee ∧ ee ≤ L ∧ (V 8 2 = 3 → a < L) ∧ (V 8 2 = 2 → ee ≤ a + 4 ∧ ∀ t, a ≤ t → t < ee → 48 ≤ V 9 t ∧ V 9 t ≤ 57)
def x_tokV (V : Mv) : Mv := x_tok V (V 8 1).toNatClampNeg (V 8 4).toNatClampNeg
def x_isnV (V : Mv) (i : Nat) : Int32 := x_isn V (V 8 3).toNatClampNeg (V 8 4).toNatClampNeg i
def x_numV (V : Mv) : Int32 := x_num (V 9) ((V 8 4).toNatClampNeg - (V 8 3).toNatClampNeg) (V 8 3).toNatClampNeg 0
abbrev x_sg (V : Mv) (ch : Int32) : Prop := V 8 2 = 3 ∧ V 9 (V 8 3).toNatClampNeg = ch
def x_ref (V : Mv) (a : Int32) : Mv := u2 (u2 V 10 5 a) 10 6 (V 8 3)
abbrev x_rn (V : Mv) : Prop := x_tokV V 8 2 = 2
def x_rnV (V : Mv) : Mv := if x_tokV V 8 2 = 2 then x_tokV V else x_ref (x_tokV V) 1
def x_sgV (V : Mv) (ch : Int32) : Mv := if x_sg (x_tokV V) ch then x_tokV V else x_ref (x_tokV V) 1
def x_nt (V : Mv) : Int32 := if x_isnV V 1 = 0 then (if x_isnV V 2 = 0 then (if x_isnV V 3 = 0 then 0 else 3) else 2) else 1
def x_rD (V : Mv) (d s4 b4 : Int32) : Mv × Int32 := if x_rn V then (if x_sg (x_tokV (x_rnV V)) 59 then (u2 (u2 (u2 (x_sgV (x_rnV V) 59) 11 d.toNatClampNeg s4) 12 d.toNatClampNeg b4) 13 d.toNatClampNeg (x_numV (x_rnV V)), 1) else (x_sgV (x_rnV V) 59, 0)) else (x_rnV V, 0)
def x_rC (V : Mv) (d : Int32) : Mv × Int32 := if x_nt V = 0 then (x_ref V 1, 0) else if x_nt V = 3 then (if x_sg (x_tokV V) 60 then (if x_rn (x_sgV V 60) then x_rD (x_rnV (x_sgV V 60)) d (x_nt V) (x_numV (x_rnV (x_sgV V 60))) else (x_rnV (x_sgV V 60), 0)) else (x_sgV V 60, 0)) else x_rD V d (x_nt V) 0
def x_rB (V : Mv) (nD : Nat) : Mv × Int32 := if nI nD ≤ x_numV V then (x_ref V 2, 0) else if x_numV V < 40 then x_rC (x_tokV V) (x_numV V) else (x_ref V 2, 0)
def x_rA (V : Mv) (nD : Nat) : Mv × Int32 := if x_isnV V 0 = 0 then (x_ref V 1, 0) else if x_rn V then x_rB (x_rnV V) nD else (x_rnV V, 0)
def x_rt (nD : Nat) : Nat → Mv → Mv × Int32
  | 0, V => (V, 1)
  | n + 1, V => if V 8 2 = 0 then (V, 1) else if (x_rA V nD).2 = 0 then ((x_rA V nD).1, 0) else x_rt nD n (x_tokV (u2 (x_rA V nD).1 10 4 ((x_rA V nD).1 10 4 + 1)))
def x_t0 (V : Mv) : Mv := u2 (u2 (x_fillL 11 0 40 0 V) 10 4 0) 8 4 0
def x_tape (V : Mv) (nD : Nat) : Mv × Int32 := x_rt nD 301 (x_tokV (x_t0 V))
def x_pf : Nat → Nat → Mv → Mv
  | 0, _, V => V
  | n + 1, i, V => x_pf n (i + 1) (if V 11 i = 0 then V else x_begin V (200 + i) (V 11 i) (V 12 i) (V 13 i))
theorem x_tokV_ne {V : Mv} {k : Nat} (h : k ≠ 8) : x_tokV V k = V k := by
  rw [x_tokV, x_tok, u2_ne h, u2_ne h, u2_ne h]
theorem x_tokV_1 {V : Mv} : x_tokV V 8 1 = V 8 1 := by
  rw [x_tokV, x_tok, u2_sn (by decide), u2_sn (by decide), u2_sn (by decide)]
theorem tf_fig (B : Nat → Int32) : ∀ n t i, t ≤ i → i < tf B n t → 48 ≤ B i ∧ B i ≤ 57
  | 0, t, i => fun h1 h2 => by rw [tf] at h2; omega
  | n + 1, t, i => fun h1 h2 => by
    rw [tf] at h2
    split at h2
    · by_cases h : i = t
      · subst h
        assumption
      · exact tf_fig B n (t + 1) i (by omega) h2
    · omega
theorem x_tkS3 {B : Nat → Int32} {L a : Nat} (h : x_tkS B L a = 3) : a < L := by
  unfold x_tkS at h
  split at h
  · exact absurd h (by decide)
  · omega
theorem x_tkS2 {B : Nat → Int32} {L a : Nat} (hL : L ≤ 300) (ha : a ≤ L) (h : x_tkS B L a = 2) : x_tkE B L a ≤ a + 4 ∧ ∀ t, a ≤ t → t < x_tkE B L a → 48 ≤ B t ∧ B t ≤ 57 := by
  have hf := tf_le B (L - a) a
  unfold x_tkS at h
  unfold x_tkE
  split at h
  · exact absurd h (by decide)
  · next h1 =>
    rw [if_neg h1]
    split at h
    · split at h
      · exact absurd h (by decide)
      · exact absurd h (by decide)
    · next h2 =>
      rw [if_neg h2]
      split at h
      · next h3 =>
        rw [if_pos h3]
        split at h
        · exact absurd h (by decide)
        · next h4 =>
          rw [pk_sub hf.1] at h4
          have h5 : ¬ 4 < tf B (L - a) a - a := fun e => h4 (nI_lt (a := 4) e (by omega))
          exact ⟨by omega, fun t h6 h7 => tf_fig B _ _ t h6 h7⟩
      · split at h
        · exact absurd h (by decide)
        · split at h
          · exact absurd h (by decide)
          · exact absurd h (by decide)
theorem tkX_0 {V : Mv} {L : Nat} (h : tkX V L) : tk0 V L := by
  obtain ⟨h1, h2, a, ee, h3, h4, h5, h6, -⟩ := h
  exact ⟨h1, h2, ee, h4, h6⟩
theorem tkX_tok {V : Mv} {L : Nat} (h : tk0 V L) : tkX (x_tokV V) L := by
  obtain ⟨hL, hL3, e1, he, heL⟩ := h
  have hLe : (V 8 1).toNatClampNeg = L := by rw [hL, nI_clamp (by omega)]
  have hee : (V 8 4).toNatClampNeg = e1 := by rw [he, nI_clamp (by omega)]
  have hb := tb_le (V 9) (L - e1) e1
  have hk := x_tkE_le (V 9) (L := L) (a := tb (V 9) (L - e1) e1) (by omega)
  refine ⟨by rw [x_tokV_1]; exact hL, hL3, tb (V 9) (L - e1) e1, x_tkE (V 9) L (tb (V 9) (L - e1) e1), ?_, ?_, hk.1, hk.2, ?_, ?_⟩
  · rw [x_tokV, hLe, hee, x_tok, u2_sn (by decide), u2_sn (by decide), u2_ss]
  · rw [x_tokV, hLe, hee, x_tok, u2_sn (by decide), u2_ss]
  · rw [x_tokV, hLe, hee, x_tok, u2_ss]
    exact x_tkS3
  · rw [x_tokV_ne (k := 9) (by decide), x_tokV, hLe, hee, x_tok, u2_ss]
    exact x_tkS2 hL3 (by omega)
theorem tkX_ag {V U : Mv} {L : Nat} (h8 : ∀ j, 1 ≤ j → U 8 j = V 8 j) (h9 : U 9 = V 9) (h : tkX V L) : tkX U L := by
  unfold tkX at h ⊢
  rw [h9, h8 1 (by decide), h8 2 (by decide), h8 3 (by decide), h8 4 (by decide)]
  exact h
theorem x_ref_ne {V : Mv} {a : Int32} {k : Nat} (h : k ≠ 10) : x_ref V a k = V k := by
  rw [x_ref, u2_ne h, u2_ne h]
theorem tkX_ref {V : Mv} {L : Nat} {a : Int32} (h : tkX V L) : tkX (x_ref V a) L := tkX_ag (fun j _ => by rw [x_ref_ne (by decide)]) (x_ref_ne (by decide)) h
theorem tkX_10 {V : Mv} {L j : Nat} {a : Int32} (h : tkX V L) : tkX (u2 V 10 j a) L := tkX_ag (fun j _ => by rw [u2_ne (by decide)]) (u2_ne (by decide)) h
theorem tkX_rn {V : Mv} {L : Nat} (h : tk0 V L) : tkX (x_rnV V) L := by
  rw [x_rnV]
  split
  · exact tkX_tok h
  · exact tkX_ref (tkX_tok h)
theorem tkX_sg {V : Mv} {L : Nat} {ch : Int32} (h : tk0 V L) : tkX (x_sgV V ch) L := by
  rw [x_sgV]
  split
  · exact tkX_tok h
  · exact tkX_ref (tkX_tok h)
theorem x_rn_s {V : Mv} (h : x_rn V) : x_rnV V 8 2 = 2 := by
  rw [x_rnV, if_pos h]
  exact h
theorem x_num_b (B : Nat → Int32) : ∀ n t N k, N < 10 ^ k → k + n ≤ 4 → (∀ i, t ≤ i → i < t + n → 48 ≤ B i ∧ B i ≤ 57) → ∃ M, M < 10000 ∧ x_num B n t (nI N) = nI M
  | 0, t, N, k => fun h1 h2 _ => ⟨N, Nat.lt_of_lt_of_le h1 (show 10 ^ k ≤ 10 ^ 4 from Nat.pow_le_pow_right (by decide) (by omega)), rfl⟩
  | n + 1, t, N, k => fun h1 h2 h3 => by
    have hb := h3 t (by omega) (by omega)
    obtain ⟨b0, hb0, hb1⟩ := nI_of2 (x := B t) (M := 57) (n := 57) (by decide) (Int32.not_lt.mpr (Int32.le_trans (by decide) hb.1)) hb.2
    have hb2 : 48 ≤ b0 := (nI_leI (a := 48) (by decide) (by omega)).mp (by rw [← hb1]; exact hb.1)
    have h4 : 10 * nI N + B t - 48 = nI (10 * N + b0 - 48) := by
      rw [← pk_sub (b := 48) (by omega), ← nI_add, hb1]
      show _ = Int32.ofNat (10 * N) + nI b0 - nI 48
      rw [Int32.ofNat_mul]
      rfl
    rw [x_num, h4]
    exact x_num_b B n (t + 1) _ (k + 1) (by rw [Nat.pow_succ]; omega) (by omega) (fun i h5 h6 => h3 i (by omega) (by omega))
theorem x_numV_b {V : Mv} {L : Nat} (h : tkX V L) (hs : V 8 2 = 2) : ∃ M, M < 10000 ∧ x_numV V = nI M := by
  obtain ⟨hL, hL3, a1, e1, ha, he, hae, heL, hs3, hs2⟩ := h
  have hea : (V 8 3).toNatClampNeg = a1 := by rw [ha, nI_clamp (by omega)]
  have hee : (V 8 4).toNatClampNeg = e1 := by rw [he, nI_clamp (by omega)]
  have h2 := hs2 hs
  rw [x_numV, hea, hee]
  exact x_num_b (V 9) (e1 - a1) a1 0 0 (by decide) (by omega) (fun i h5 h6 => h2.2 i h5 (by omega))
theorem x_numV_in {V : Mv} {L : Nat} (h : tkX V L) (hs : V 8 2 = 2) (h4 : x_numV V < 40) : inx 40 (x_numV V) := by
  obtain ⟨M, hM, hE⟩ := x_numV_b h hs
  rw [hE] at h4 ⊢
  exact inx_n ((nI_ltI (b := 40) (by omega) (by decide)).mp h4) (by decide)
theorem x_rA_ind {P : Mv → Prop} (h1 : ∀ V, P V → P (x_tokV V)) (h2 : ∀ V a, P V → P (x_ref V a)) (h3 : ∀ V k j x, k = 11 ∨ k = 12 ∨ k = 13 → P V → P (u2 V k j x)) {V : Mv} {nD : Nat} (h : P V) : P (x_rA V nD).1 := by
  have hn : ∀ V, P V → P (x_rnV V) := fun V h => by
    rw [x_rnV]
    split
    · exact h1 _ h
    · exact h2 _ _ (h1 _ h)
  have hg : ∀ V ch, P V → P (x_sgV V ch) := fun V ch h => by
    rw [x_sgV]
    split
    · exact h1 _ h
    · exact h2 _ _ (h1 _ h)
  have hD : ∀ V d s4 b4, P V → P (x_rD V d s4 b4).1 := fun V d s4 b4 h => by
    rw [x_rD]
    split
    · split
      · exact h3 _ _ _ _ (by decide) (h3 _ _ _ _ (by decide) (h3 _ _ _ _ (by decide) (hg _ _ (hn _ h))))
      · exact hg _ _ (hn _ h)
    · exact hn _ h
  have hC : ∀ V d, P V → P (x_rC V d).1 := fun V d h => by
    rw [x_rC]
    split
    · exact h2 _ _ h
    · split
      · split
        · split
          · exact hD _ _ _ _ (hn _ (hg _ _ h))
          · exact hn _ (hg _ _ h)
        · exact hg _ _ h
      · exact hD _ _ _ _ h
  have hB : ∀ V, P V → P (x_rB V nD).1 := fun V h => by
    rw [x_rB]
    split
    · exact h2 _ _ h
    · split
      · exact hC _ _ (h1 _ h)
      · exact h2 _ _ h
  rw [x_rA]
  split
  · exact h2 _ _ h
  · split
    · exact hB _ (hn _ h)
    · exact hn _ h
theorem x_rA_tk {V : Mv} {nD L : Nat} (h : tkX V L) : tkX (x_rA V nD).1 L :=
  x_rA_ind (P := fun U => tkX U L) (fun _ hp => tkX_tok (tkX_0 hp)) (fun _ _ hp => tkX_ref hp) (fun _ _ _ _ hk hp => tkX_ag (fun _ _ => by rw [u2_ne (by omega)]) (u2_ne (by omega)) hp) h
theorem x_rA_c {V : Mv} {nD : Nat} : (x_rA V nD).1 10 4 = V 10 4 :=
  x_rA_ind (P := fun U => U 10 4 = V 10 4) (fun _ hp => by rw [x_tokV_ne (by decide)]; exact hp) (fun _ _ hp => by rw [x_ref, u2_sn (by decide), u2_sn (by decide)]; exact hp) (fun _ _ _ _ hk hp => by rw [u2_ne (by omega)]; exact hp) rfl
theorem x_rA_ne {V : Mv} {nD k : Nat} (h8 : k ≠ 8) (h10 : k ≠ 10) (h11 : k ≠ 11) (h12 : k ≠ 12) (h13 : k ≠ 13) : (x_rA V nD).1 k = V k :=
  x_rA_ind (P := fun U => U k = V k) (fun _ hp => by rw [x_tokV_ne h8]; exact hp) (fun _ _ hp => by rw [x_ref_ne h10]; exact hp) (fun _ _ _ _ hk hp => by rw [u2_ne (by omega)]; exact hp) rfl
theorem x_rt_ne {nD k : Nat} (h8 : k ≠ 8) (h10 : k ≠ 10) (h11 : k ≠ 11) (h12 : k ≠ 12) (h13 : k ≠ 13) : ∀ n V, (x_rt nD n V).1 k = V k
  | 0, V => rfl
  | n + 1, V => by
    rw [x_rt]
    split
    · rfl
    · split
      · exact x_rA_ne h8 h10 h11 h12 h13
      · rw [x_rt_ne h8 h10 h11 h12 h13 n, x_tokV_ne h8, u2_ne h10, x_rA_ne h8 h10 h11 h12 h13]
theorem x_t0_ne {V : Mv} {k : Nat} (h8 : k ≠ 8) (h10 : k ≠ 10) (h11 : k ≠ 11) : x_t0 V k = V k := by
  rw [x_t0, u2_ne h8, u2_ne h10, x_fillL_ne h11]
theorem x_tape_ne {V : Mv} {nD k : Nat} (h8 : k ≠ 8) (h10 : k ≠ 10) (h11 : k ≠ 11) (h12 : k ≠ 12) (h13 : k ≠ 13) : (x_tape V nD).1 k = V k := by
  rw [x_tape, x_rt_ne h8 h10 h11 h12 h13, x_tokV_ne h8, x_t0_ne h8 h10 h11]
theorem x_t00 {V : Mv} {L : Nat} (hL : V 8 1 = nI L) (hL3 : L ≤ 300) : tk0 (x_t0 V) L := by
  refine ⟨?_, hL3, 0, ?_, Nat.zero_le L⟩
  · rw [x_t0, u2_sn (by decide), u2_ne (by decide), x_fillL_ne (by decide)]
    exact hL
  · rw [x_t0, u2_ss]
    decide
theorem x_t0_tk {V : Mv} {L : Nat} (hL : V 8 1 = nI L) (hL3 : L ≤ 300) : tkX (x_tokV (x_t0 V)) L := tkX_tok (x_t00 hL hL3)
theorem x_t0_c {V : Mv} : x_tokV (x_t0 V) 10 4 = nI 0 := by
  rw [x_tokV_ne (by decide), x_t0, u2_ne (by decide), u2_ss]
  decide
theorem x_begin_ne {V : Mv} {k k' : Nat} {a b d : Int32} (h : k' ≠ k) : x_begin V k a b d k' = V k' := by
  rw [x_begin, u2_ne h, u2_ne h, u2_ne h, u2_ne h]
theorem k_X5_readToken {X : (Nat → Prop) → State → Prop} (hxo : xok X) (l : Launch) (D : va_G) (q : Cq) {dm : List Nat} {kd ln ad : Nat → Nat} (V : Mv) (J : Mj) (R : Mr) (nP nD L : Nat) (hX : okX dm kd ln R nP nD) (ht0 : tk0 V L) : CtV X l yX5_readToken wsX5_readToken ({ frames := 2, cells := 0, slots := 0, locals := 41 }) D q dm kd ln ad V J R [.ref (ad 8)] (x_tokV V) (J) (R) := by
  obtain ⟨hL, hL3, e1, he, heL⟩ := id ht0
  have hLe : (V 8 1).toNatClampNeg = L := by rw [hL, nI_clamp (by omega)]
  have hee : (V 8 4).toNatClampNeg = e1 := by rw [he, nI_clamp (by omega)]
  have h := c_X5_readToken (ad := ad) hxo l D q V J R nP nD L e1 hX hL hL3 he heL
  rw [x_tokV, hLe, hee]
  exact h
theorem k_X5_isName {X : (Nat → Prop) → State → Prop} (hxo : xok X) (l : Launch) (D : va_G) (q : Cq) {dm : List Nat} {kd ln ad : Nat → Nat} (V : Mv) (J : Mj) (R : Mr) (nP nD L i : Nat) (hX : okX dm kd ln R nP nD) (ht : tkX V L) (hst : ∀ (A : Nat → Prop) (U : State), X A U → strX ad A U) (hi4 : i < 4) : CtI X l yX5_isName wsX5_isName ({ frames := 4, cells := 0, slots := 0, locals := 85 }) D q dm kd ln ad V J R [.ref (ad 8), .ref (ad (50 + i))] (x_isnV V i) (V) (J) (R) := by
  obtain ⟨hL, hL3, a1, e1, ha, he, hae, heL, hs3, hs2⟩ := id ht
  have hea : (V 8 3).toNatClampNeg = a1 := by rw [ha, nI_clamp (by omega)]
  have hee : (V 8 4).toNatClampNeg = e1 := by rw [he, nI_clamp (by omega)]
  have h := c_X5_isName (ad := ad) hxo l D q V J R nP nD a1 e1 i hX ha he hae (by omega) hst hi4
  rw [x_isnV, hea, hee]
  exact h
theorem k_X5_numberValue {X : (Nat → Prop) → State → Prop} (hxo : xok X) (l : Launch) (D : va_G) (q : Cq) {dm : List Nat} {kd ln ad : Nat → Nat} (V : Mv) (J : Mj) (R : Mr) (nP nD L : Nat) (hX : okX dm kd ln R nP nD) (ht : tkX V L) : CtI X l yX5_numberValue wsX5_numberValue ({ frames := 0, cells := 0, slots := 0, locals := 0 }) D q dm kd ln ad V J R [.ref (ad 8)] (x_numV V) (V) (J) (R) := by
  obtain ⟨hL, hL3, a1, e1, ha, he, hae, heL, hs3, hs2⟩ := id ht
  have hea : (V 8 3).toNatClampNeg = a1 := by rw [ha, nI_clamp (by omega)]
  have hee : (V 8 4).toNatClampNeg = e1 := by rw [he, nI_clamp (by omega)]
  have h := c_X5_numberValue (ad := ad) hxo l D q V J R nP nD a1 e1 hX ha he hae (by omega)
  rw [x_numV, hea, hee]
  exact h
theorem k_X5_isSign {X : (Nat → Prop) → State → Prop} (hxo : xok X) (l : Launch) (D : va_G) (q : Cq) {dm : List Nat} {kd ln ad : Nat → Nat} (V : Mv) (J : Mj) (R : Mr) (nP nD L : Nat) (ch : Int32) (hX : okX dm kd ln R nP nD) (ht : tkX V L) : CtI X l yX5_isSign wsX5_isSign ({ frames := 0, cells := 0, slots := 0, locals := 0 }) D q dm kd ln ad V J R [.ref (ad 8), .int ch] (bz (x_sg V ch)) (V) (J) (R) := by
  obtain ⟨hL, hL3, a1, e1, ha, he, hae, heL, hs3, hs2⟩ := id ht
  have hea : (V 8 3).toNatClampNeg = a1 := by rw [ha, nI_clamp (by omega)]
  have hee : (V 8 4).toNatClampNeg = e1 := by rw [he, nI_clamp (by omega)]
  have h := c_X5_isSign (ad := ad) hxo l D q V J R nP nD a1 ch hX ha (fun h => Nat.lt_of_lt_of_le (hs3 h) hL3)
  rw [← hea] at h
  exact h
set_option maxHeartbeats 4000000 in
set_option maxRecDepth 100000 in
theorem c_X4_refuse {X : (Nat → Prop) → State → Prop} (hxo : xok X) (l : Launch) (D : va_G) (q : Cq) {dm : List Nat} {kd ln ad : Nat → Nat} (V : Mv) (J : Mj) (R : Mr) (nP nD : Nat) (a : Int32) (hX : okX dm kd ln R nP nD) : CtI X l yX4_refuse wsX4_refuse ({ frames := 0, cells := 0, slots := 0, locals := 0 }) D q dm kd ln ad V J R [.ref (ad 10), .int a] (0) (x_ref V a) (J) (R) := by
  refine CtI_of (cc := cX4_refuse) (maxL := 2) (ret := (some .boolean)) (by decide +kernel) rfl (Nat.le_of_ble_eq_true rfl) ?_
  intro p e s m below meth c A hx hb hr hml hts hown hlk hmn hK hW hA hXs ls hl
  have hS : va_S A s.heap s.heap [] := va_S.rf
  have hl : lv_has ls 2 [(0, .ref (ad 10)), (1, .int a)] := hl
  have hin_TX4 : ∀ w ∈ u_ws RX4 TX4 7, w ∈ wsX4_refuse := by decide +kernel
  have hin_TX5 : ∀ w ∈ u_ws RX5 TX5 5, w ∈ wsX4_refuse := by decide +kernel
  refine lv_aload_n hx hb dX4_refuse_0 rfl (lv_at hl 0 rfl) ?_
  refine lv_iload_n hx hb dX4_refuse_1 rfl (lv_at hl 1 rfl) ?_
  refine w_puti (ci := 5) (T := TX4) (ty := .int) hx hb hts hin_TX4 tyX4 tyX4_ok nmX4 hown hK hW hS (hX.1 10 (by decide)).1 (hX.1 10 (by decide)).2.1 (by decide) rfl 5 (by decide) (hts (.fieldLink RX4 84 "TownClocks$Reading" "latestFault" "I") (by decide +kernel)) (fun _ h9 => h9) rfl (tyX4_ok 5 (by decide)) rfl rfl (Nat.le_of_ble_eq_true rfl) rfl dX4_refuse_2 (fun H locs hW hS => ?_)
  refine lv_aload_n hx hb dX4_refuse_5 rfl (lv_at hl 0 rfl) ?_
  refine lv_aload_n hx hb dX4_refuse_6 rfl (lv_at hl 0 rfl) ?_
  refine w_getr (ci := 5) (T := TX4) hx hb hts hin_TX4 hown hK hW (hX.1 10 (by decide)).1 (hX.1 10 (by decide)).2.1 (by decide) rfl 0 (by decide) (hts (.fieldLink RX4 12 "TownClocks$Reading" "tape" "LTownClocks$Tape;") (by decide +kernel)) (fun _ h9 => h9) rfl ((hX.1 10 (by decide)).2.2.2 0 8 rfl) dX4_refuse_7 ?_
  refine w_get (ci := 6) (T := TX5) hx hb hts hin_TX5 hown hK hW (hX.1 8 (by decide)).1 (hX.1 8 (by decide)).2.1 (by decide) rfl 3 (by decide) (hts (.fieldLink RX4 87 "TownClocks$Tape" "first" "I") (by decide +kernel)) (fun _ h9 => h9) rfl dX4_refuse_10 ?_
  refine w_i (by rw [u2_ne (by decide)]) ?_
  refine w_puti (ci := 5) (T := TX4) (ty := .int) hx hb hts hin_TX4 tyX4 tyX4_ok nmX4 hown hK hW hS (hX.1 10 (by decide)).1 (hX.1 10 (by decide)).2.1 (by decide) rfl 6 (by decide) (hts (.fieldLink RX4 90 "TownClocks$Reading" "faultPlace" "I") (by decide +kernel)) (fun _ h9 => h9) rfl (tyX4_ok 6 (by decide)) rfl rfl (Nat.le_of_ble_eq_true rfl) rfl dX4_refuse_13 (fun H locs hW hS => ?_)
  refine lv_iconst (v := 0) hx hb dX4_refuse_16 (by decide) ?_
  exact w_zret hx hb hr hlk hW hS (Or.inl rfl) rfl (by rw [x_ref]) rfl rfl dX4_refuse_17
set_option maxHeartbeats 4000000 in
set_option maxRecDepth 100000 in
theorem c_X4_readNumber {X : (Nat → Prop) → State → Prop} (hxo : xok X) (l : Launch) (D : va_G) (q : Cq) {dm : List Nat} {kd ln ad : Nat → Nat} (V : Mv) (J : Mj) (R : Mr) (nP nD L : Nat) (hX : okX dm kd ln R nP nD) (ht0 : tk0 V L) : CtI X l yX4_readNumber wsX4_readNumber ({ frames := 3, cells := 0, slots := 0, locals := 61 }) D q dm kd ln ad V J R [.ref (ad 10)] (bz (x_rn V)) (x_rnV V) (J) (R) := by
  refine CtI_of (cc := cX4_readNumber) (maxL := 1) (ret := (some .boolean)) (by decide +kernel) rfl (Nat.le_of_ble_eq_true rfl) ?_
  intro p e s m below meth c A hx hb hr hml hts hown hlk hmn hK hW hA hXs ls hl
  have hS : va_S A s.heap s.heap [] := va_S.rf
  have hl : lv_has ls 1 [(0, .ref (ad 10))] := hl
  have hin_TX4 : ∀ w ∈ u_ws RX4 TX4 7, w ∈ wsX4_readNumber := by decide +kernel
  have hin_TX5 : ∀ w ∈ u_ws RX5 TX5 5, w ∈ wsX4_readNumber := by decide +kernel
  refine lv_aload_n hx hb dX4_readNumber_0 rfl (lv_at hl 0 rfl) ?_
  refine w_getr (ci := 5) (T := TX4) hx hb hts hin_TX4 hown hK hW (hX.1 10 (by decide)).1 (hX.1 10 (by decide)).2.1 (by decide) rfl 0 (by decide) (hts (.fieldLink RX4 12 "TownClocks$Reading" "tape" "LTownClocks$Tape;") (by decide +kernel)) (fun _ h9 => h9) rfl ((hX.1 10 (by decide)).2.2.2 0 8 rfl) dX4_readNumber_1 ?_
  refine w_cv (w_runV ⟨hx, hb, hml, hown, hts⟩ (k_X5_readToken hxo l D q V J R nP nD L hX ht0) hxo (cwV 0 hts gX4_readNumber_X5_readToken rfl rfl rfl (by decide +kernel) ⟨Nat.le_of_ble_eq_true rfl, Nat.le_of_ble_eq_true rfl⟩) hK hW hS hA hXs (w_rcv hK hW (hX.1 8 (by decide)).1 (hX.1 8 (by decide)).2.1 (by decide) rfl) rfl hl.1 rfl (Nat.le_of_ble_eq_true rfl) dX4_readNumber_4 ⟨Nat.zero_le _, Nat.zero_le _⟩) hW hS hA (fun H locs hW hS => ?_)
  refine lv_aload_n hx hb dX4_readNumber_7 rfl (lv_at hl 0 rfl) ?_
  refine w_getr (ci := 5) (T := TX4) hx hb hts hin_TX4 hown hK hW (hX.1 10 (by decide)).1 (hX.1 10 (by decide)).2.1 (by decide) rfl 0 (by decide) (hts (.fieldLink RX4 12 "TownClocks$Reading" "tape" "LTownClocks$Tape;") (by decide +kernel)) (fun _ h9 => h9) rfl ((hX.1 10 (by decide)).2.2.2 0 8 rfl) dX4_readNumber_8 ?_
  refine w_get (ci := 6) (T := TX5) hx hb hts hin_TX5 hown hK hW (hX.1 8 (by decide)).1 (hX.1 8 (by decide)).2.1 (by decide) rfl 2 (by decide) (hts (.fieldLink RX4 44 "TownClocks$Tape" "sort" "I") (by decide +kernel)) (fun _ h9 => h9) rfl dX4_readNumber_11 ?_
  refine lv_iconst (v := 2) hx hb dX4_readNumber_14 (by decide) ?_
  refine lv_icmp_eq (tgt := 26) hx hb dX4_readNumber_15 (by decide) (fun c_15 => ?_) (fun c_15 => ?_)
  · refine lv_iconst (v := 1) hx hb dX4_readNumber_26 (by decide) ?_
    refine lv_goto (tgt := 31) hx hb dX4_readNumber_27 (by decide) ?_
    exact w_zret hx hb hr hlk hW hS (Or.inr rfl) (Eq.symm (bz_t c_15)) (by rw [x_rnV, if_pos c_15]) rfl rfl dX4_readNumber_31
  · refine lv_aload_n hx hb dX4_readNumber_18 rfl (lv_at hl 0 rfl) ?_
    refine lv_iconst (v := 1) hx hb dX4_readNumber_19 (by decide) ?_
    refine w_ci (w_runV ⟨hx, hb, hml, hown, hts⟩ (c_X4_refuse hxo l D q (x_tokV V) J R nP nD 1 hX) hxo (cwV 1 hts gX4_readNumber_X4_refuse rfl rfl rfl (by decide +kernel) ⟨Nat.le_of_ble_eq_true rfl, Nat.le_of_ble_eq_true rfl⟩) hK hW hS hA hXs (w_rcv hK hW (hX.1 10 (by decide)).1 (hX.1 10 (by decide)).2.1 (by decide) rfl) rfl hl.1 rfl (Nat.le_of_ble_eq_true rfl) dX4_readNumber_20 ⟨Nat.zero_le _, Nat.zero_le _⟩) hW hS hA (fun H locs hW hS => ?_)
    refine lv_if_eq (tgt := 30) hx hb dX4_readNumber_23 (by decide) (fun _ => ?_) (fun z9 => absurd z9 (by decide))
    refine lv_iconst (v := 0) hx hb dX4_readNumber_30 (by decide) ?_
    exact w_zret hx hb hr hlk hW hS (Or.inl rfl) (Eq.symm (bz_f c_15)) (by rw [x_rnV, if_neg c_15]) rfl rfl dX4_readNumber_31
set_option maxHeartbeats 4000000 in
set_option maxRecDepth 100000 in
theorem c_X4_readSign {X : (Nat → Prop) → State → Prop} (hxo : xok X) (l : Launch) (D : va_G) (q : Cq) {dm : List Nat} {kd ln ad : Nat → Nat} (V : Mv) (J : Mj) (R : Mr) (nP nD L : Nat) (ch : Int32) (hX : okX dm kd ln R nP nD) (ht0 : tk0 V L) : CtI X l yX4_readSign wsX4_readSign ({ frames := 3, cells := 0, slots := 0, locals := 61 }) D q dm kd ln ad V J R [.ref (ad 10), .int ch] (bz (x_sg (x_tokV V) ch)) (x_sgV V ch) (J) (R) := by
  refine CtI_of (cc := cX4_readSign) (maxL := 2) (ret := (some .boolean)) (by decide +kernel) rfl (Nat.le_of_ble_eq_true rfl) ?_
  intro p e s m below meth c A hx hb hr hml hts hown hlk hmn hK hW hA hXs ls hl
  have hS : va_S A s.heap s.heap [] := va_S.rf
  have hl : lv_has ls 2 [(0, .ref (ad 10)), (1, .int ch)] := hl
  have hin_TX4 : ∀ w ∈ u_ws RX4 TX4 7, w ∈ wsX4_readSign := by decide +kernel
  refine lv_aload_n hx hb dX4_readSign_0 rfl (lv_at hl 0 rfl) ?_
  refine w_getr (ci := 5) (T := TX4) hx hb hts hin_TX4 hown hK hW (hX.1 10 (by decide)).1 (hX.1 10 (by decide)).2.1 (by decide) rfl 0 (by decide) (hts (.fieldLink RX4 12 "TownClocks$Reading" "tape" "LTownClocks$Tape;") (by decide +kernel)) (fun _ h9 => h9) rfl ((hX.1 10 (by decide)).2.2.2 0 8 rfl) dX4_readSign_1 ?_
  refine w_cv (w_runV ⟨hx, hb, hml, hown, hts⟩ (k_X5_readToken hxo l D q V J R nP nD L hX ht0) hxo (cwV 0 hts gX4_readSign_X5_readToken rfl rfl rfl (by decide +kernel) ⟨Nat.le_of_ble_eq_true rfl, Nat.le_of_ble_eq_true rfl⟩) hK hW hS hA hXs (w_rcv hK hW (hX.1 8 (by decide)).1 (hX.1 8 (by decide)).2.1 (by decide) rfl) rfl hl.1 rfl (Nat.le_of_ble_eq_true rfl) dX4_readSign_4 ⟨Nat.zero_le _, Nat.zero_le _⟩) hW hS hA (fun H locs hW hS => ?_)
  refine lv_aload_n hx hb dX4_readSign_7 rfl (lv_at hl 0 rfl) ?_
  refine w_getr (ci := 5) (T := TX4) hx hb hts hin_TX4 hown hK hW (hX.1 10 (by decide)).1 (hX.1 10 (by decide)).2.1 (by decide) rfl 0 (by decide) (hts (.fieldLink RX4 12 "TownClocks$Reading" "tape" "LTownClocks$Tape;") (by decide +kernel)) (fun _ h9 => h9) rfl ((hX.1 10 (by decide)).2.2.2 0 8 rfl) dX4_readSign_8 ?_
  refine lv_iload_n hx hb dX4_readSign_11 rfl (lv_at hl 1 rfl) ?_
  refine w_ci (w_runV ⟨hx, hb, hml, hown, hts⟩ (k_X5_isSign hxo l D q (x_tokV V) J R nP nD L ch hX (tkX_tok ht0)) hxo (cwV 1 hts gX4_readSign_X5_isSign rfl rfl rfl (by decide +kernel) ⟨Nat.le_of_ble_eq_true rfl, Nat.le_of_ble_eq_true rfl⟩) hK hW hS hA hXs (w_rcv hK hW (hX.1 8 (by decide)).1 (hX.1 8 (by decide)).2.1 (by decide) rfl) rfl hl.1 rfl (Nat.le_of_ble_eq_true rfl) dX4_readSign_12 ⟨Nat.zero_le _, Nat.zero_le _⟩) hW hS hA (fun H locs hW hS => ?_)
  refine w_ifnz (tgt := 26) hx hb dX4_readSign_15 (by decide) (fun c_15 => ?_) (fun c_15 => ?_)
  · refine lv_iconst (v := 1) hx hb dX4_readSign_26 (by decide) ?_
    refine lv_goto (tgt := 31) hx hb dX4_readSign_27 (by decide) ?_
    exact w_zret hx hb hr hlk hW hS (Or.inr rfl) (Eq.symm (bz_t c_15)) (by rw [x_sgV, if_pos c_15]) rfl rfl dX4_readSign_31
  · refine lv_aload_n hx hb dX4_readSign_18 rfl (lv_at hl 0 rfl) ?_
    refine lv_iconst (v := 1) hx hb dX4_readSign_19 (by decide) ?_
    refine w_ci (w_runV ⟨hx, hb, hml, hown, hts⟩ (c_X4_refuse hxo l D q (x_tokV V) J R nP nD 1 hX) hxo (cwV 1 hts gX4_readSign_X4_refuse rfl rfl rfl (by decide +kernel) ⟨Nat.le_of_ble_eq_true rfl, Nat.le_of_ble_eq_true rfl⟩) hK hW hS hA hXs (w_rcv hK hW (hX.1 10 (by decide)).1 (hX.1 10 (by decide)).2.1 (by decide) rfl) rfl hl.1 rfl (Nat.le_of_ble_eq_true rfl) dX4_readSign_20 ⟨Nat.zero_le _, Nat.zero_le _⟩) hW hS hA (fun H locs hW hS => ?_)
    refine lv_if_eq (tgt := 30) hx hb dX4_readSign_23 (by decide) (fun _ => ?_) (fun z9 => absurd z9 (by decide))
    refine lv_iconst (v := 0) hx hb dX4_readSign_30 (by decide) ?_
    exact w_zret hx hb hr hlk hW hS (Or.inl rfl) (Eq.symm (bz_f c_15)) (by rw [x_sgV, if_neg c_15]) rfl rfl dX4_readSign_31
set_option maxHeartbeats 4000000 in
set_option maxRecDepth 100000 in
theorem c_X4_namedTerms {X : (Nat → Prop) → State → Prop} (hxo : xok X) (l : Launch) (D : va_G) (q : Cq) {dm : List Nat} {kd ln ad : Nat → Nat} (V : Mv) (J : Mj) (R : Mr) (nP nD L : Nat) (hX : okX dm kd ln R nP nD) (ht : tkX V L) (hst : ∀ (A : Nat → Prop) (U : State), X A U → strX ad A U) : CtI X l yX4_namedTerms wsX4_namedTerms ({ frames := 5, cells := 0, slots := 0, locals := 107 }) D q dm kd ln ad V J R [.ref (ad 10)] (x_nt V) (V) (J) (R) := by
  refine CtI_of (cc := cX4_namedTerms) (maxL := 1) (ret := (some .int)) (by decide +kernel) rfl (Nat.le_of_ble_eq_true rfl) ?_
  intro p e s m below meth c A hx hb hr hml hts hown hlk hmn hK hW hA hXs ls hl
  have hS : va_S A s.heap s.heap [] := va_S.rf
  have hl : lv_has ls 1 [(0, .ref (ad 10))] := hl
  have hin_TX4 : ∀ w ∈ u_ws RX4 TX4 7, w ∈ wsX4_namedTerms := by decide +kernel
  have hSt := hst A s hXs
  refine lv_aload_n hx hb dX4_namedTerms_0 rfl (lv_at hl 0 rfl) ?_
  refine w_getr (ci := 5) (T := TX4) hx hb hts hin_TX4 hown hK hW (hX.1 10 (by decide)).1 (hX.1 10 (by decide)).2.1 (by decide) rfl 0 (by decide) (hts (.fieldLink RX4 12 "TownClocks$Reading" "tape" "LTownClocks$Tape;") (by decide +kernel)) (fun _ h9 => h9) rfl ((hX.1 10 (by decide)).2.2.2 0 8 rfl) dX4_namedTerms_1 ?_
  refine va_ldcS hx hb hown hSt.2.2.2.2.1.2.1 dX4_namedTerms_4 ?_
  refine w_ci (w_runV ⟨hx, hb, hml, hown, hts⟩ (k_X5_isName hxo l D q V J R nP nD L 1 hX ht hst (by decide)) hxo (cwV 1 hts gX4_namedTerms_X5_isName rfl rfl rfl (by decide +kernel) ⟨Nat.le_of_ble_eq_true rfl, Nat.le_of_ble_eq_true rfl⟩) hK hW hS hA hXs (w_rcv hK hW (hX.1 8 (by decide)).1 (hX.1 8 (by decide)).2.1 (by decide) rfl) rfl hl.1 rfl (Nat.le_of_ble_eq_true rfl) dX4_namedTerms_6 ⟨Nat.zero_le _, Nat.zero_le _⟩) hW hS hA (fun H locs hW hS => ?_)
  refine lv_if_eq (tgt := 14) hx hb dX4_namedTerms_9 (by decide) (fun c_9 => ?_) (fun c_9 => ?_)
  · refine lv_aload_n hx hb dX4_namedTerms_14 rfl (lv_at hl 0 rfl) ?_
    refine w_getr (ci := 5) (T := TX4) hx hb hts hin_TX4 hown hK hW (hX.1 10 (by decide)).1 (hX.1 10 (by decide)).2.1 (by decide) rfl 0 (by decide) (hts (.fieldLink RX4 12 "TownClocks$Reading" "tape" "LTownClocks$Tape;") (by decide +kernel)) (fun _ h9 => h9) rfl ((hX.1 10 (by decide)).2.2.2 0 8 rfl) dX4_namedTerms_15 ?_
    refine va_ldcS hx hb hown hSt.2.2.2.2.1.2.2.1 dX4_namedTerms_18 ?_
    refine w_ci (w_runV ⟨hx, hb, hml, hown, hts⟩ (k_X5_isName hxo l D q V J R nP nD L 2 hX ht hst (by decide)) hxo (cwV 1 hts gX4_namedTerms_X5_isName rfl rfl rfl (by decide +kernel) ⟨Nat.le_of_ble_eq_true rfl, Nat.le_of_ble_eq_true rfl⟩) hK hW hS hA hXs (w_rcv hK hW (hX.1 8 (by decide)).1 (hX.1 8 (by decide)).2.1 (by decide) rfl) rfl hl.1 rfl (Nat.le_of_ble_eq_true rfl) dX4_namedTerms_20 ⟨Nat.zero_le _, Nat.zero_le _⟩) hW hS hA (fun H locs hW hS => ?_)
    refine lv_if_eq (tgt := 28) hx hb dX4_namedTerms_23 (by decide) (fun c_23 => ?_) (fun c_23 => ?_)
    · refine lv_aload_n hx hb dX4_namedTerms_28 rfl (lv_at hl 0 rfl) ?_
      refine w_getr (ci := 5) (T := TX4) hx hb hts hin_TX4 hown hK hW (hX.1 10 (by decide)).1 (hX.1 10 (by decide)).2.1 (by decide) rfl 0 (by decide) (hts (.fieldLink RX4 12 "TownClocks$Reading" "tape" "LTownClocks$Tape;") (by decide +kernel)) (fun _ h9 => h9) rfl ((hX.1 10 (by decide)).2.2.2 0 8 rfl) dX4_namedTerms_29 ?_
      refine va_ldcS hx hb hown hSt.2.2.2.2.1.2.2.2 dX4_namedTerms_32 ?_
      refine w_ci (w_runV ⟨hx, hb, hml, hown, hts⟩ (k_X5_isName hxo l D q V J R nP nD L 3 hX ht hst (by decide)) hxo (cwV 1 hts gX4_namedTerms_X5_isName rfl rfl rfl (by decide +kernel) ⟨Nat.le_of_ble_eq_true rfl, Nat.le_of_ble_eq_true rfl⟩) hK hW hS hA hXs (w_rcv hK hW (hX.1 8 (by decide)).1 (hX.1 8 (by decide)).2.1 (by decide) rfl) rfl hl.1 rfl (Nat.le_of_ble_eq_true rfl) dX4_namedTerms_34 ⟨Nat.zero_le _, Nat.zero_le _⟩) hW hS hA (fun H locs hW hS => ?_)
      refine lv_if_eq (tgt := 44) hx hb dX4_namedTerms_37 (by decide) (fun c_37 => ?_) (fun c_37 => ?_)
      · refine lv_iconst (v := 0) hx hb dX4_namedTerms_44 (by decide) ?_
        exact w_iret hx hb hr hlk hW hS (by rw [x_nt, if_pos c_9, if_pos c_23, if_pos c_37]) rfl rfl rfl dX4_namedTerms_45
      · refine lv_iconst (v := 3) hx hb dX4_namedTerms_40 (by decide) ?_
        refine lv_goto (tgt := 45) hx hb dX4_namedTerms_41 (by decide) ?_
        exact w_iret hx hb hr hlk hW hS (by rw [x_nt, if_pos c_9, if_pos c_23, if_neg c_37]) rfl rfl rfl dX4_namedTerms_45
    · refine lv_iconst (v := 2) hx hb dX4_namedTerms_26 (by decide) ?_
      exact w_iret hx hb hr hlk hW hS (by rw [x_nt, if_pos c_9, if_neg c_23]) rfl rfl rfl dX4_namedTerms_27
  · refine lv_iconst (v := 1) hx hb dX4_namedTerms_12 (by decide) ?_
    exact w_iret hx hb hr hlk hW hS (by rw [x_nt, if_neg c_9]) rfl rfl rfl dX4_namedTerms_13
set_option maxHeartbeats 4000000 in
set_option maxRecDepth 100000 in
theorem c_X4_readContract {X : (Nat → Prop) → State → Prop} (hxo : xok X) (l : Launch) (D : va_G) (q : Cq) {dm : List Nat} {kd ln ad : Nat → Nat} (V : Mv) (J : Mj) (R : Mr) (nP nD L : Nat) (hX : okX dm kd ln R nP nD) (ht : tkX V L) (hst : ∀ (A : Nat → Prop) (U : State), X A U → strX ad A U) : CtI X l yX4_readContract wsX4_readContract ({ frames := 6, cells := 0, slots := 0, locals := 127 }) D q dm kd ln ad V J R [.ref (ad 10), .int (nI nD)] ((x_rA V nD).2) ((x_rA V nD).1) (J) (R) := by
  refine CtI_of (cc := cX4_readContract) (maxL := 6) (ret := (some .boolean)) (by decide +kernel) rfl (Nat.le_of_ble_eq_true rfl) ?_
  intro p e s m below meth c A hx hb hr hml hts hown hlk hmn hK hW hA hXs ls hl
  have hS : va_S A s.heap s.heap [] := va_S.rf
  have hl : lv_has ls 6 [(0, .ref (ad 10)), (1, .int (nI nD))] := hl
  have hin_TX4 : ∀ w ∈ u_ws RX4 TX4 7, w ∈ wsX4_readContract := by decide +kernel
  have hSt := hst A s hXs
  obtain ⟨F, hFe⟩ : ∃ r, r = x_rA V nD := ⟨_, rfl⟩
  have J109 : ∀ (Vw : Mv) (ht : tkX Vw L) (d s4 b4 : Int32) (hd4 : inx 40 d) (hF : x_rD Vw d s4 b4 = F) (H : Heap) (locs : List Loc) (ls : Array Slot), wok A D q dm kd ln ad Vw J R H → va_S A s.heap H locs → lv_has ls 6 [(0, .ref (ad 10)), (2, .int d), (3, .int s4), (4, .int b4)] → W p l e ({ frames := 6, cells := 0, slots := 0, locals := 127 }) s m ([.ref (ad 10), .int (nI nD)] : List Value).toArray below meth c H locs 0 0 (MQ below (QI ((x_rA V nD).2) D q dm kd ln ad ((x_rA V nD).1) (J) (R) A) ([.ref (ad 10), .int (nI nD)] : List Value).toArray s 0 0 A) (F0 m 109 ls []) := by
    intro Vw ht d s4 b4 hd4 hF H locs ls hW hS hl
    refine lv_aload_n hx hb dX4_readContract_109 rfl (lv_at hl 0 rfl) ?_
    refine w_ci (w_runV ⟨hx, hb, hml, hown, hts⟩ (c_X4_readNumber hxo l D q Vw J R nP nD L hX (tkX_0 ht)) hxo (cwV 0 hts gX4_readContract_X4_readNumber rfl rfl rfl (by decide +kernel) ⟨Nat.le_of_ble_eq_true rfl, Nat.le_of_ble_eq_true rfl⟩) hK hW hS hA hXs (w_rcv hK hW (hX.1 10 (by decide)).1 (hX.1 10 (by decide)).2.1 (by decide) rfl) rfl hl.1 rfl (Nat.le_of_ble_eq_true rfl) dX4_readContract_110 ⟨Nat.zero_le _, Nat.zero_le _⟩) hW hS hA (fun H locs hW hS => ?_)
    refine w_ifnz (tgt := 118) hx hb dX4_readContract_113 (by decide) (fun c_113 => ?_) (fun c_113 => ?_)
    · refine lv_aload_n hx hb dX4_readContract_118 rfl (lv_at hl 0 rfl) ?_
      refine w_getr (ci := 5) (T := TX4) hx hb hts hin_TX4 hown hK hW (hX.1 10 (by decide)).1 (hX.1 10 (by decide)).2.1 (by decide) rfl 0 (by decide) (hts (.fieldLink RX4 12 "TownClocks$Reading" "tape" "LTownClocks$Tape;") (by decide +kernel)) (fun _ h9 => h9) rfl ((hX.1 10 (by decide)).2.2.2 0 8 rfl) dX4_readContract_119 ?_
      refine w_ci (w_runV ⟨hx, hb, hml, hown, hts⟩ (k_X5_numberValue hxo l D q (x_rnV Vw) J R nP nD L hX (tkX_rn (tkX_0 ht))) hxo (cwV 0 hts gX4_readContract_X5_numberValue rfl rfl rfl (by decide +kernel) ⟨Nat.le_of_ble_eq_true rfl, Nat.le_of_ble_eq_true rfl⟩) hK hW hS hA hXs (w_rcv hK hW (hX.1 8 (by decide)).1 (hX.1 8 (by decide)).2.1 (by decide) rfl) rfl hl.1 rfl (Nat.le_of_ble_eq_true rfl) dX4_readContract_122 ⟨Nat.zero_le _, Nat.zero_le _⟩) hW hS hA (fun H locs hW hS => ?_)
      refine lv_istore (lv' := [(5, .int (x_numV (x_rnV Vw))), (0, .ref (ad 10)), (2, .int d), (3, .int s4), (4, .int b4)]) hx hb dX4_readContract_125 hl (by decide) rfl (fun ls hl => ?_)
      refine lv_aload_n hx hb dX4_readContract_127 rfl (lv_at hl 1 rfl) ?_
      refine lv_bipush (v := 59) hx hb dX4_readContract_128 (by decide) ?_
      refine w_ci (w_runV ⟨hx, hb, hml, hown, hts⟩ (c_X4_readSign hxo l D q (x_rnV Vw) J R nP nD L 59 hX (tkX_0 (tkX_rn (tkX_0 ht)))) hxo (cwV 1 hts gX4_readContract_X4_readSign rfl rfl rfl (by decide +kernel) ⟨Nat.le_of_ble_eq_true rfl, Nat.le_of_ble_eq_true rfl⟩) hK hW hS hA hXs (w_rcv hK hW (hX.1 10 (by decide)).1 (hX.1 10 (by decide)).2.1 (by decide) rfl) rfl hl.1 rfl (Nat.le_of_ble_eq_true rfl) dX4_readContract_130 ⟨Nat.zero_le _, Nat.zero_le _⟩) hW hS hA (fun H locs hW hS => ?_)
      refine w_ifnz (tgt := 138) hx hb dX4_readContract_133 (by decide) (fun c_133 => ?_) (fun c_133 => ?_)
      · refine lv_aload_n hx hb dX4_readContract_138 rfl (lv_at hl 1 rfl) ?_
        refine w_getr (ci := 5) (T := TX4) hx hb hts hin_TX4 hown hK hW (hX.1 10 (by decide)).1 (hX.1 10 (by decide)).2.1 (by decide) rfl 1 (by decide) (hts (.fieldLink RX4 18 "TownClocks$Reading" "waitingTerms" "[I") (by decide +kernel)) (fun _ h9 => h9) rfl ((hX.1 10 (by decide)).2.2.2 1 11 rfl) dX4_readContract_139 ?_
        refine lv_iload_n hx hb dX4_readContract_142 rfl (lv_at hl 2 rfl) ?_
        refine lv_iload_n hx hb dX4_readContract_143 rfl (lv_at hl 3 rfl) ?_
        refine w_iast hx hb hK hW hS (hX.1 11 (by decide)).1 (hX.1 11 (by decide)).2.1 (by rw [(show ln 11 = 40 from (hX.1 11 (by decide)).2.2.1)]; exact inx_v.mpr hd4) dX4_readContract_144 (fun H locs hW hS => ?_)
        refine lv_aload_n hx hb dX4_readContract_145 rfl (lv_at hl 1 rfl) ?_
        refine w_getr (ci := 5) (T := TX4) hx hb hts hin_TX4 hown hK hW (hX.1 10 (by decide)).1 (hX.1 10 (by decide)).2.1 (by decide) rfl 2 (by decide) (hts (.fieldLink RX4 22 "TownClocks$Reading" "waitingBelow" "[I") (by decide +kernel)) (fun _ h9 => h9) rfl ((hX.1 10 (by decide)).2.2.2 2 12 rfl) dX4_readContract_146 ?_
        refine lv_iload_n hx hb dX4_readContract_149 rfl (lv_at hl 2 rfl) ?_
        refine lv_iload hx hb dX4_readContract_150 (lv_at hl 4 rfl) ?_
        refine w_iast hx hb hK hW hS (hX.1 12 (by decide)).1 (hX.1 12 (by decide)).2.1 (by rw [(show ln 12 = 40 from (hX.1 12 (by decide)).2.2.1)]; exact inx_v.mpr hd4) dX4_readContract_152 (fun H locs hW hS => ?_)
        refine lv_aload_n hx hb dX4_readContract_153 rfl (lv_at hl 1 rfl) ?_
        refine w_getr (ci := 5) (T := TX4) hx hb hts hin_TX4 hown hK hW (hX.1 10 (by decide)).1 (hX.1 10 (by decide)).2.1 (by decide) rfl 3 (by decide) (hts (.fieldLink RX4 25 "TownClocks$Reading" "waitingPays" "[I") (by decide +kernel)) (fun _ h9 => h9) rfl ((hX.1 10 (by decide)).2.2.2 3 13 rfl) dX4_readContract_154 ?_
        refine lv_iload_n hx hb dX4_readContract_157 rfl (lv_at hl 2 rfl) ?_
        refine lv_iload hx hb dX4_readContract_158 (lv_at hl 0 rfl) ?_
        refine w_iast hx hb hK hW hS (hX.1 13 (by decide)).1 (hX.1 13 (by decide)).2.1 (by rw [(show ln 13 = 40 from (hX.1 13 (by decide)).2.2.1)]; exact inx_v.mpr hd4) dX4_readContract_160 (fun H locs hW hS => ?_)
        refine lv_iconst (v := 1) hx hb dX4_readContract_161 (by decide) ?_
        exact w_zret hx hb hr hlk hW hS (Or.inr rfl) (by rw [← hFe, ← hF, x_rD, if_pos c_113, if_pos c_133]) (by rw [← hFe, ← hF, x_rD, if_pos c_113, if_pos c_133]) rfl rfl dX4_readContract_162
      · refine lv_iconst (v := 0) hx hb dX4_readContract_136 (by decide) ?_
        exact w_zret hx hb hr hlk hW hS (Or.inl rfl) (by rw [← hFe, ← hF, x_rD, if_pos c_113, if_neg c_133]) (by rw [← hFe, ← hF, x_rD, if_pos c_113, if_neg c_133]) rfl rfl dX4_readContract_137
    · refine lv_iconst (v := 0) hx hb dX4_readContract_116 (by decide) ?_
      exact w_zret hx hb hr hlk hW hS (Or.inl rfl) (by rw [← hFe, ← hF, x_rD, if_neg c_113]) (by rw [← hFe, ← hF, x_rD, if_neg c_113]) rfl rfl dX4_readContract_117
  have J27 : ∀ (Vw : Mv) (ht : tkX Vw L) (hs : Vw 8 2 = 2) (hF : x_rB Vw nD = F) (H : Heap) (locs : List Loc) (ls : Array Slot), wok A D q dm kd ln ad Vw J R H → va_S A s.heap H locs → lv_has ls 6 [(0, .ref (ad 10)), (1, .int (nI nD))] → W p l e ({ frames := 6, cells := 0, slots := 0, locals := 127 }) s m ([.ref (ad 10), .int (nI nD)] : List Value).toArray below meth c H locs 0 0 (MQ below (QI ((x_rA V nD).2) D q dm kd ln ad ((x_rA V nD).1) (J) (R) A) ([.ref (ad 10), .int (nI nD)] : List Value).toArray s 0 0 A) (F0 m 27 ls []) := by
    intro Vw ht hs hF H locs ls hW hS hl
    refine lv_aload_n hx hb dX4_readContract_27 rfl (lv_at hl 0 rfl) ?_
    refine w_getr (ci := 5) (T := TX4) hx hb hts hin_TX4 hown hK hW (hX.1 10 (by decide)).1 (hX.1 10 (by decide)).2.1 (by decide) rfl 0 (by decide) (hts (.fieldLink RX4 12 "TownClocks$Reading" "tape" "LTownClocks$Tape;") (by decide +kernel)) (fun _ h9 => h9) rfl ((hX.1 10 (by decide)).2.2.2 0 8 rfl) dX4_readContract_28 ?_
    refine w_ci (w_runV ⟨hx, hb, hml, hown, hts⟩ (k_X5_numberValue hxo l D q Vw J R nP nD L hX ht) hxo (cwV 0 hts gX4_readContract_X5_numberValue rfl rfl rfl (by decide +kernel) ⟨Nat.le_of_ble_eq_true rfl, Nat.le_of_ble_eq_true rfl⟩) hK hW hS hA hXs (w_rcv hK hW (hX.1 8 (by decide)).1 (hX.1 8 (by decide)).2.1 (by decide) rfl) rfl hl.1 rfl (Nat.le_of_ble_eq_true rfl) dX4_readContract_31 ⟨Nat.zero_le _, Nat.zero_le _⟩) hW hS hA (fun H locs hW hS => ?_)
    refine lv_istore_n (lv' := [(2, .int (x_numV Vw)), (0, .ref (ad 10)), (1, .int (nI nD))]) hx hb dX4_readContract_34 rfl hl (by decide) rfl (fun ls hl => ?_)
    refine lv_iload_n hx hb dX4_readContract_35 rfl (lv_at hl 0 rfl) ?_
    refine lv_iload_n hx hb dX4_readContract_36 rfl (lv_at hl 2 rfl) ?_
    refine lv_icmp_ge (tgt := 46) hx hb dX4_readContract_37 (by decide) (fun c_37 => ?_) (fun c_37 => ?_)
    · refine lv_aload_n hx hb dX4_readContract_46 rfl (lv_at hl 1 rfl) ?_
      refine lv_iconst (v := 2) hx hb dX4_readContract_47 (by decide) ?_
      refine w_ci (w_runV ⟨hx, hb, hml, hown, hts⟩ (c_X4_refuse hxo l D q Vw J R nP nD 2 hX) hxo (cwV 1 hts gX4_readContract_X4_refuse rfl rfl rfl (by decide +kernel) ⟨Nat.le_of_ble_eq_true rfl, Nat.le_of_ble_eq_true rfl⟩) hK hW hS hA hXs (w_rcv hK hW (hX.1 10 (by decide)).1 (hX.1 10 (by decide)).2.1 (by decide) rfl) rfl hl.1 rfl (Nat.le_of_ble_eq_true rfl) dX4_readContract_48 ⟨Nat.zero_le _, Nat.zero_le _⟩) hW hS hA (fun H locs hW hS => ?_)
      exact w_zret hx hb hr hlk hW hS (Or.inl rfl) (by rw [← hFe, ← hF, x_rB, if_pos c_37]) (by rw [← hFe, ← hF, x_rB, if_pos c_37]) rfl rfl dX4_readContract_51
    · refine lv_iload_n hx hb dX4_readContract_40 rfl (lv_at hl 0 rfl) ?_
      refine lv_bipush (v := 40) hx hb dX4_readContract_41 (by decide) ?_
      refine lv_icmp_lt (tgt := 52) hx hb dX4_readContract_43 (by decide) (fun c_43 => ?_) (fun c_43 => ?_)
      · refine lv_aload_n hx hb dX4_readContract_52 rfl (lv_at hl 1 rfl) ?_
        refine w_getr (ci := 5) (T := TX4) hx hb hts hin_TX4 hown hK hW (hX.1 10 (by decide)).1 (hX.1 10 (by decide)).2.1 (by decide) rfl 0 (by decide) (hts (.fieldLink RX4 12 "TownClocks$Reading" "tape" "LTownClocks$Tape;") (by decide +kernel)) (fun _ h9 => h9) rfl ((hX.1 10 (by decide)).2.2.2 0 8 rfl) dX4_readContract_53 ?_
        refine w_cv (w_runV ⟨hx, hb, hml, hown, hts⟩ (k_X5_readToken hxo l D q Vw J R nP nD L hX (tkX_0 ht)) hxo (cwV 0 hts gX4_readContract_X5_readToken rfl rfl rfl (by decide +kernel) ⟨Nat.le_of_ble_eq_true rfl, Nat.le_of_ble_eq_true rfl⟩) hK hW hS hA hXs (w_rcv hK hW (hX.1 8 (by decide)).1 (hX.1 8 (by decide)).2.1 (by decide) rfl) rfl hl.1 rfl (Nat.le_of_ble_eq_true rfl) dX4_readContract_56 ⟨Nat.zero_le _, Nat.zero_le _⟩) hW hS hA (fun H locs hW hS => ?_)
        refine lv_aload_n hx hb dX4_readContract_59 rfl (lv_at hl 1 rfl) ?_
        refine w_ci (w_runV ⟨hx, hb, hml, hown, hts⟩ (c_X4_namedTerms hxo l D q (x_tokV Vw) J R nP nD L hX (tkX_tok (tkX_0 ht)) hst) hxo (cwV 0 hts gX4_readContract_X4_namedTerms rfl rfl rfl (by decide +kernel) ⟨Nat.le_of_ble_eq_true rfl, Nat.le_of_ble_eq_true rfl⟩) hK hW hS hA hXs (w_rcv hK hW (hX.1 10 (by decide)).1 (hX.1 10 (by decide)).2.1 (by decide) rfl) rfl hl.1 rfl (Nat.le_of_ble_eq_true rfl) dX4_readContract_60 ⟨Nat.zero_le _, Nat.zero_le _⟩) hW hS hA (fun H locs hW hS => ?_)
        refine lv_istore_n (lv' := [(3, .int (x_nt (x_tokV Vw))), (2, .int (x_numV Vw)), (0, .ref (ad 10)), (1, .int (nI nD))]) hx hb dX4_readContract_63 rfl hl (by decide) rfl (fun ls hl => ?_)
        refine lv_iload_n hx hb dX4_readContract_64 rfl (lv_at hl 0 rfl) ?_
        refine lv_if_ne (tgt := 74) hx hb dX4_readContract_65 (by decide) (fun c_65 => ?_) (fun c_65 => ?_)
        · refine lv_iconst (v := 0) hx hb dX4_readContract_74 (by decide) ?_
          refine lv_istore (lv' := [(4, .int 0), (3, .int (x_nt (x_tokV Vw))), (2, .int (x_numV Vw)), (0, .ref (ad 10)), (1, .int (nI nD))]) hx hb dX4_readContract_75 hl (by decide) rfl (fun ls hl => ?_)
          refine lv_iload_n hx hb dX4_readContract_77 rfl (lv_at hl 1 rfl) ?_
          refine lv_iconst (v := 3) hx hb dX4_readContract_78 (by decide) ?_
          refine lv_icmp_ne (tgt := 109) hx hb dX4_readContract_79 (by decide) (fun c_79 => ?_) (fun c_79 => ?_)
          · exact J109 (x_tokV Vw) (tkX_tok (tkX_0 ht)) (x_numV Vw) (x_nt (x_tokV Vw)) 0 (x_numV_in ht hs c_43) (by rw [← hF, x_rB, if_neg c_37, if_pos c_43, x_rC, if_neg c_65, if_neg c_79]) _ _ _ hW hS (lv_sub hl [3, 2, 1, 0] rfl)
          · refine lv_aload_n hx hb dX4_readContract_82 rfl (lv_at hl 3 rfl) ?_
            refine lv_bipush (v := 60) hx hb dX4_readContract_83 (by decide) ?_
            refine w_ci (w_runV ⟨hx, hb, hml, hown, hts⟩ (c_X4_readSign hxo l D q (x_tokV Vw) J R nP nD L 60 hX (tkX_0 (tkX_tok (tkX_0 ht)))) hxo (cwV 1 hts gX4_readContract_X4_readSign rfl rfl rfl (by decide +kernel) ⟨Nat.le_of_ble_eq_true rfl, Nat.le_of_ble_eq_true rfl⟩) hK hW hS hA hXs (w_rcv hK hW (hX.1 10 (by decide)).1 (hX.1 10 (by decide)).2.1 (by decide) rfl) rfl hl.1 rfl (Nat.le_of_ble_eq_true rfl) dX4_readContract_85 ⟨Nat.zero_le _, Nat.zero_le _⟩) hW hS hA (fun H locs hW hS => ?_)
            refine w_ifz (tgt := 98) hx hb dX4_readContract_88 (by decide) (fun c_88 => ?_) (fun c_88 => ?_)
            · refine lv_iconst (v := 0) hx hb dX4_readContract_98 (by decide) ?_
              exact w_zret hx hb hr hlk hW hS (Or.inl rfl) (by rw [← hFe, ← hF, x_rB, if_neg c_37, if_pos c_43, x_rC, if_neg c_65, if_pos c_79, if_neg c_88]) (by rw [← hFe, ← hF, x_rB, if_neg c_37, if_pos c_43, x_rC, if_neg c_65, if_pos c_79, if_neg c_88]) rfl rfl dX4_readContract_99
            · refine lv_aload_n hx hb dX4_readContract_91 rfl (lv_at hl 3 rfl) ?_
              refine w_ci (w_runV ⟨hx, hb, hml, hown, hts⟩ (c_X4_readNumber hxo l D q (x_sgV (x_tokV Vw) 60) J R nP nD L hX (tkX_0 (tkX_sg (tkX_0 (tkX_tok (tkX_0 ht)))))) hxo (cwV 0 hts gX4_readContract_X4_readNumber rfl rfl rfl (by decide +kernel) ⟨Nat.le_of_ble_eq_true rfl, Nat.le_of_ble_eq_true rfl⟩) hK hW hS hA hXs (w_rcv hK hW (hX.1 10 (by decide)).1 (hX.1 10 (by decide)).2.1 (by decide) rfl) rfl hl.1 rfl (Nat.le_of_ble_eq_true rfl) dX4_readContract_92 ⟨Nat.zero_le _, Nat.zero_le _⟩) hW hS hA (fun H locs hW hS => ?_)
              refine w_ifnz (tgt := 100) hx hb dX4_readContract_95 (by decide) (fun c_95 => ?_) (fun c_95 => ?_)
              · refine lv_aload_n hx hb dX4_readContract_100 rfl (lv_at hl 3 rfl) ?_
                refine w_getr (ci := 5) (T := TX4) hx hb hts hin_TX4 hown hK hW (hX.1 10 (by decide)).1 (hX.1 10 (by decide)).2.1 (by decide) rfl 0 (by decide) (hts (.fieldLink RX4 12 "TownClocks$Reading" "tape" "LTownClocks$Tape;") (by decide +kernel)) (fun _ h9 => h9) rfl ((hX.1 10 (by decide)).2.2.2 0 8 rfl) dX4_readContract_101 ?_
                refine w_ci (w_runV ⟨hx, hb, hml, hown, hts⟩ (k_X5_numberValue hxo l D q (x_rnV (x_sgV (x_tokV Vw) 60)) J R nP nD L hX (tkX_rn (tkX_0 (tkX_sg (tkX_0 (tkX_tok (tkX_0 ht))))))) hxo (cwV 0 hts gX4_readContract_X5_numberValue rfl rfl rfl (by decide +kernel) ⟨Nat.le_of_ble_eq_true rfl, Nat.le_of_ble_eq_true rfl⟩) hK hW hS hA hXs (w_rcv hK hW (hX.1 8 (by decide)).1 (hX.1 8 (by decide)).2.1 (by decide) rfl) rfl hl.1 rfl (Nat.le_of_ble_eq_true rfl) dX4_readContract_104 ⟨Nat.zero_le _, Nat.zero_le _⟩) hW hS hA (fun H locs hW hS => ?_)
                refine lv_istore (lv' := [(4, .int (x_numV (x_rnV (x_sgV (x_tokV Vw) 60)))), (3, .int (x_nt (x_tokV Vw))), (2, .int (x_numV Vw)), (0, .ref (ad 10)), (1, .int (nI nD))]) hx hb dX4_readContract_107 hl (by decide) rfl (fun ls hl => ?_)
                exact J109 (x_rnV (x_sgV (x_tokV Vw) 60)) (tkX_rn (tkX_0 (tkX_sg (tkX_0 (tkX_tok (tkX_0 ht)))))) (x_numV Vw) (x_nt (x_tokV Vw)) (x_numV (x_rnV (x_sgV (x_tokV Vw) 60))) (x_numV_in ht hs c_43) (by rw [← hF, x_rB, if_neg c_37, if_pos c_43, x_rC, if_neg c_65, if_pos c_79, if_pos c_88, if_pos c_95]) _ _ _ hW hS (lv_sub hl [3, 2, 1, 0] rfl)
              · refine lv_iconst (v := 0) hx hb dX4_readContract_98 (by decide) ?_
                exact w_zret hx hb hr hlk hW hS (Or.inl rfl) (by rw [← hFe, ← hF, x_rB, if_neg c_37, if_pos c_43, x_rC, if_neg c_65, if_pos c_79, if_pos c_88, if_neg c_95]) (by rw [← hFe, ← hF, x_rB, if_neg c_37, if_pos c_43, x_rC, if_neg c_65, if_pos c_79, if_pos c_88, if_neg c_95]) rfl rfl dX4_readContract_99
        · refine lv_aload_n hx hb dX4_readContract_68 rfl (lv_at hl 2 rfl) ?_
          refine lv_iconst (v := 1) hx hb dX4_readContract_69 (by decide) ?_
          refine w_ci (w_runV ⟨hx, hb, hml, hown, hts⟩ (c_X4_refuse hxo l D q (x_tokV Vw) J R nP nD 1 hX) hxo (cwV 1 hts gX4_readContract_X4_refuse rfl rfl rfl (by decide +kernel) ⟨Nat.le_of_ble_eq_true rfl, Nat.le_of_ble_eq_true rfl⟩) hK hW hS hA hXs (w_rcv hK hW (hX.1 10 (by decide)).1 (hX.1 10 (by decide)).2.1 (by decide) rfl) rfl hl.1 rfl (Nat.le_of_ble_eq_true rfl) dX4_readContract_70 ⟨Nat.zero_le _, Nat.zero_le _⟩) hW hS hA (fun H locs hW hS => ?_)
          exact w_zret hx hb hr hlk hW hS (Or.inl rfl) (by rw [← hFe, ← hF, x_rB, if_neg c_37, if_pos c_43, x_rC, if_pos c_65]) (by rw [← hFe, ← hF, x_rB, if_neg c_37, if_pos c_43, x_rC, if_pos c_65]) rfl rfl dX4_readContract_73
      · refine lv_aload_n hx hb dX4_readContract_46 rfl (lv_at hl 1 rfl) ?_
        refine lv_iconst (v := 2) hx hb dX4_readContract_47 (by decide) ?_
        refine w_ci (w_runV ⟨hx, hb, hml, hown, hts⟩ (c_X4_refuse hxo l D q Vw J R nP nD 2 hX) hxo (cwV 1 hts gX4_readContract_X4_refuse rfl rfl rfl (by decide +kernel) ⟨Nat.le_of_ble_eq_true rfl, Nat.le_of_ble_eq_true rfl⟩) hK hW hS hA hXs (w_rcv hK hW (hX.1 10 (by decide)).1 (hX.1 10 (by decide)).2.1 (by decide) rfl) rfl hl.1 rfl (Nat.le_of_ble_eq_true rfl) dX4_readContract_48 ⟨Nat.zero_le _, Nat.zero_le _⟩) hW hS hA (fun H locs hW hS => ?_)
        exact w_zret hx hb hr hlk hW hS (Or.inl rfl) (by rw [← hFe, ← hF, x_rB, if_neg c_37, if_neg c_43]) (by rw [← hFe, ← hF, x_rB, if_neg c_37, if_neg c_43]) rfl rfl dX4_readContract_51
  refine lv_aload_n hx hb dX4_readContract_0 rfl (lv_at hl 0 rfl) ?_
  refine w_getr (ci := 5) (T := TX4) hx hb hts hin_TX4 hown hK hW (hX.1 10 (by decide)).1 (hX.1 10 (by decide)).2.1 (by decide) rfl 0 (by decide) (hts (.fieldLink RX4 12 "TownClocks$Reading" "tape" "LTownClocks$Tape;") (by decide +kernel)) (fun _ h9 => h9) rfl ((hX.1 10 (by decide)).2.2.2 0 8 rfl) dX4_readContract_1 ?_
  refine va_ldcS hx hb hown hSt.2.2.2.2.1.1 dX4_readContract_4 ?_
  refine w_ci (w_runV ⟨hx, hb, hml, hown, hts⟩ (k_X5_isName hxo l D q V J R nP nD L 0 hX ht hst (by decide)) hxo (cwV 1 hts gX4_readContract_X5_isName rfl rfl rfl (by decide +kernel) ⟨Nat.le_of_ble_eq_true rfl, Nat.le_of_ble_eq_true rfl⟩) hK hW hS hA hXs (w_rcv hK hW (hX.1 8 (by decide)).1 (hX.1 8 (by decide)).2.1 (by decide) rfl) rfl hl.1 rfl (Nat.le_of_ble_eq_true rfl) dX4_readContract_6 ⟨Nat.zero_le _, Nat.zero_le _⟩) hW hS hA (fun H locs hW hS => ?_)
  refine lv_if_ne (tgt := 18) hx hb dX4_readContract_9 (by decide) (fun c_9 => ?_) (fun c_9 => ?_)
  · refine lv_aload_n hx hb dX4_readContract_18 rfl (lv_at hl 0 rfl) ?_
    refine w_ci (w_runV ⟨hx, hb, hml, hown, hts⟩ (c_X4_readNumber hxo l D q V J R nP nD L hX (tkX_0 ht)) hxo (cwV 0 hts gX4_readContract_X4_readNumber rfl rfl rfl (by decide +kernel) ⟨Nat.le_of_ble_eq_true rfl, Nat.le_of_ble_eq_true rfl⟩) hK hW hS hA hXs (w_rcv hK hW (hX.1 10 (by decide)).1 (hX.1 10 (by decide)).2.1 (by decide) rfl) rfl hl.1 rfl (Nat.le_of_ble_eq_true rfl) dX4_readContract_19 ⟨Nat.zero_le _, Nat.zero_le _⟩) hW hS hA (fun H locs hW hS => ?_)
    refine w_ifnz (tgt := 27) hx hb dX4_readContract_22 (by decide) (fun c_22 => ?_) (fun c_22 => ?_)
    · exact J27 (x_rnV V) (tkX_rn (tkX_0 ht)) (x_rn_s c_22) (by rw [hFe, x_rA, if_neg c_9, if_pos c_22]) _ _ _ hW hS (lv_sub hl [0, 1] rfl)
    · refine lv_iconst (v := 0) hx hb dX4_readContract_25 (by decide) ?_
      exact w_zret hx hb hr hlk hW hS (Or.inl rfl) (by rw [x_rA, if_neg c_9, if_neg c_22]) (by rw [x_rA, if_neg c_9, if_neg c_22]) rfl rfl dX4_readContract_26
  · refine lv_aload_n hx hb dX4_readContract_12 rfl (lv_at hl 0 rfl) ?_
    refine lv_iconst (v := 1) hx hb dX4_readContract_13 (by decide) ?_
    refine w_ci (w_runV ⟨hx, hb, hml, hown, hts⟩ (c_X4_refuse hxo l D q V J R nP nD 1 hX) hxo (cwV 1 hts gX4_readContract_X4_refuse rfl rfl rfl (by decide +kernel) ⟨Nat.le_of_ble_eq_true rfl, Nat.le_of_ble_eq_true rfl⟩) hK hW hS hA hXs (w_rcv hK hW (hX.1 10 (by decide)).1 (hX.1 10 (by decide)).2.1 (by decide) rfl) rfl hl.1 rfl (Nat.le_of_ble_eq_true rfl) dX4_readContract_14 ⟨Nat.zero_le _, Nat.zero_le _⟩) hW hS hA (fun H locs hW hS => ?_)
    exact w_zret hx hb hr hlk hW hS (Or.inl rfl) (by rw [x_rA, if_pos c_9]) (by rw [x_rA, if_pos c_9]) rfl rfl dX4_readContract_17
