/-! contracts: tokens of both sides -/
theorem bq_all : ∀ n, n < 256 → (n < 128 → (nI n).toInt8.toInt32 = nI n) ∧ (128 ≤ n → (nI n).toInt8.toInt32 < 0) := by decide +kernel
theorem bq_lo {x : Int32} (h : inx 256 x) (h2 : x.toInt < 128) : x.toInt8.toInt32 = x := by
  have e := inx_e h
  have hc := inx_c h
  have h1 : x.toNatClampNeg = x.toInt.toNat := rfl
  have := (bq_all x.toNatClampNeg hc.1).1 (by omega)
  rw [← e] at this
  exact this
theorem bq_hi {x : Int32} (h : inx 256 x) (h2 : ¬ x.toInt < 128) : x.toInt8.toInt32 < 0 := by
  have e := inx_e h
  have hc := inx_c h
  have h1 : x.toNatClampNeg = x.toInt.toNat := rfl
  have := (bq_all x.toNatClampNeg hc.1).2 (by omega)
  rw [← e] at this
  exact this
theorem bq_P {x : Int32} (h : inx 256 x) {P : Int32 → Prop} (hP : ∀ y, P y → 0 ≤ y.toInt ∧ y.toInt < 128) : P x.toInt8.toInt32 ↔ P x := by
  by_cases h2 : x.toInt < 128
  · rw [bq_lo h h2]
  · have h3 := Int32.lt_iff_toInt_lt.mp (bq_hi h h2)
    have z : (0 : Int32).toInt = 0 := by decide
    exact ⟨fun e => absurd (hP _ e).1 (by omega), fun e => absurd (hP _ e).2 h2⟩
theorem pb_e {x c : Int32} (h : inx 256 x) (hc : 0 ≤ c.toInt ∧ c.toInt < 128) : x.toInt8.toInt32 = c ↔ x = c := bq_P h (P := fun y => y = c) (fun y e => by rw [e]; exact hc)
theorem pb_r {x c d : Int32} (h : inx 256 x) (hc : 0 ≤ c.toInt) (hd : d.toInt < 128) : (c ≤ x.toInt8.toInt32 ∧ x.toInt8.toInt32 ≤ d) ↔ (c ≤ x ∧ x ≤ d) := bq_P h (P := fun y => c ≤ y ∧ y ≤ d) (fun y e => by
  have h1 := Int32.le_iff_toInt_le.mp e.1
  have h2 := Int32.le_iff_toInt_le.mp e.2
  omega)
theorem pb_bl {x : Int32} (h : inx 256 x) : (x.toInt8.toInt32 = 32 ∨ x.toInt8.toInt32 = 10) ↔ (x = 32 ∨ x = 10) := by
  rw [pb_e h (by decide), pb_e h (by decide)]
def byT (L : Nat) (B T : Nat → Int32) : Prop := ∀ t, t < L → inx 256 (T t) ∧ B t = (T t).toInt8.toInt32
theorem tb_eq {L : Nat} {B T : Nat → Int32} (hb : byT L B T) : ∀ n t, t + n ≤ L → tb B n t = tb T n t
  | 0, _ => fun _ => rfl
  | n + 1, t => fun h => by
    obtain ⟨h1, h2⟩ := hb t (by omega)
    rw [tb, tb, h2]
    by_cases c : T t = 32 ∨ T t = 10
    · rw [if_pos ((pb_bl h1).mpr c), if_pos c, tb_eq hb n (t + 1) (by omega)]
    · rw [if_neg (fun e => c ((pb_bl h1).mp e)), if_neg c]
theorem tl_eq {L : Nat} {B T : Nat → Int32} (hb : byT L B T) : ∀ n t, t + n ≤ L → tl B n t = tl T n t
  | 0, _ => fun _ => rfl
  | n + 1, t => fun h => by
    obtain ⟨h1, h2⟩ := hb t (by omega)
    have p := pb_r (c := 97) (d := 122) h1 (by decide) (by decide)
    rw [tl, tl, h2]
    by_cases c : 97 ≤ T t ∧ T t ≤ 122
    · rw [if_pos (p.mpr c), if_pos c, tl_eq hb n (t + 1) (by omega)]
    · rw [if_neg (fun e => c (p.mp e)), if_neg c]
theorem tf_eq {L : Nat} {B T : Nat → Int32} (hb : byT L B T) : ∀ n t, t + n ≤ L → tf B n t = tf T n t
  | 0, _ => fun _ => rfl
  | n + 1, t => fun h => by
    obtain ⟨h1, h2⟩ := hb t (by omega)
    have p := pb_r (c := 48) (d := 57) h1 (by decide) (by decide)
    rw [tf, tf, h2]
    by_cases c : 48 ≤ T t ∧ T t ≤ 57
    · rw [if_pos (p.mpr c), if_pos c, tf_eq hb n (t + 1) (by omega)]
    · rw [if_neg (fun e => c (p.mp e)), if_neg c]
theorem tl_let (B : Nat → Int32) : ∀ n t i, t ≤ i → i < tl B n t → 97 ≤ B i ∧ B i ≤ 122
  | 0, t, i => fun h1 h2 => by rw [tl] at h2; omega
  | n + 1, t, i => fun h1 h2 => by
    rw [tl] at h2
    split at h2
    · by_cases h : i = t
      · subst h
        assumption
      · exact tl_let B n (t + 1) i (by omega) h2
    · omega
theorem tl_pos {B : Nat → Int32} {L a : Nat} (h : a < L) (c : 97 ≤ B a ∧ B a ≤ 122) : a < tl B (L - a) a := by
  obtain ⟨k, hk⟩ : ∃ k, L - a = k + 1 := ⟨L - a - 1, by omega⟩
  rw [hk, tl, if_pos c]
  have := (tl_le B k (a + 1)).1
  omega
theorem tf_pos {B : Nat → Int32} {L a : Nat} (h : a < L) (c : 48 ≤ B a ∧ B a ≤ 57) : a < tf B (L - a) a := by
  obtain ⟨k, hk⟩ : ∃ k, L - a = k + 1 := ⟨L - a - 1, by omega⟩
  rw [hk, tf, if_pos c]
  have := (tf_le B k (a + 1)).1
  omega
theorem tkE_eq {L a : Nat} {B T : Nat → Int32} (hb : byT L B T) (ha : a ≤ L) : x_tkE B L a = x_tkE T L a := by
  rw [x_tkE, x_tkE]
  by_cases hL : L ≤ a
  · rw [if_pos hL, if_pos hL]
  · obtain ⟨h1, h2⟩ := hb a (by omega)
    have p := pb_r (c := 97) (d := 122) h1 (by decide) (by decide)
    have p2 := pb_r (c := 48) (d := 57) h1 (by decide) (by decide)
    rw [if_neg hL, if_neg hL, h2, tl_eq hb (L - a) a (by omega), tf_eq hb (L - a) a (by omega)]
    by_cases c : 97 ≤ T a ∧ T a ≤ 122
    · rw [if_pos (p.mpr c), if_pos c]
    · rw [if_neg (fun e => c (p.mp e)), if_neg c]
      by_cases c2 : 48 ≤ T a ∧ T a ≤ 57
      · rw [if_pos (p2.mpr c2), if_pos c2]
      · rw [if_neg (fun e => c2 (p2.mp e)), if_neg c2]
/-- sorts of a token on both sides, and what is known of it -/
def tkk (s t : Int32) (a e L : Nat) (T : Nat → Int32) : Prop := (s = 0 ∧ t = 1 ∧ a = L) ∨ (s = 1 ∧ t = 2 ∧ a < e ∧ e ≤ a + 6 ∧ ∀ i, a ≤ i → i < e → 97 ≤ T i ∧ T i ≤ 122) ∨ (s = 2 ∧ t = 3 ∧ a < e ∧ e ≤ a + 4 ∧ ∀ i, a ≤ i → i < e → 48 ≤ T i ∧ T i ≤ 57) ∨ (s = 3 ∧ t = 4 ∧ a < e) ∨ (s = 4 ∧ t = 0 ∧ a < e)
theorem tkk_of {L a : Nat} {B T : Nat → Int32} (hb : byT L B T) (hL : L ≤ 300) (ha : a ≤ L) : tkk (x_tkS B L a) (m_tkS T L a) a (x_tkE T L a) L T := by
  rw [x_tkS, m_tkS, x_tkE]
  by_cases hLa : L ≤ a
  · rw [if_pos hLa, if_pos hLa, if_pos hLa]
    exact Or.inl ⟨rfl, rfl, by omega⟩
  · obtain ⟨h1, h2⟩ := hb a (by omega)
    have p := pb_r (c := 97) (d := 122) h1 (by decide) (by decide)
    have p2 := pb_r (c := 48) (d := 57) h1 (by decide) (by decide)
    have l1 := tl_le T (L - a) a
    have l2 := tf_le T (L - a) a
    rw [if_neg hLa, if_neg hLa, if_neg hLa, h2, tl_eq hb (L - a) a (by omega), tf_eq hb (L - a) a (by omega), pk_sub l1.1, pk_sub l2.1]
    by_cases c : 97 ≤ T a ∧ T a ≤ 122
    · have l3 := tl_pos (L := L) (by omega) c
      rw [if_pos (p.mpr c), if_pos c, if_pos c]
      by_cases h6 : 6 < tl T (L - a) a - a
      · rw [if_pos (show (6 : Int32) < nI (tl T (L - a) a - a) from (nI_ltI (a := 6) (by decide) (by omega)).mpr h6), if_neg (show ¬ nI (tl T (L - a) a - a) ≤ (6 : Int32) from fun e => absurd ((nI_leI (b := 6) (by omega) (by decide)).mp e) (by omega))]
        exact Or.inr (Or.inr (Or.inr (Or.inr ⟨rfl, rfl, l3⟩)))
      · rw [if_neg (show ¬ (6 : Int32) < nI (tl T (L - a) a - a) from fun e => h6 ((nI_ltI (a := 6) (by decide) (by omega)).mp e)), if_pos (show nI (tl T (L - a) a - a) ≤ (6 : Int32) from (nI_leI (b := 6) (by omega) (by decide)).mpr (by omega))]
        exact Or.inr (Or.inl ⟨rfl, rfl, l3, by omega, fun i q1 q2 => tl_let T _ _ i q1 q2⟩)
    · rw [if_neg (fun e => c (p.mp e)), if_neg c, if_neg c]
      by_cases c2 : 48 ≤ T a ∧ T a ≤ 57
      · have l3 := tf_pos (L := L) (by omega) c2
        rw [if_pos (p2.mpr c2), if_pos c2, if_pos c2]
        by_cases h6 : 4 < tf T (L - a) a - a
        · rw [if_pos (show (4 : Int32) < nI (tf T (L - a) a - a) from (nI_ltI (a := 4) (by decide) (by omega)).mpr h6), if_neg (show ¬ nI (tf T (L - a) a - a) ≤ (4 : Int32) from fun e => absurd ((nI_leI (b := 4) (by omega) (by decide)).mp e) (by omega))]
          exact Or.inr (Or.inr (Or.inr (Or.inr ⟨rfl, rfl, l3⟩)))
        · rw [if_neg (show ¬ (4 : Int32) < nI (tf T (L - a) a - a) from fun e => h6 ((nI_ltI (a := 4) (by decide) (by omega)).mp e)), if_pos (show nI (tf T (L - a) a - a) ≤ (4 : Int32) from (nI_leI (b := 4) (by omega) (by decide)).mpr (by omega))]
          exact Or.inr (Or.inr (Or.inl ⟨rfl, rfl, l3, by omega, fun i q1 q2 => tf_fig T _ _ i q1 q2⟩))
      · rw [if_neg (fun e => c2 (p2.mp e)), if_neg c2, if_neg c2]
        have e1 := pb_e (c := 59) h1 (by decide)
        have e2 := pb_e (c := 60) h1 (by decide)
        by_cases c3 : T a = 59
        · rw [if_pos (e1.mpr c3), if_pos c3]
          exact Or.inr (Or.inr (Or.inr (Or.inl ⟨rfl, rfl, by omega⟩)))
        · rw [if_neg (fun e => c3 (e1.mp e)), if_neg c3]
          by_cases c4 : T a = 60
          · rw [if_pos (e2.mpr c4), if_pos c4]
            exact Or.inr (Or.inr (Or.inr (Or.inl ⟨rfl, rfl, by omega⟩)))
          · rw [if_neg (fun e => c4 (e2.mp e)), if_neg c4]
            exact Or.inr (Or.inr (Or.inr (Or.inr ⟨rfl, rfl, by omega⟩)))
/-- bytes of both sides -/
def byR (L : Nat) (V W : Mv) : Prop := V 8 1 = nI L ∧ L ≤ 300 ∧ W 1000 34 = nI L ∧ byT L (V 9) (W 1031)
/-- both have read the same token, from a to e; no fault yet -/
def tr (L a e : Nat) (V W : Mv) : Prop := byR L V W ∧ W 1000 39 = 0 ∧ a ≤ e ∧ e ≤ L ∧ V 8 3 = nI a ∧ V 8 4 = nI e ∧ W 1000 37 = nI a ∧ W 1000 35 = nI e ∧ W 1000 38 = nI e ∧ tkk (V 8 2) (W 1000 36) a e L (W 1031)
theorem tr_tok {L p : Nat} {V W : Mv} (h : byR L V W) (h39 : W 1000 39 = 0) (hp : V 8 4 = nI p) (hpL : p ≤ L) : ∃ a e, p ≤ a ∧ tr L a e (x_tokV V) (m_stp W L p) := by
  obtain ⟨g1, g2, g3, g4⟩ := h
  have hb := tb_le (W 1031) (L - p) p
  have hk := x_tkE_le (W 1031) (L := L) (a := tb (W 1031) (L - p) p) (by omega)
  refine ⟨tb (W 1031) (L - p) p, x_tkE (W 1031) L (tb (W 1031) (L - p) p), hb.1, ⟨by rw [x_tokV_1]; exact g1, g2, by rw [m_stp_sc (by omega)]; exact g3, by rw [x_tokV_ne (by decide), m_stp_ne (by decide)]; exact g4⟩, by rw [m_stp_sc (by omega)]; exact h39, hk.1, hk.2, ?_, ?_, ?_, ?_, ?_, ?_⟩
  · rw [x_tokV, x_tok, u2_sn (by decide), u2_sn (by decide), u2_ss, g1, hp, nI_clamp (by omega), nI_clamp (by omega), tb_eq g4 _ _ (by omega)]
  · rw [x_tokV, x_tok, u2_sn (by decide), u2_ss, g1, hp, nI_clamp (by omega), nI_clamp (by omega), tb_eq g4 _ _ (by omega), tkE_eq g4 (by omega)]
  · rw [m_stp, m_tokV, u2_sn (by decide), u2_sn (by decide), u2_sn (by decide), u2_ss]
  · rw [m_stp, m_tokV, u2_sn (by decide), u2_sn (by decide), u2_ss]
  · rw [m_stp, m_tokV, u2_ss]
  · have r := tkk_of g4 g2 (a := tb (W 1031) (L - p) p) (by omega)
    rw [x_tokV, x_tok, u2_ss, g1, hp, nI_clamp (by omega), nI_clamp (by omega), tb_eq g4 _ _ (by omega), m_stp_ne (k := 1031) (by decide), m_stp, m_tokV, u2_sn (by decide), u2_ss]
    exact r
theorem tr_take {L a e : Nat} {V W : Mv} {so : Int32} (h : tr L a e V W) (hs : ¬ so = 0) : ∃ a' e', e ≤ a' ∧ tr L a' e' (x_tokV V) (m_takeV W so) := by
  obtain ⟨g0, g1, g2, g3, g4, g5, g6, g7, g8, g9⟩ := h
  rw [m_takeV, m_take, if_neg hs, if_pos g1, g0.2.2.1, g7, nI_clamp (by have := g0.2.1; omega), nI_clamp (by have := g0.2.1; omega)]
  exact tr_tok g0 g1 g5 g3
theorem take_bad {W : Mv} (h : W 1000 39 = 0) : m_takeV W 0 = m_bad W 1 := by
  rw [m_takeV, m_take, if_pos rfl, if_neg]
  rw [m_bad, if_pos h, u2_sn (by decide), u2_ss]
  decide
theorem bad_flt {W : Mv} {n : Int32} (h : ¬ W 1000 39 = 0) : m_bad W n = W := by rw [m_bad, if_neg h]
theorem take_flt {W : Mv} {so : Int32} (h : ¬ W 1000 39 = 0) : m_takeV W so = W := by
  rw [m_takeV, m_take, bad_flt h, if_neg h]
  split <;> rfl
theorem bad_39 {W : Mv} {n : Int32} (h : W 1000 39 = 0) : m_bad W n 1000 39 = n ∧ m_bad W n 1000 40 = W 1000 37 := by
  rw [m_bad, if_pos h]
  exact ⟨by rw [u2_sn (by decide), u2_ss], u2_ss⟩
