theorem u2_uu {α : Type} {f : Nat → Nat → α} {k j : Nat} {x y : α} : u2 (u2 f k j x) k j y = u2 f k j y := by
  funext a b
  by_cases ha : a = k
  · subst ha
    rw [u2_s, u2_s, u2_s]
    by_cases hb : b = j
    · subst hb
      rw [va_up_self, va_up_self]
    · rw [va_up_ne _ _ hb, va_up_ne _ _ hb, va_up_ne _ _ hb]
  · rw [u2_ne ha, u2_ne ha, u2_ne ha]
theorem u2_c {V : Mv} {x : Int32} : u2 V 8 3 x 9 = V 9 := rfl
def tb (B : Nat → Int32) : Nat → Nat → Nat
  | 0, t => t
  | n + 1, t => if B t = 32 ∨ B t = 10 then tb B n (t + 1) else t
def tl (B : Nat → Int32) : Nat → Nat → Nat
  | 0, t => t
  | n + 1, t => if 97 ≤ B t ∧ B t ≤ 122 then tl B n (t + 1) else t
def tf (B : Nat → Int32) : Nat → Nat → Nat
  | 0, t => t
  | n + 1, t => if 48 ≤ B t ∧ B t ≤ 57 then tf B n (t + 1) else t
def x_tkE (B : Nat → Int32) (L a : Nat) : Nat := if L ≤ a then a else if 97 ≤ B a ∧ B a ≤ 122 then tl B (L - a) a else if 48 ≤ B a ∧ B a ≤ 57 then tf B (L - a) a else a + 1
def x_tkS (B : Nat → Int32) (L a : Nat) : Int32 := if L ≤ a then 0 else if 97 ≤ B a ∧ B a ≤ 122 then (if 6 < nI (tl B (L - a) a) - nI a then 4 else 1) else if 48 ≤ B a ∧ B a ≤ 57 then (if 4 < nI (tf B (L - a) a) - nI a then 4 else 2) else if B a = 59 then 3 else if B a = 60 then 3 else 4
def x_tok (V : Mv) (L p1 : Nat) : Mv := u2 (u2 (u2 V 8 3 (nI (tb (V 9) (L - p1) p1))) 8 4 (nI (x_tkE (V 9) L (tb (V 9) (L - p1) p1)))) 8 2 (x_tkS (V 9) L (tb (V 9) (L - p1) p1))
def x_num (B : Nat → Int32) : Nat → Nat → Int32 → Int32
  | 0, _, v => v
  | n + 1, t, v => x_num B n (t + 1) (10 * v + B t - 48)
def x_app (w : Int64) : Nat → Nat → Mv → Mv
  | 0, _, V => V
  | n + 1, t, V => x_app w n (t + 1) (u2 (u2 V 9 t (vp_nar .byte ((w.toUInt64 >>> ((8 * nI n).toInt64.toUInt64 &&& Int64.toUInt64 63)).toInt64).toInt32.toInt8.toInt32)) 8 1 (nI t + 1))
theorem ap_neg (x : Int32) : x + (-1) = x - 1 := by rw [Int32.sub_eq_add_neg]
def x_feed (V : Mv) (n : Int32) (w : Int64) (L : Nat) : Int32 := if 1 ≤ n ∧ n ≤ 8 then (if V 8 1 + n ≤ 300 then x_app w n.toNatClampNeg L V 8 1 else -1000003) else -1000001
def x_feedV (V : Mv) (n : Int32) (w : Int64) (L : Nat) : Mv := if 1 ≤ n ∧ n ≤ 8 then (if V 8 1 + n ≤ 300 then x_app w n.toNatClampNeg L V else V) else V
theorem ap_m1 (n : Nat) : nI n + 1 - 1 = nI n := by
  rw [nI_1, nI_pred]
set_option maxHeartbeats 4000000 in
set_option maxRecDepth 100000 in
theorem c_X5_isLetter {X : (Nat → Prop) → State → Prop} (hxo : xok X) (l : Launch) (D : va_G) (q : Cq) {dm : List Nat} {kd ln ad : Nat → Nat} (V : Mv) (J : Mj) (R : Mr) (b : Int32)  : CtI X l yX5_isLetter wsX5_isLetter ({ frames := 0, cells := 0, slots := 0, locals := 0 }) D q dm kd ln ad V J R [.int b] (bz (97 ≤ b ∧ b ≤ 122)) (V) (J) (R) := by
  refine CtI_of (cc := cX5_isLetter) (maxL := 1) (ret := (some .boolean)) (by decide +kernel) rfl (Nat.le_of_ble_eq_true rfl) ?_
  intro p e s m below meth c A hx hb hr hml hts hown hlk hmn hK hW hA hXs ls hl
  have hS : va_S A s.heap s.heap [] := va_S.rf
  have hl : lv_has ls 1 [(0, .int b)] := hl
  refine lv_iload_n hx hb dX5_isLetter_0 rfl (lv_at hl 0 rfl) ?_
  refine lv_bipush (v := 97) hx hb dX5_isLetter_1 (by decide) ?_
  refine lv_icmp_lt (tgt := 16) hx hb dX5_isLetter_3 (by decide) (fun c_3 => ?_) (fun c_3 => ?_)
  · refine lv_iconst (v := 0) hx hb dX5_isLetter_16 (by decide) ?_
    exact w_zret hx hb hr hlk hW hS (Or.inl rfl) (Eq.symm (bz_f (fun h => absurd c_3 (Int32.not_lt.mpr h.1)))) rfl rfl rfl dX5_isLetter_17
  · refine lv_iload_n hx hb dX5_isLetter_6 rfl (lv_at hl 0 rfl) ?_
    refine lv_bipush (v := 122) hx hb dX5_isLetter_7 (by decide) ?_
    refine lv_icmp_gt (tgt := 16) hx hb dX5_isLetter_9 (by decide) (fun c_9 => ?_) (fun c_9 => ?_)
    · refine lv_iconst (v := 0) hx hb dX5_isLetter_16 (by decide) ?_
      exact w_zret hx hb hr hlk hW hS (Or.inl rfl) (Eq.symm (bz_f (fun h => absurd c_9 (Int32.not_lt.mpr h.2)))) rfl rfl rfl dX5_isLetter_17
    · refine lv_iconst (v := 1) hx hb dX5_isLetter_12 (by decide) ?_
      refine lv_goto (tgt := 17) hx hb dX5_isLetter_13 (by decide) ?_
      exact w_zret hx hb hr hlk hW hS (Or.inr rfl) (Eq.symm (bz_t ⟨Int32.not_lt.mp c_3, Int32.not_lt.mp c_9⟩)) rfl rfl rfl dX5_isLetter_17
set_option maxHeartbeats 4000000 in
set_option maxRecDepth 100000 in
theorem c_X5_isFigure {X : (Nat → Prop) → State → Prop} (hxo : xok X) (l : Launch) (D : va_G) (q : Cq) {dm : List Nat} {kd ln ad : Nat → Nat} (V : Mv) (J : Mj) (R : Mr) (b : Int32)  : CtI X l yX5_isFigure wsX5_isFigure ({ frames := 0, cells := 0, slots := 0, locals := 0 }) D q dm kd ln ad V J R [.int b] (bz (48 ≤ b ∧ b ≤ 57)) (V) (J) (R) := by
  refine CtI_of (cc := cX5_isFigure) (maxL := 1) (ret := (some .boolean)) (by decide +kernel) rfl (Nat.le_of_ble_eq_true rfl) ?_
  intro p e s m below meth c A hx hb hr hml hts hown hlk hmn hK hW hA hXs ls hl
  have hS : va_S A s.heap s.heap [] := va_S.rf
  have hl : lv_has ls 1 [(0, .int b)] := hl
  refine lv_iload_n hx hb dX5_isFigure_0 rfl (lv_at hl 0 rfl) ?_
  refine lv_bipush (v := 48) hx hb dX5_isFigure_1 (by decide) ?_
  refine lv_icmp_lt (tgt := 16) hx hb dX5_isFigure_3 (by decide) (fun c_3 => ?_) (fun c_3 => ?_)
  · refine lv_iconst (v := 0) hx hb dX5_isFigure_16 (by decide) ?_
    exact w_zret hx hb hr hlk hW hS (Or.inl rfl) (Eq.symm (bz_f (fun h => absurd c_3 (Int32.not_lt.mpr h.1)))) rfl rfl rfl dX5_isFigure_17
  · refine lv_iload_n hx hb dX5_isFigure_6 rfl (lv_at hl 0 rfl) ?_
    refine lv_bipush (v := 57) hx hb dX5_isFigure_7 (by decide) ?_
    refine lv_icmp_gt (tgt := 16) hx hb dX5_isFigure_9 (by decide) (fun c_9 => ?_) (fun c_9 => ?_)
    · refine lv_iconst (v := 0) hx hb dX5_isFigure_16 (by decide) ?_
      exact w_zret hx hb hr hlk hW hS (Or.inl rfl) (Eq.symm (bz_f (fun h => absurd c_9 (Int32.not_lt.mpr h.2)))) rfl rfl rfl dX5_isFigure_17
    · refine lv_iconst (v := 1) hx hb dX5_isFigure_12 (by decide) ?_
      refine lv_goto (tgt := 17) hx hb dX5_isFigure_13 (by decide) ?_
      exact w_zret hx hb hr hlk hW hS (Or.inr rfl) (Eq.symm (bz_t ⟨Int32.not_lt.mp c_3, Int32.not_lt.mp c_9⟩)) rfl rfl rfl dX5_isFigure_17
set_option maxHeartbeats 4000000 in
set_option maxRecDepth 100000 in
theorem c_X5_isBlank {X : (Nat → Prop) → State → Prop} (hxo : xok X) (l : Launch) (D : va_G) (q : Cq) {dm : List Nat} {kd ln ad : Nat → Nat} (V : Mv) (J : Mj) (R : Mr) (b : Int32)  : CtI X l yX5_isBlank wsX5_isBlank ({ frames := 0, cells := 0, slots := 0, locals := 0 }) D q dm kd ln ad V J R [.int b] (bz (b = 32 ∨ b = 10)) (V) (J) (R) := by
  refine CtI_of (cc := cX5_isBlank) (maxL := 1) (ret := (some .boolean)) (by decide +kernel) rfl (Nat.le_of_ble_eq_true rfl) ?_
  intro p e s m below meth c A hx hb hr hml hts hown hlk hmn hK hW hA hXs ls hl
  have hS : va_S A s.heap s.heap [] := va_S.rf
  have hl : lv_has ls 1 [(0, .int b)] := hl
  refine lv_iload_n hx hb dX5_isBlank_0 rfl (lv_at hl 0 rfl) ?_
  refine lv_bipush (v := 32) hx hb dX5_isBlank_1 (by decide) ?_
  refine lv_icmp_eq (tgt := 12) hx hb dX5_isBlank_3 (by decide) (fun c_3 => ?_) (fun c_3 => ?_)
  · refine lv_iconst (v := 1) hx hb dX5_isBlank_12 (by decide) ?_
    refine lv_goto (tgt := 17) hx hb dX5_isBlank_13 (by decide) ?_
    exact w_zret hx hb hr hlk hW hS (Or.inr rfl) (Eq.symm (bz_t (Or.inl c_3))) rfl rfl rfl dX5_isBlank_17
  · refine lv_iload_n hx hb dX5_isBlank_6 rfl (lv_at hl 0 rfl) ?_
    refine lv_bipush (v := 10) hx hb dX5_isBlank_7 (by decide) ?_
    refine lv_icmp_ne (tgt := 16) hx hb dX5_isBlank_9 (by decide) (fun c_9 => ?_) (fun c_9 => ?_)
    · refine lv_iconst (v := 0) hx hb dX5_isBlank_16 (by decide) ?_
      exact w_zret hx hb hr hlk hW hS (Or.inl rfl) (Eq.symm (bz_f (fun h => h.elim c_3 c_9))) rfl rfl rfl dX5_isBlank_17
    · refine lv_iconst (v := 1) hx hb dX5_isBlank_12 (by decide) ?_
      refine lv_goto (tgt := 17) hx hb dX5_isBlank_13 (by decide) ?_
      exact w_zret hx hb hr hlk hW hS (Or.inr rfl) (Eq.symm (bz_t (Or.inr c_9))) rfl rfl rfl dX5_isBlank_17
set_option maxHeartbeats 4000000 in
set_option maxRecDepth 100000 in
theorem c_X5_endOfLetters {X : (Nat → Prop) → State → Prop} (hxo : xok X) (l : Launch) (D : va_G) (q : Cq) {dm : List Nat} {kd ln ad : Nat → Nat} (V : Mv) (J : Mj) (R : Mr) (nP nD L a : Nat) (hX : okX dm kd ln R nP nD) (hL : V 8 1 = nI L) (hL3 : L ≤ 300) (ha : V 8 3 = nI a) (haL : a ≤ L) : CtI X l yX5_endOfLetters wsX5_endOfLetters ({ frames := 1, cells := 0, slots := 0, locals := 20 }) D q dm kd ln ad V J R [.ref (ad 8)] (nI (tl (V 9) (L - a) a)) (V) (J) (R) := by
  refine CtI_of (cc := cX5_endOfLetters) (maxL := 2) (ret := (some .int)) (by decide +kernel) rfl (Nat.le_of_ble_eq_true rfl) ?_
  intro p e s m below meth c A hx hb hr hml hts hown hlk hmn hK hW hA hXs ls hl
  have hS : va_S A s.heap s.heap [] := va_S.rf
  have hl : lv_has ls 2 [(0, .ref (ad 8))] := hl
  have hin_TX5 : ∀ w ∈ u_ws RX5 TX5 5, w ∈ wsX5_endOfLetters := by decide +kernel
  obtain ⟨F, hFe⟩ : ∃ r, r = tl (V 9) (L - a) a := ⟨_, rfl⟩
  have JL : ∀ n : Nat, ∀ (t : Nat) (hn : t + n = L) (hF : tl (V 9) n t = F) (H : Heap) (locs : List Loc) (ls : Array Slot), wok A D q dm kd ln ad V J R H → va_S A s.heap H locs → lv_has ls 2 [(0, .ref (ad 8)), (1, .int (nI t))] → W p l e ({ frames := 1, cells := 0, slots := 0, locals := 20 }) s m ([.ref (ad 8)] : List Value).toArray below meth c H locs 0 0 (MQ below (QI (nI (tl (V 9) (L - a) a)) D q dm kd ln ad (V) (J) (R) A) ([.ref (ad 8)] : List Value).toArray s 0 0 A) (F0 m 5 ls []) := by
    intro n
    induction n with
    | zero =>
      intro t hn hF H locs ls hW hS hl
      refine lv_iload_n hx hb dX5_endOfLetters_5 rfl (lv_at hl 1 rfl) ?_
      refine lv_aload_n hx hb dX5_endOfLetters_6 rfl (lv_at hl 0 rfl) ?_
      refine w_get (ci := 6) (T := TX5) hx hb hts hin_TX5 hown hK hW (hX.1 8 (by decide)).1 (hX.1 8 (by decide)).2.1 (by decide) rfl 1 (by decide) (hts (.fieldLink RX5 15 "TownClocks$Tape" "length" "I") (by decide +kernel)) (fun _ h9 => h9) rfl dX5_endOfLetters_7 ?_
      refine lv_icmp_ge (tgt := 31) hx hb dX5_endOfLetters_10 (by decide) (fun c_10 => ?_) (fun c_10 => ?_)
      · refine lv_iload_n hx hb dX5_endOfLetters_31 rfl (lv_at hl 1 rfl) ?_
        exact w_iret hx hb hr hlk hW hS (by rw [← hFe, ← hF]; simp only [tl, ]) rfl rfl rfl dX5_endOfLetters_32
      · exact absurd (by rw [hL]; exact nI_le (by omega) (by omega)) c_10
    | succ n ih =>
      intro t hn hF H locs ls hW hS hl
      refine lv_iload_n hx hb dX5_endOfLetters_5 rfl (lv_at hl 1 rfl) ?_
      refine lv_aload_n hx hb dX5_endOfLetters_6 rfl (lv_at hl 0 rfl) ?_
      refine w_get (ci := 6) (T := TX5) hx hb hts hin_TX5 hown hK hW (hX.1 8 (by decide)).1 (hX.1 8 (by decide)).2.1 (by decide) rfl 1 (by decide) (hts (.fieldLink RX5 15 "TownClocks$Tape" "length" "I") (by decide +kernel)) (fun _ h9 => h9) rfl dX5_endOfLetters_7 ?_
      refine lv_icmp_ge (tgt := 31) hx hb dX5_endOfLetters_10 (by decide) (fun c_10 => ?_) (fun c_10 => ?_)
      · exact absurd c_10 (by rw [hL]; exact nI_ge (by omega) (by omega))
      · refine lv_aload_n hx hb dX5_endOfLetters_13 rfl (lv_at hl 0 rfl) ?_
        refine w_getr (ci := 6) (T := TX5) hx hb hts hin_TX5 hown hK hW (hX.1 8 (by decide)).1 (hX.1 8 (by decide)).2.1 (by decide) rfl 0 (by decide) (hts (.fieldLink RX5 9 "TownClocks$Tape" "bytes" "[B") (by decide +kernel)) (fun _ h9 => h9) rfl ((hX.1 8 (by decide)).2.2.2 0 9 rfl) dX5_endOfLetters_14 ?_
        refine lv_iload_n hx hb dX5_endOfLetters_17 rfl (lv_at hl 1 rfl) ?_
        refine w_baldN (t := t) hx hb hK hW (hX.1 9 (by decide)).1 (hX.1 9 (by decide)).2.1 ⟨by rw [(show ln 9 = 300 from (hX.1 9 (by decide)).2.2.1)]; omega, by omega⟩ dX5_endOfLetters_18 ?_
        refine w_ci (w_runS ⟨hx, hb, hml, hown, hts⟩ (c_X5_isLetter hxo l D q V J R (V 9 t) ) hxo (va_cwS 1 hts gX5_endOfLetters_X5_isLetter rfl rfl rfl (by decide +kernel) ⟨Nat.le_of_ble_eq_true rfl, Nat.le_of_ble_eq_true rfl⟩) hK hW hS hA hXs rfl hl.1 rfl (Nat.le_of_ble_eq_true rfl) dX5_endOfLetters_19 ⟨Nat.zero_le _, Nat.zero_le _⟩) hW hS hA (fun H locs hW hS => ?_)
        refine w_ifz (tgt := 31) hx hb dX5_endOfLetters_22 (by decide) (fun c_22 => ?_) (fun c_22 => ?_)
        · refine lv_iload_n hx hb dX5_endOfLetters_31 rfl (lv_at hl 1 rfl) ?_
          exact w_iret hx hb hr hlk hW hS (by rw [← hFe, ← hF]; simp only [tl, if_neg c_22]) rfl rfl rfl dX5_endOfLetters_32
        · refine lv_iinc (v := nI (t + 1)) (lv' := [(1, .int (nI (t + 1))), (0, .ref (ad 8))]) hx hb dX5_endOfLetters_25 hl (k := 1) rfl (by rw [show Int32.ofInt 1 = 1 from by decide]; exact nI_1 _) (by decide) rfl (fun ls hl => ?_)
          refine lv_goto (tgt := 5) hx hb dX5_endOfLetters_28 (by decide) ?_
          exact ih (t + 1) (by omega) (by have h := hF; simp only [tl, if_neg c_10, if_pos c_22] at h; exact h) _ _ _ hW hS (lv_sub hl [1, 0] rfl)
  refine lv_aload_n hx hb dX5_endOfLetters_0 rfl (lv_at hl 0 rfl) ?_
  refine w_get (ci := 6) (T := TX5) hx hb hts hin_TX5 hown hK hW (hX.1 8 (by decide)).1 (hX.1 8 (by decide)).2.1 (by decide) rfl 3 (by decide) (hts (.fieldLink RX5 22 "TownClocks$Tape" "first" "I") (by decide +kernel)) (fun _ h9 => h9) rfl dX5_endOfLetters_1 ?_
  refine w_i ha ?_
  refine lv_istore_n (lv' := [(1, .int (nI a)), (0, .ref (ad 8))]) hx hb dX5_endOfLetters_4 rfl hl (by decide) rfl (fun ls hl => ?_)
  exact JL (L - a) a (by omega) hFe.symm _ _ _ hW hS (lv_sub hl [1, 0] rfl)
set_option maxHeartbeats 4000000 in
set_option maxRecDepth 100000 in
theorem c_X5_endOfFigures {X : (Nat → Prop) → State → Prop} (hxo : xok X) (l : Launch) (D : va_G) (q : Cq) {dm : List Nat} {kd ln ad : Nat → Nat} (V : Mv) (J : Mj) (R : Mr) (nP nD L a : Nat) (hX : okX dm kd ln R nP nD) (hL : V 8 1 = nI L) (hL3 : L ≤ 300) (ha : V 8 3 = nI a) (haL : a ≤ L) : CtI X l yX5_endOfFigures wsX5_endOfFigures ({ frames := 1, cells := 0, slots := 0, locals := 20 }) D q dm kd ln ad V J R [.ref (ad 8)] (nI (tf (V 9) (L - a) a)) (V) (J) (R) := by
  refine CtI_of (cc := cX5_endOfFigures) (maxL := 2) (ret := (some .int)) (by decide +kernel) rfl (Nat.le_of_ble_eq_true rfl) ?_
  intro p e s m below meth c A hx hb hr hml hts hown hlk hmn hK hW hA hXs ls hl
  have hS : va_S A s.heap s.heap [] := va_S.rf
  have hl : lv_has ls 2 [(0, .ref (ad 8))] := hl
  have hin_TX5 : ∀ w ∈ u_ws RX5 TX5 5, w ∈ wsX5_endOfFigures := by decide +kernel
  obtain ⟨F, hFe⟩ : ∃ r, r = tf (V 9) (L - a) a := ⟨_, rfl⟩
  have JL : ∀ n : Nat, ∀ (t : Nat) (hn : t + n = L) (hF : tf (V 9) n t = F) (H : Heap) (locs : List Loc) (ls : Array Slot), wok A D q dm kd ln ad V J R H → va_S A s.heap H locs → lv_has ls 2 [(0, .ref (ad 8)), (1, .int (nI t))] → W p l e ({ frames := 1, cells := 0, slots := 0, locals := 20 }) s m ([.ref (ad 8)] : List Value).toArray below meth c H locs 0 0 (MQ below (QI (nI (tf (V 9) (L - a) a)) D q dm kd ln ad (V) (J) (R) A) ([.ref (ad 8)] : List Value).toArray s 0 0 A) (F0 m 5 ls []) := by
    intro n
    induction n with
    | zero =>
      intro t hn hF H locs ls hW hS hl
      refine lv_iload_n hx hb dX5_endOfFigures_5 rfl (lv_at hl 1 rfl) ?_
      refine lv_aload_n hx hb dX5_endOfFigures_6 rfl (lv_at hl 0 rfl) ?_
      refine w_get (ci := 6) (T := TX5) hx hb hts hin_TX5 hown hK hW (hX.1 8 (by decide)).1 (hX.1 8 (by decide)).2.1 (by decide) rfl 1 (by decide) (hts (.fieldLink RX5 15 "TownClocks$Tape" "length" "I") (by decide +kernel)) (fun _ h9 => h9) rfl dX5_endOfFigures_7 ?_
      refine lv_icmp_ge (tgt := 31) hx hb dX5_endOfFigures_10 (by decide) (fun c_10 => ?_) (fun c_10 => ?_)
      · refine lv_iload_n hx hb dX5_endOfFigures_31 rfl (lv_at hl 1 rfl) ?_
        exact w_iret hx hb hr hlk hW hS (by rw [← hFe, ← hF]; simp only [tf, ]) rfl rfl rfl dX5_endOfFigures_32
      · exact absurd (by rw [hL]; exact nI_le (by omega) (by omega)) c_10
    | succ n ih =>
      intro t hn hF H locs ls hW hS hl
      refine lv_iload_n hx hb dX5_endOfFigures_5 rfl (lv_at hl 1 rfl) ?_
      refine lv_aload_n hx hb dX5_endOfFigures_6 rfl (lv_at hl 0 rfl) ?_
      refine w_get (ci := 6) (T := TX5) hx hb hts hin_TX5 hown hK hW (hX.1 8 (by decide)).1 (hX.1 8 (by decide)).2.1 (by decide) rfl 1 (by decide) (hts (.fieldLink RX5 15 "TownClocks$Tape" "length" "I") (by decide +kernel)) (fun _ h9 => h9) rfl dX5_endOfFigures_7 ?_
      refine lv_icmp_ge (tgt := 31) hx hb dX5_endOfFigures_10 (by decide) (fun c_10 => ?_) (fun c_10 => ?_)
      · exact absurd c_10 (by rw [hL]; exact nI_ge (by omega) (by omega))
      · refine lv_aload_n hx hb dX5_endOfFigures_13 rfl (lv_at hl 0 rfl) ?_
        refine w_getr (ci := 6) (T := TX5) hx hb hts hin_TX5 hown hK hW (hX.1 8 (by decide)).1 (hX.1 8 (by decide)).2.1 (by decide) rfl 0 (by decide) (hts (.fieldLink RX5 9 "TownClocks$Tape" "bytes" "[B") (by decide +kernel)) (fun _ h9 => h9) rfl ((hX.1 8 (by decide)).2.2.2 0 9 rfl) dX5_endOfFigures_14 ?_
        refine lv_iload_n hx hb dX5_endOfFigures_17 rfl (lv_at hl 1 rfl) ?_
        refine w_baldN (t := t) hx hb hK hW (hX.1 9 (by decide)).1 (hX.1 9 (by decide)).2.1 ⟨by rw [(show ln 9 = 300 from (hX.1 9 (by decide)).2.2.1)]; omega, by omega⟩ dX5_endOfFigures_18 ?_
        refine w_ci (w_runS ⟨hx, hb, hml, hown, hts⟩ (c_X5_isFigure hxo l D q V J R (V 9 t) ) hxo (va_cwS 1 hts gX5_endOfFigures_X5_isFigure rfl rfl rfl (by decide +kernel) ⟨Nat.le_of_ble_eq_true rfl, Nat.le_of_ble_eq_true rfl⟩) hK hW hS hA hXs rfl hl.1 rfl (Nat.le_of_ble_eq_true rfl) dX5_endOfFigures_19 ⟨Nat.zero_le _, Nat.zero_le _⟩) hW hS hA (fun H locs hW hS => ?_)
        refine w_ifz (tgt := 31) hx hb dX5_endOfFigures_22 (by decide) (fun c_22 => ?_) (fun c_22 => ?_)
        · refine lv_iload_n hx hb dX5_endOfFigures_31 rfl (lv_at hl 1 rfl) ?_
          exact w_iret hx hb hr hlk hW hS (by rw [← hFe, ← hF]; simp only [tf, if_neg c_22]) rfl rfl rfl dX5_endOfFigures_32
        · refine lv_iinc (v := nI (t + 1)) (lv' := [(1, .int (nI (t + 1))), (0, .ref (ad 8))]) hx hb dX5_endOfFigures_25 hl (k := 1) rfl (by rw [show Int32.ofInt 1 = 1 from by decide]; exact nI_1 _) (by decide) rfl (fun ls hl => ?_)
          refine lv_goto (tgt := 5) hx hb dX5_endOfFigures_28 (by decide) ?_
          exact ih (t + 1) (by omega) (by have h := hF; simp only [tf, if_neg c_10, if_pos c_22] at h; exact h) _ _ _ hW hS (lv_sub hl [1, 0] rfl)
  refine lv_aload_n hx hb dX5_endOfFigures_0 rfl (lv_at hl 0 rfl) ?_
  refine w_get (ci := 6) (T := TX5) hx hb hts hin_TX5 hown hK hW (hX.1 8 (by decide)).1 (hX.1 8 (by decide)).2.1 (by decide) rfl 3 (by decide) (hts (.fieldLink RX5 22 "TownClocks$Tape" "first" "I") (by decide +kernel)) (fun _ h9 => h9) rfl dX5_endOfFigures_1 ?_
  refine w_i ha ?_
  refine lv_istore_n (lv' := [(1, .int (nI a)), (0, .ref (ad 8))]) hx hb dX5_endOfFigures_4 rfl hl (by decide) rfl (fun ls hl => ?_)
  exact JL (L - a) a (by omega) hFe.symm _ _ _ hW hS (lv_sub hl [1, 0] rfl)
set_option maxHeartbeats 4000000 in
set_option maxRecDepth 100000 in
theorem c_X5_rewind {X : (Nat → Prop) → State → Prop} (hxo : xok X) (l : Launch) (D : va_G) (q : Cq) {dm : List Nat} {kd ln ad : Nat → Nat} (V : Mv) (J : Mj) (R : Mr) (k : Nat) (hk : k ∈ dm) (hd : kd k = 6) : CtV X l yX5_rewind wsX5_rewind ({ frames := 0, cells := 0, slots := 0, locals := 0 }) D q dm kd ln ad V J R [.ref (ad k)] (u2 V k 4 0) (J) (R) := by
  refine CtV_of (cc := cX5_rewind) (maxL := 1) (ret := none) (by decide +kernel) rfl (Nat.le_of_ble_eq_true rfl) ?_
  intro p e s m below meth c A hx hb hr hml hts hown hlk hmn hK hW hA hXs ls hl
  have hS : va_S A s.heap s.heap [] := va_S.rf
  have hl : lv_has ls 1 [(0, .ref (ad k))] := hl
  have hin_TX5 : ∀ w ∈ u_ws RX5 TX5 5, w ∈ wsX5_rewind := by decide +kernel
  refine lv_aload_n hx hb dX5_rewind_0 rfl (lv_at hl 0 rfl) ?_
  refine lv_iconst (v := 0) hx hb dX5_rewind_1 (by decide) ?_
  refine w_puti (ci := 6) (T := TX5) (ty := .int) hx hb hts hin_TX5 tyX5 tyX5_ok nmX5 hown hK hW hS hk hd (by decide) rfl 4 (by decide) (hts (.fieldLink RX5 19 "TownClocks$Tape" "behind" "I") (by decide +kernel)) (fun _ h9 => h9) rfl (tyX5_ok 4 (by decide)) rfl rfl (Nat.le_of_ble_eq_true rfl) rfl dX5_rewind_2 (fun H locs hW hS => ?_)
  exact w_vret hx hb hr hlk hW hS rfl rfl rfl dX5_rewind_5
set_option maxHeartbeats 4000000 in
set_option maxRecDepth 100000 in
theorem c_X5_readToken {X : (Nat → Prop) → State → Prop} (hxo : xok X) (l : Launch) (D : va_G) (q : Cq) {dm : List Nat} {kd ln ad : Nat → Nat} (V : Mv) (J : Mj) (R : Mr) (nP nD L p1 : Nat) (hX : okX dm kd ln R nP nD) (hL : V 8 1 = nI L) (hL3 : L ≤ 300) (hp4 : V 8 4 = nI p1) (hpL : p1 ≤ L) : CtV X l yX5_readToken wsX5_readToken ({ frames := 2, cells := 0, slots := 0, locals := 41 }) D q dm kd ln ad V J R [.ref (ad 8)] (x_tok V L p1) (J) (R) := by
  refine CtV_of (cc := cX5_readToken) (maxL := 1) (ret := none) (by decide +kernel) rfl (Nat.le_of_ble_eq_true rfl) ?_
  intro p e s m below meth c A hx hb hr hml hts hown hlk hmn hK hW hA hXs ls hl
  have hS : va_S A s.heap s.heap [] := va_S.rf
  have hl : lv_has ls 1 [(0, .ref (ad 8))] := hl
  have hin_TX5 : ∀ w ∈ u_ws RX5 TX5 5, w ∈ wsX5_readToken := by decide +kernel
  obtain ⟨F, hFe⟩ : ∃ r, r = tb (V 9) (L - p1) p1 := ⟨_, rfl⟩
  have J47 : ∀ (t : Nat) (htL : t ≤ L) (hF2 : t = F) (H : Heap) (locs : List Loc) (ls : Array Slot), wok A D q dm kd ln ad (u2 V 8 3 (nI t)) J R H → va_S A s.heap H locs → lv_has ls 1 [(0, .ref (ad 8))] → W p l e ({ frames := 2, cells := 0, slots := 0, locals := 41 }) s m ([.ref (ad 8)] : List Value).toArray below meth c H locs 0 0 (MQ below (QV D q dm kd ln ad (x_tok V L p1) (J) (R) A) ([.ref (ad 8)] : List Value).toArray s 0 0 A) (F0 m 47 ls []) := by
    intro t htL hF2 H locs ls hW hS hl
    have hb74 : nI t < V 8 1 → (t < ln 9 ∧ t < 2147483648) := fun h => by rw [hL] at h; have h2 := (nI_ltI (by omega) (by omega)).mp h; exact ⟨by rw [(show ln 9 = 300 from (hX.1 9 (by decide)).2.2.1)]; omega, by omega⟩
    have hlt : nI t < V 8 1 ↔ ¬ L ≤ t := by rw [hL, nI_ltI (by omega) (by omega)]; omega
    refine lv_aload_n hx hb dX5_readToken_47 rfl (lv_at hl 0 rfl) ?_
    refine w_get (ci := 6) (T := TX5) hx hb hts hin_TX5 hown hK hW (hX.1 8 (by decide)).1 (hX.1 8 (by decide)).2.1 (by decide) rfl 3 (by decide) (hts (.fieldLink RX5 22 "TownClocks$Tape" "first" "I") (by decide +kernel)) (fun _ h9 => h9) rfl dX5_readToken_48 ?_
    refine w_i (by rw [u2_ss]) ?_
    refine lv_aload_n hx hb dX5_readToken_51 rfl (lv_at hl 0 rfl) ?_
    refine w_get (ci := 6) (T := TX5) hx hb hts hin_TX5 hown hK hW (hX.1 8 (by decide)).1 (hX.1 8 (by decide)).2.1 (by decide) rfl 1 (by decide) (hts (.fieldLink RX5 15 "TownClocks$Tape" "length" "I") (by decide +kernel)) (fun _ h9 => h9) rfl dX5_readToken_52 ?_
    refine w_i (by rw [u2_sn (by decide)]) ?_
    refine lv_icmp_lt (tgt := 74) hx hb dX5_readToken_55 (by decide) (fun c_55 => ?_) (fun c_55 => ?_)
    · refine lv_aload_n hx hb dX5_readToken_74 rfl (lv_at hl 0 rfl) ?_
      refine w_getr (ci := 6) (T := TX5) hx hb hts hin_TX5 hown hK hW (hX.1 8 (by decide)).1 (hX.1 8 (by decide)).2.1 (by decide) rfl 0 (by decide) (hts (.fieldLink RX5 9 "TownClocks$Tape" "bytes" "[B") (by decide +kernel)) (fun _ h9 => h9) rfl ((hX.1 8 (by decide)).2.2.2 0 9 rfl) dX5_readToken_75 ?_
      refine lv_aload_n hx hb dX5_readToken_78 rfl (lv_at hl 0 rfl) ?_
      refine w_get (ci := 6) (T := TX5) hx hb hts hin_TX5 hown hK hW (hX.1 8 (by decide)).1 (hX.1 8 (by decide)).2.1 (by decide) rfl 3 (by decide) (hts (.fieldLink RX5 22 "TownClocks$Tape" "first" "I") (by decide +kernel)) (fun _ h9 => h9) rfl dX5_readToken_79 ?_
      refine w_i (by rw [u2_ss]) ?_
      refine w_baldN (t := t) hx hb hK hW (hX.1 9 (by decide)).1 (hX.1 9 (by decide)).2.1 (hb74 c_55) dX5_readToken_82 ?_
      refine w_i (by rw [u2_ne (by decide)]) ?_
      refine w_ci (w_runS ⟨hx, hb, hml, hown, hts⟩ (c_X5_isLetter hxo l D q (u2 V 8 3 (nI t)) J R (V 9 t) ) hxo (va_cwS 1 hts gX5_readToken_X5_isLetter rfl rfl rfl (by decide +kernel) ⟨Nat.le_of_ble_eq_true rfl, Nat.le_of_ble_eq_true rfl⟩) hK hW hS hA hXs rfl hl.1 rfl (Nat.le_of_ble_eq_true rfl) dX5_readToken_83 ⟨Nat.zero_le _, Nat.zero_le _⟩) hW hS hA (fun H locs hW hS => ?_)
      refine w_ifz (tgt := 123) hx hb dX5_readToken_86 (by decide) (fun c_86 => ?_) (fun c_86 => ?_)
      · refine lv_aload_n hx hb dX5_readToken_123 rfl (lv_at hl 0 rfl) ?_
        refine w_getr (ci := 6) (T := TX5) hx hb hts hin_TX5 hown hK hW (hX.1 8 (by decide)).1 (hX.1 8 (by decide)).2.1 (by decide) rfl 0 (by decide) (hts (.fieldLink RX5 9 "TownClocks$Tape" "bytes" "[B") (by decide +kernel)) (fun _ h9 => h9) rfl ((hX.1 8 (by decide)).2.2.2 0 9 rfl) dX5_readToken_124 ?_
        refine lv_aload_n hx hb dX5_readToken_127 rfl (lv_at hl 0 rfl) ?_
        refine w_get (ci := 6) (T := TX5) hx hb hts hin_TX5 hown hK hW (hX.1 8 (by decide)).1 (hX.1 8 (by decide)).2.1 (by decide) rfl 3 (by decide) (hts (.fieldLink RX5 22 "TownClocks$Tape" "first" "I") (by decide +kernel)) (fun _ h9 => h9) rfl dX5_readToken_128 ?_
        refine w_i (by rw [u2_ss]) ?_
        refine w_baldN (t := t) hx hb hK hW (hX.1 9 (by decide)).1 (hX.1 9 (by decide)).2.1 (hb74 c_55) dX5_readToken_131 ?_
        refine w_i (by rw [u2_ne (by decide)]) ?_
        refine w_ci (w_runS ⟨hx, hb, hml, hown, hts⟩ (c_X5_isFigure hxo l D q (u2 V 8 3 (nI t)) J R (V 9 t) ) hxo (va_cwS 1 hts gX5_readToken_X5_isFigure rfl rfl rfl (by decide +kernel) ⟨Nat.le_of_ble_eq_true rfl, Nat.le_of_ble_eq_true rfl⟩) hK hW hS hA hXs rfl hl.1 rfl (Nat.le_of_ble_eq_true rfl) dX5_readToken_132 ⟨Nat.zero_le _, Nat.zero_le _⟩) hW hS hA (fun H locs hW hS => ?_)
        refine w_ifz (tgt := 171) hx hb dX5_readToken_135 (by decide) (fun c_135 => ?_) (fun c_135 => ?_)
        · refine lv_aload_n hx hb dX5_readToken_171 rfl (lv_at hl 0 rfl) ?_
          refine lv_aload_n hx hb dX5_readToken_172 rfl (lv_at hl 0 rfl) ?_
          refine w_get (ci := 6) (T := TX5) hx hb hts hin_TX5 hown hK hW (hX.1 8 (by decide)).1 (hX.1 8 (by decide)).2.1 (by decide) rfl 3 (by decide) (hts (.fieldLink RX5 22 "TownClocks$Tape" "first" "I") (by decide +kernel)) (fun _ h9 => h9) rfl dX5_readToken_173 ?_
          refine w_i (by rw [u2_ss]) ?_
          refine lv_iconst (v := 1) hx hb dX5_readToken_176 (by decide) ?_
          refine lv_iadd hx hb dX5_readToken_177 ?_
          refine w_puti (ci := 6) (T := TX5) (ty := .int) hx hb hts hin_TX5 tyX5 tyX5_ok nmX5 hown hK hW hS (hX.1 8 (by decide)).1 (hX.1 8 (by decide)).2.1 (by decide) rfl 4 (by decide) (hts (.fieldLink RX5 19 "TownClocks$Tape" "behind" "I") (by decide +kernel)) (fun _ h9 => h9) rfl (tyX5_ok 4 (by decide)) rfl rfl (Nat.le_of_ble_eq_true rfl) rfl dX5_readToken_178 (fun H locs hW hS => ?_)
          refine lv_aload_n hx hb dX5_readToken_181 rfl (lv_at hl 0 rfl) ?_
          refine lv_aload_n hx hb dX5_readToken_182 rfl (lv_at hl 0 rfl) ?_
          refine w_getr (ci := 6) (T := TX5) hx hb hts hin_TX5 hown hK hW (hX.1 8 (by decide)).1 (hX.1 8 (by decide)).2.1 (by decide) rfl 0 (by decide) (hts (.fieldLink RX5 9 "TownClocks$Tape" "bytes" "[B") (by decide +kernel)) (fun _ h9 => h9) rfl ((hX.1 8 (by decide)).2.2.2 0 9 rfl) dX5_readToken_183 ?_
          refine lv_aload_n hx hb dX5_readToken_186 rfl (lv_at hl 0 rfl) ?_
          refine w_get (ci := 6) (T := TX5) hx hb hts hin_TX5 hown hK hW (hX.1 8 (by decide)).1 (hX.1 8 (by decide)).2.1 (by decide) rfl 3 (by decide) (hts (.fieldLink RX5 22 "TownClocks$Tape" "first" "I") (by decide +kernel)) (fun _ h9 => h9) rfl dX5_readToken_187 ?_
          refine w_i (by rw [u2_sn (by decide), u2_ss]) ?_
          refine w_baldN (t := t) hx hb hK hW (hX.1 9 (by decide)).1 (hX.1 9 (by decide)).2.1 (hb74 c_55) dX5_readToken_190 ?_
          refine w_i (by rw [u2_ne (by decide), u2_ne (by decide)]) ?_
          refine lv_bipush (v := 59) hx hb dX5_readToken_191 (by decide) ?_
          refine lv_icmp_eq (tgt := 210) hx hb dX5_readToken_193 (by decide) (fun c_193 => ?_) (fun c_193 => ?_)
          · refine lv_iconst (v := 3) hx hb dX5_readToken_210 (by decide) ?_
            refine lv_goto (tgt := 215) hx hb dX5_readToken_211 (by decide) ?_
            refine w_puti (ci := 6) (T := TX5) (ty := .int) hx hb hts hin_TX5 tyX5 tyX5_ok nmX5 hown hK hW hS (hX.1 8 (by decide)).1 (hX.1 8 (by decide)).2.1 (by decide) rfl 2 (by decide) (hts (.fieldLink RX5 29 "TownClocks$Tape" "sort" "I") (by decide +kernel)) (fun _ h9 => h9) rfl (tyX5_ok 2 (by decide)) rfl rfl (Nat.le_of_ble_eq_true rfl) rfl dX5_readToken_215 (fun H locs hW hS => ?_)
            exact w_vret hx hb hr hlk hW hS (by rw [x_tok, ← hFe, ← hF2]; simp only [x_tkE, x_tkS, if_neg (hlt.mp c_55), if_neg c_86, if_neg c_135, if_pos c_193, u2_c, nI_1]) rfl rfl dX5_readToken_218
          · refine lv_aload_n hx hb dX5_readToken_196 rfl (lv_at hl 0 rfl) ?_
            refine w_getr (ci := 6) (T := TX5) hx hb hts hin_TX5 hown hK hW (hX.1 8 (by decide)).1 (hX.1 8 (by decide)).2.1 (by decide) rfl 0 (by decide) (hts (.fieldLink RX5 9 "TownClocks$Tape" "bytes" "[B") (by decide +kernel)) (fun _ h9 => h9) rfl ((hX.1 8 (by decide)).2.2.2 0 9 rfl) dX5_readToken_197 ?_
            refine lv_aload_n hx hb dX5_readToken_200 rfl (lv_at hl 0 rfl) ?_
            refine w_get (ci := 6) (T := TX5) hx hb hts hin_TX5 hown hK hW (hX.1 8 (by decide)).1 (hX.1 8 (by decide)).2.1 (by decide) rfl 3 (by decide) (hts (.fieldLink RX5 22 "TownClocks$Tape" "first" "I") (by decide +kernel)) (fun _ h9 => h9) rfl dX5_readToken_201 ?_
            refine w_i (by rw [u2_sn (by decide), u2_ss]) ?_
            refine w_baldN (t := t) hx hb hK hW (hX.1 9 (by decide)).1 (hX.1 9 (by decide)).2.1 (hb74 c_55) dX5_readToken_204 ?_
            refine w_i (by rw [u2_ne (by decide), u2_ne (by decide)]) ?_
            refine lv_bipush (v := 60) hx hb dX5_readToken_205 (by decide) ?_
            refine lv_icmp_ne (tgt := 214) hx hb dX5_readToken_207 (by decide) (fun c_207 => ?_) (fun c_207 => ?_)
            · refine lv_iconst (v := 4) hx hb dX5_readToken_214 (by decide) ?_
              refine w_puti (ci := 6) (T := TX5) (ty := .int) hx hb hts hin_TX5 tyX5 tyX5_ok nmX5 hown hK hW hS (hX.1 8 (by decide)).1 (hX.1 8 (by decide)).2.1 (by decide) rfl 2 (by decide) (hts (.fieldLink RX5 29 "TownClocks$Tape" "sort" "I") (by decide +kernel)) (fun _ h9 => h9) rfl (tyX5_ok 2 (by decide)) rfl rfl (Nat.le_of_ble_eq_true rfl) rfl dX5_readToken_215 (fun H locs hW hS => ?_)
              exact w_vret hx hb hr hlk hW hS (by rw [x_tok, ← hFe, ← hF2]; simp only [x_tkE, x_tkS, if_neg (hlt.mp c_55), if_neg c_86, if_neg c_135, if_neg c_193, if_neg c_207, u2_c, nI_1]) rfl rfl dX5_readToken_218
            · refine lv_iconst (v := 3) hx hb dX5_readToken_210 (by decide) ?_
              refine lv_goto (tgt := 215) hx hb dX5_readToken_211 (by decide) ?_
              refine w_puti (ci := 6) (T := TX5) (ty := .int) hx hb hts hin_TX5 tyX5 tyX5_ok nmX5 hown hK hW hS (hX.1 8 (by decide)).1 (hX.1 8 (by decide)).2.1 (by decide) rfl 2 (by decide) (hts (.fieldLink RX5 29 "TownClocks$Tape" "sort" "I") (by decide +kernel)) (fun _ h9 => h9) rfl (tyX5_ok 2 (by decide)) rfl rfl (Nat.le_of_ble_eq_true rfl) rfl dX5_readToken_215 (fun H locs hW hS => ?_)
              exact w_vret hx hb hr hlk hW hS (by rw [x_tok, ← hFe, ← hF2]; simp only [x_tkE, x_tkS, if_neg (hlt.mp c_55), if_neg c_86, if_neg c_135, if_neg c_193, if_pos c_207, u2_c, nI_1]) rfl rfl dX5_readToken_218
        · refine lv_aload_n hx hb dX5_readToken_138 rfl (lv_at hl 0 rfl) ?_
          refine lv_aload_n hx hb dX5_readToken_139 rfl (lv_at hl 0 rfl) ?_
          refine w_ci (w_runV ⟨hx, hb, hml, hown, hts⟩ (c_X5_endOfFigures hxo l D q (u2 V 8 3 (nI t)) J R nP nD L t hX (by rw [u2_sn (by decide)]; exact hL) hL3 u2_ss (by omega)) hxo (cwV 0 hts gX5_readToken_X5_endOfFigures rfl rfl rfl (by decide +kernel) ⟨Nat.le_of_ble_eq_true rfl, Nat.le_of_ble_eq_true rfl⟩) hK hW hS hA hXs (w_rcv hK hW (hX.1 8 (by decide)).1 (hX.1 8 (by decide)).2.1 (by decide) rfl) rfl hl.1 rfl (Nat.le_of_ble_eq_true rfl) dX5_readToken_140 ⟨Nat.zero_le _, Nat.zero_le _⟩) hW hS hA (fun H locs hW hS => ?_)
          refine w_puti (ci := 6) (T := TX5) (ty := .int) hx hb hts hin_TX5 tyX5 tyX5_ok nmX5 hown hK hW hS (hX.1 8 (by decide)).1 (hX.1 8 (by decide)).2.1 (by decide) rfl 4 (by decide) (hts (.fieldLink RX5 19 "TownClocks$Tape" "behind" "I") (by decide +kernel)) (fun _ h9 => h9) rfl (tyX5_ok 4 (by decide)) rfl rfl (Nat.le_of_ble_eq_true rfl) rfl dX5_readToken_143 (fun H locs hW hS => ?_)
          refine lv_aload_n hx hb dX5_readToken_146 rfl (lv_at hl 0 rfl) ?_
          refine lv_aload_n hx hb dX5_readToken_147 rfl (lv_at hl 0 rfl) ?_
          refine w_get (ci := 6) (T := TX5) hx hb hts hin_TX5 hown hK hW (hX.1 8 (by decide)).1 (hX.1 8 (by decide)).2.1 (by decide) rfl 4 (by decide) (hts (.fieldLink RX5 19 "TownClocks$Tape" "behind" "I") (by decide +kernel)) (fun _ h9 => h9) rfl dX5_readToken_148 ?_
          refine w_i (by rw [u2_ss]) ?_
          refine lv_aload_n hx hb dX5_readToken_151 rfl (lv_at hl 0 rfl) ?_
          refine w_get (ci := 6) (T := TX5) hx hb hts hin_TX5 hown hK hW (hX.1 8 (by decide)).1 (hX.1 8 (by decide)).2.1 (by decide) rfl 3 (by decide) (hts (.fieldLink RX5 22 "TownClocks$Tape" "first" "I") (by decide +kernel)) (fun _ h9 => h9) rfl dX5_readToken_152 ?_
          refine w_i (by rw [u2_sn (by decide), u2_ss]) ?_
          refine lv_isub hx hb dX5_readToken_155 ?_
          refine lv_iconst (v := 4) hx hb dX5_readToken_156 (by decide) ?_
          refine lv_icmp_gt (tgt := 164) hx hb dX5_readToken_157 (by decide) (fun c_157 => ?_) (fun c_157 => ?_)
          · refine lv_iconst (v := 4) hx hb dX5_readToken_164 (by decide) ?_
            refine w_puti (ci := 6) (T := TX5) (ty := .int) hx hb hts hin_TX5 tyX5 tyX5_ok nmX5 hown hK hW hS (hX.1 8 (by decide)).1 (hX.1 8 (by decide)).2.1 (by decide) rfl 2 (by decide) (hts (.fieldLink RX5 29 "TownClocks$Tape" "sort" "I") (by decide +kernel)) (fun _ h9 => h9) rfl (tyX5_ok 2 (by decide)) rfl rfl (Nat.le_of_ble_eq_true rfl) rfl dX5_readToken_165 (fun H locs hW hS => ?_)
            refine lv_goto (tgt := 218) hx hb dX5_readToken_168 (by decide) ?_
            exact w_vret hx hb hr hlk hW hS (by simp only [u2_c] at c_157; rw [x_tok, ← hFe, ← hF2]; simp only [x_tkE, x_tkS, if_neg (hlt.mp c_55), if_neg c_86, if_pos c_135, if_pos c_157, u2_c, nI_1]) rfl rfl dX5_readToken_218
          · refine lv_iconst (v := 2) hx hb dX5_readToken_160 (by decide) ?_
            refine lv_goto (tgt := 165) hx hb dX5_readToken_161 (by decide) ?_
            refine w_puti (ci := 6) (T := TX5) (ty := .int) hx hb hts hin_TX5 tyX5 tyX5_ok nmX5 hown hK hW hS (hX.1 8 (by decide)).1 (hX.1 8 (by decide)).2.1 (by decide) rfl 2 (by decide) (hts (.fieldLink RX5 29 "TownClocks$Tape" "sort" "I") (by decide +kernel)) (fun _ h9 => h9) rfl (tyX5_ok 2 (by decide)) rfl rfl (Nat.le_of_ble_eq_true rfl) rfl dX5_readToken_165 (fun H locs hW hS => ?_)
            refine lv_goto (tgt := 218) hx hb dX5_readToken_168 (by decide) ?_
            exact w_vret hx hb hr hlk hW hS (by simp only [u2_c] at c_157; rw [x_tok, ← hFe, ← hF2]; simp only [x_tkE, x_tkS, if_neg (hlt.mp c_55), if_neg c_86, if_pos c_135, if_neg c_157, u2_c, nI_1]) rfl rfl dX5_readToken_218
      · refine lv_aload_n hx hb dX5_readToken_89 rfl (lv_at hl 0 rfl) ?_
        refine lv_aload_n hx hb dX5_readToken_90 rfl (lv_at hl 0 rfl) ?_
        refine w_ci (w_runV ⟨hx, hb, hml, hown, hts⟩ (c_X5_endOfLetters hxo l D q (u2 V 8 3 (nI t)) J R nP nD L t hX (by rw [u2_sn (by decide)]; exact hL) hL3 u2_ss (by omega)) hxo (cwV 0 hts gX5_readToken_X5_endOfLetters rfl rfl rfl (by decide +kernel) ⟨Nat.le_of_ble_eq_true rfl, Nat.le_of_ble_eq_true rfl⟩) hK hW hS hA hXs (w_rcv hK hW (hX.1 8 (by decide)).1 (hX.1 8 (by decide)).2.1 (by decide) rfl) rfl hl.1 rfl (Nat.le_of_ble_eq_true rfl) dX5_readToken_91 ⟨Nat.zero_le _, Nat.zero_le _⟩) hW hS hA (fun H locs hW hS => ?_)
        refine w_puti (ci := 6) (T := TX5) (ty := .int) hx hb hts hin_TX5 tyX5 tyX5_ok nmX5 hown hK hW hS (hX.1 8 (by decide)).1 (hX.1 8 (by decide)).2.1 (by decide) rfl 4 (by decide) (hts (.fieldLink RX5 19 "TownClocks$Tape" "behind" "I") (by decide +kernel)) (fun _ h9 => h9) rfl (tyX5_ok 4 (by decide)) rfl rfl (Nat.le_of_ble_eq_true rfl) rfl dX5_readToken_94 (fun H locs hW hS => ?_)
        refine lv_aload_n hx hb dX5_readToken_97 rfl (lv_at hl 0 rfl) ?_
        refine lv_aload_n hx hb dX5_readToken_98 rfl (lv_at hl 0 rfl) ?_
        refine w_get (ci := 6) (T := TX5) hx hb hts hin_TX5 hown hK hW (hX.1 8 (by decide)).1 (hX.1 8 (by decide)).2.1 (by decide) rfl 4 (by decide) (hts (.fieldLink RX5 19 "TownClocks$Tape" "behind" "I") (by decide +kernel)) (fun _ h9 => h9) rfl dX5_readToken_99 ?_
        refine w_i (by rw [u2_ss]) ?_
        refine lv_aload_n hx hb dX5_readToken_102 rfl (lv_at hl 0 rfl) ?_
        refine w_get (ci := 6) (T := TX5) hx hb hts hin_TX5 hown hK hW (hX.1 8 (by decide)).1 (hX.1 8 (by decide)).2.1 (by decide) rfl 3 (by decide) (hts (.fieldLink RX5 22 "TownClocks$Tape" "first" "I") (by decide +kernel)) (fun _ h9 => h9) rfl dX5_readToken_103 ?_
        refine w_i (by rw [u2_sn (by decide), u2_ss]) ?_
        refine lv_isub hx hb dX5_readToken_106 ?_
        refine lv_bipush (v := 6) hx hb dX5_readToken_107 (by decide) ?_
        refine lv_icmp_gt (tgt := 116) hx hb dX5_readToken_109 (by decide) (fun c_109 => ?_) (fun c_109 => ?_)
        · refine lv_iconst (v := 4) hx hb dX5_readToken_116 (by decide) ?_
          refine w_puti (ci := 6) (T := TX5) (ty := .int) hx hb hts hin_TX5 tyX5 tyX5_ok nmX5 hown hK hW hS (hX.1 8 (by decide)).1 (hX.1 8 (by decide)).2.1 (by decide) rfl 2 (by decide) (hts (.fieldLink RX5 29 "TownClocks$Tape" "sort" "I") (by decide +kernel)) (fun _ h9 => h9) rfl (tyX5_ok 2 (by decide)) rfl rfl (Nat.le_of_ble_eq_true rfl) rfl dX5_readToken_117 (fun H locs hW hS => ?_)
          refine lv_goto (tgt := 218) hx hb dX5_readToken_120 (by decide) ?_
          exact w_vret hx hb hr hlk hW hS (by simp only [u2_c] at c_109; rw [x_tok, ← hFe, ← hF2]; simp only [x_tkE, x_tkS, if_neg (hlt.mp c_55), if_pos c_86, if_pos c_109, u2_c, nI_1]) rfl rfl dX5_readToken_218
        · refine lv_iconst (v := 1) hx hb dX5_readToken_112 (by decide) ?_
          refine lv_goto (tgt := 117) hx hb dX5_readToken_113 (by decide) ?_
          refine w_puti (ci := 6) (T := TX5) (ty := .int) hx hb hts hin_TX5 tyX5 tyX5_ok nmX5 hown hK hW hS (hX.1 8 (by decide)).1 (hX.1 8 (by decide)).2.1 (by decide) rfl 2 (by decide) (hts (.fieldLink RX5 29 "TownClocks$Tape" "sort" "I") (by decide +kernel)) (fun _ h9 => h9) rfl (tyX5_ok 2 (by decide)) rfl rfl (Nat.le_of_ble_eq_true rfl) rfl dX5_readToken_117 (fun H locs hW hS => ?_)
          refine lv_goto (tgt := 218) hx hb dX5_readToken_120 (by decide) ?_
          exact w_vret hx hb hr hlk hW hS (by simp only [u2_c] at c_109; rw [x_tok, ← hFe, ← hF2]; simp only [x_tkE, x_tkS, if_neg (hlt.mp c_55), if_pos c_86, if_neg c_109, u2_c, nI_1]) rfl rfl dX5_readToken_218
    · refine lv_aload_n hx hb dX5_readToken_58 rfl (lv_at hl 0 rfl) ?_
      refine lv_aload_n hx hb dX5_readToken_59 rfl (lv_at hl 0 rfl) ?_
      refine w_get (ci := 6) (T := TX5) hx hb hts hin_TX5 hown hK hW (hX.1 8 (by decide)).1 (hX.1 8 (by decide)).2.1 (by decide) rfl 3 (by decide) (hts (.fieldLink RX5 22 "TownClocks$Tape" "first" "I") (by decide +kernel)) (fun _ h9 => h9) rfl dX5_readToken_60 ?_
      refine w_i (by rw [u2_ss]) ?_
      refine w_puti (ci := 6) (T := TX5) (ty := .int) hx hb hts hin_TX5 tyX5 tyX5_ok nmX5 hown hK hW hS (hX.1 8 (by decide)).1 (hX.1 8 (by decide)).2.1 (by decide) rfl 4 (by decide) (hts (.fieldLink RX5 19 "TownClocks$Tape" "behind" "I") (by decide +kernel)) (fun _ h9 => h9) rfl (tyX5_ok 4 (by decide)) rfl rfl (Nat.le_of_ble_eq_true rfl) rfl dX5_readToken_63 (fun H locs hW hS => ?_)
      refine lv_aload_n hx hb dX5_readToken_66 rfl (lv_at hl 0 rfl) ?_
      refine lv_iconst (v := 0) hx hb dX5_readToken_67 (by decide) ?_
      refine w_puti (ci := 6) (T := TX5) (ty := .int) hx hb hts hin_TX5 tyX5 tyX5_ok nmX5 hown hK hW hS (hX.1 8 (by decide)).1 (hX.1 8 (by decide)).2.1 (by decide) rfl 2 (by decide) (hts (.fieldLink RX5 29 "TownClocks$Tape" "sort" "I") (by decide +kernel)) (fun _ h9 => h9) rfl (tyX5_ok 2 (by decide)) rfl rfl (Nat.le_of_ble_eq_true rfl) rfl dX5_readToken_68 (fun H locs hW hS => ?_)
      refine lv_goto (tgt := 218) hx hb dX5_readToken_71 (by decide) ?_
      exact w_vret hx hb hr hlk hW hS (by rw [x_tok, ← hFe, ← hF2]; simp only [x_tkE, x_tkS, if_pos (Decidable.not_not.mp (fun z => c_55 (hlt.mpr z))), u2_c, nI_1]) rfl rfl dX5_readToken_218
  have J8 : ∀ n : Nat, ∀ (t : Nat) (hn : t + n = L) (hF : tb (V 9) n t = F) (H : Heap) (locs : List Loc) (ls : Array Slot), wok A D q dm kd ln ad (u2 V 8 3 (nI t)) J R H → va_S A s.heap H locs → lv_has ls 1 [(0, .ref (ad 8))] → W p l e ({ frames := 2, cells := 0, slots := 0, locals := 41 }) s m ([.ref (ad 8)] : List Value).toArray below meth c H locs 0 0 (MQ below (QV D q dm kd ln ad (x_tok V L p1) (J) (R) A) ([.ref (ad 8)] : List Value).toArray s 0 0 A) (F0 m 8 ls []) := by
    intro n
    induction n with
    | zero =>
      intro t hn hF H locs ls hW hS hl
      refine lv_aload_n hx hb dX5_readToken_8 rfl (lv_at hl 0 rfl) ?_
      refine w_get (ci := 6) (T := TX5) hx hb hts hin_TX5 hown hK hW (hX.1 8 (by decide)).1 (hX.1 8 (by decide)).2.1 (by decide) rfl 3 (by decide) (hts (.fieldLink RX5 22 "TownClocks$Tape" "first" "I") (by decide +kernel)) (fun _ h9 => h9) rfl dX5_readToken_9 ?_
      refine w_i (by rw [u2_ss]) ?_
      refine lv_aload_n hx hb dX5_readToken_12 rfl (lv_at hl 0 rfl) ?_
      refine w_get (ci := 6) (T := TX5) hx hb hts hin_TX5 hown hK hW (hX.1 8 (by decide)).1 (hX.1 8 (by decide)).2.1 (by decide) rfl 1 (by decide) (hts (.fieldLink RX5 15 "TownClocks$Tape" "length" "I") (by decide +kernel)) (fun _ h9 => h9) rfl dX5_readToken_13 ?_
      refine w_i (by rw [u2_sn (by decide)]) ?_
      refine lv_icmp_ge (tgt := 47) hx hb dX5_readToken_16 (by decide) (fun c_16 => ?_) (fun c_16 => ?_)
      · exact J47 t (by omega) (by rw [← hF]; rfl) _ _ _ hW hS (lv_sub hl [0] rfl)
      · exact absurd (by rw [hL]; exact nI_le (by omega) (by omega)) c_16
    | succ n ih =>
      intro t hn hF H locs ls hW hS hl
      refine lv_aload_n hx hb dX5_readToken_8 rfl (lv_at hl 0 rfl) ?_
      refine w_get (ci := 6) (T := TX5) hx hb hts hin_TX5 hown hK hW (hX.1 8 (by decide)).1 (hX.1 8 (by decide)).2.1 (by decide) rfl 3 (by decide) (hts (.fieldLink RX5 22 "TownClocks$Tape" "first" "I") (by decide +kernel)) (fun _ h9 => h9) rfl dX5_readToken_9 ?_
      refine w_i (by rw [u2_ss]) ?_
      refine lv_aload_n hx hb dX5_readToken_12 rfl (lv_at hl 0 rfl) ?_
      refine w_get (ci := 6) (T := TX5) hx hb hts hin_TX5 hown hK hW (hX.1 8 (by decide)).1 (hX.1 8 (by decide)).2.1 (by decide) rfl 1 (by decide) (hts (.fieldLink RX5 15 "TownClocks$Tape" "length" "I") (by decide +kernel)) (fun _ h9 => h9) rfl dX5_readToken_13 ?_
      refine w_i (by rw [u2_sn (by decide)]) ?_
      refine lv_icmp_ge (tgt := 47) hx hb dX5_readToken_16 (by decide) (fun c_16 => ?_) (fun c_16 => ?_)
      · exact absurd c_16 (by rw [hL]; exact nI_ge (by omega) (by omega))
      · refine lv_aload_n hx hb dX5_readToken_19 rfl (lv_at hl 0 rfl) ?_
        refine w_getr (ci := 6) (T := TX5) hx hb hts hin_TX5 hown hK hW (hX.1 8 (by decide)).1 (hX.1 8 (by decide)).2.1 (by decide) rfl 0 (by decide) (hts (.fieldLink RX5 9 "TownClocks$Tape" "bytes" "[B") (by decide +kernel)) (fun _ h9 => h9) rfl ((hX.1 8 (by decide)).2.2.2 0 9 rfl) dX5_readToken_20 ?_
        refine lv_aload_n hx hb dX5_readToken_23 rfl (lv_at hl 0 rfl) ?_
        refine w_get (ci := 6) (T := TX5) hx hb hts hin_TX5 hown hK hW (hX.1 8 (by decide)).1 (hX.1 8 (by decide)).2.1 (by decide) rfl 3 (by decide) (hts (.fieldLink RX5 22 "TownClocks$Tape" "first" "I") (by decide +kernel)) (fun _ h9 => h9) rfl dX5_readToken_24 ?_
        refine w_i (by rw [u2_ss]) ?_
        refine w_baldN (t := t) hx hb hK hW (hX.1 9 (by decide)).1 (hX.1 9 (by decide)).2.1 ⟨by rw [(show ln 9 = 300 from (hX.1 9 (by decide)).2.2.1)]; omega, by omega⟩ dX5_readToken_27 ?_
        refine w_i (by rw [u2_ne (by decide)]) ?_
        refine w_ci (w_runS ⟨hx, hb, hml, hown, hts⟩ (c_X5_isBlank hxo l D q (u2 V 8 3 (nI t)) J R (V 9 t) ) hxo (va_cwS 1 hts gX5_readToken_X5_isBlank rfl rfl rfl (by decide +kernel) ⟨Nat.le_of_ble_eq_true rfl, Nat.le_of_ble_eq_true rfl⟩) hK hW hS hA hXs rfl hl.1 rfl (Nat.le_of_ble_eq_true rfl) dX5_readToken_28 ⟨Nat.zero_le _, Nat.zero_le _⟩) hW hS hA (fun H locs hW hS => ?_)
        refine w_ifz (tgt := 47) hx hb dX5_readToken_31 (by decide) (fun c_31 => ?_) (fun c_31 => ?_)
        · exact J47 t (by omega) (by rw [← hF]; simp only [tb, if_neg c_31]) _ _ _ hW hS (lv_sub hl [0] rfl)
        · refine lv_aload_n hx hb dX5_readToken_34 rfl (lv_at hl 0 rfl) ?_
          refine lv_dup hx hb dX5_readToken_35 rfl ?_
          refine w_get (ci := 6) (T := TX5) hx hb hts hin_TX5 hown hK hW (hX.1 8 (by decide)).1 (hX.1 8 (by decide)).2.1 (by decide) rfl 3 (by decide) (hts (.fieldLink RX5 22 "TownClocks$Tape" "first" "I") (by decide +kernel)) (fun _ h9 => h9) rfl dX5_readToken_36 ?_
          refine w_i (by rw [u2_ss]) ?_
          refine lv_iconst (v := 1) hx hb dX5_readToken_39 (by decide) ?_
          refine lv_iadd hx hb dX5_readToken_40 ?_
          refine w_puti (ci := 6) (T := TX5) (ty := .int) hx hb hts hin_TX5 tyX5 tyX5_ok nmX5 hown hK hW hS (hX.1 8 (by decide)).1 (hX.1 8 (by decide)).2.1 (by decide) rfl 3 (by decide) (hts (.fieldLink RX5 22 "TownClocks$Tape" "first" "I") (by decide +kernel)) (fun _ h9 => h9) rfl (tyX5_ok 3 (by decide)) rfl rfl (Nat.le_of_ble_eq_true rfl) rfl dX5_readToken_41 (fun H locs hW hS => ?_)
          rw [u2_uu, nI_1] at hW
          refine lv_goto (tgt := 8) hx hb dX5_readToken_44 (by decide) ?_
          exact ih (t + 1) (by omega) (by have h := hF; simp only [tb, if_pos c_31] at h; exact h) _ _ _ hW hS (lv_sub hl [0] rfl)
  refine lv_aload_n hx hb dX5_readToken_0 rfl (lv_at hl 0 rfl) ?_
  refine lv_aload_n hx hb dX5_readToken_1 rfl (lv_at hl 0 rfl) ?_
  refine w_get (ci := 6) (T := TX5) hx hb hts hin_TX5 hown hK hW (hX.1 8 (by decide)).1 (hX.1 8 (by decide)).2.1 (by decide) rfl 4 (by decide) (hts (.fieldLink RX5 19 "TownClocks$Tape" "behind" "I") (by decide +kernel)) (fun _ h9 => h9) rfl dX5_readToken_2 ?_
  refine w_i hp4 ?_
  refine w_puti (ci := 6) (T := TX5) (ty := .int) hx hb hts hin_TX5 tyX5 tyX5_ok nmX5 hown hK hW hS (hX.1 8 (by decide)).1 (hX.1 8 (by decide)).2.1 (by decide) rfl 3 (by decide) (hts (.fieldLink RX5 22 "TownClocks$Tape" "first" "I") (by decide +kernel)) (fun _ h9 => h9) rfl (tyX5_ok 3 (by decide)) rfl rfl (Nat.le_of_ble_eq_true rfl) rfl dX5_readToken_5 (fun H locs hW hS => ?_)
  exact J8 (L - p1) p1 (by omega) hFe.symm _ _ _ hW hS (lv_sub hl [0] rfl)
set_option maxHeartbeats 4000000 in
set_option maxRecDepth 100000 in
theorem c_X5_numberValue {X : (Nat → Prop) → State → Prop} (hxo : xok X) (l : Launch) (D : va_G) (q : Cq) {dm : List Nat} {kd ln ad : Nat → Nat} (V : Mv) (J : Mj) (R : Mr) (nP nD a ee : Nat) (hX : okX dm kd ln R nP nD) (ha : V 8 3 = nI a) (he : V 8 4 = nI ee) (hae : a ≤ ee) (he3 : ee ≤ 300) : CtI X l yX5_numberValue wsX5_numberValue ({ frames := 0, cells := 0, slots := 0, locals := 0 }) D q dm kd ln ad V J R [.ref (ad 8)] (x_num (V 9) (ee - a) a 0) (V) (J) (R) := by
  refine CtI_of (cc := cX5_numberValue) (maxL := 3) (ret := (some .int)) (by decide +kernel) rfl (Nat.le_of_ble_eq_true rfl) ?_
  intro p e s m below meth c A hx hb hr hml hts hown hlk hmn hK hW hA hXs ls hl
  have hS : va_S A s.heap s.heap [] := va_S.rf
  have hl : lv_has ls 3 [(0, .ref (ad 8))] := hl
  have hin_TX5 : ∀ w ∈ u_ws RX5 TX5 5, w ∈ wsX5_numberValue := by decide +kernel
  obtain ⟨F, hFe⟩ : ∃ r, r = x_num (V 9) (ee - a) a 0 := ⟨_, rfl⟩
  have JL : ∀ n : Nat, ∀ (t : Nat) (v : Int32) (hn : t + n = ee) (hF : x_num (V 9) n t v = F) (H : Heap) (locs : List Loc) (ls : Array Slot), wok A D q dm kd ln ad V J R H → va_S A s.heap H locs → lv_has ls 3 [(0, .ref (ad 8)), (1, .int v), (2, .int (nI t))] → W p l e ({ frames := 0, cells := 0, slots := 0, locals := 0 }) s m ([.ref (ad 8)] : List Value).toArray below meth c H locs 0 0 (MQ below (QI (x_num (V 9) (ee - a) a 0) D q dm kd ln ad (V) (J) (R) A) ([.ref (ad 8)] : List Value).toArray s 0 0 A) (F0 m 7 ls []) := by
    intro n
    induction n with
    | zero =>
      intro t v hn hF H locs ls hW hS hl
      refine lv_iload_n hx hb dX5_numberValue_7 rfl (lv_at hl 2 rfl) ?_
      refine lv_aload_n hx hb dX5_numberValue_8 rfl (lv_at hl 0 rfl) ?_
      refine w_get (ci := 6) (T := TX5) hx hb hts hin_TX5 hown hK hW (hX.1 8 (by decide)).1 (hX.1 8 (by decide)).2.1 (by decide) rfl 4 (by decide) (hts (.fieldLink RX5 19 "TownClocks$Tape" "behind" "I") (by decide +kernel)) (fun _ h9 => h9) rfl dX5_numberValue_9 ?_
      refine lv_icmp_ge (tgt := 36) hx hb dX5_numberValue_12 (by decide) (fun c_12 => ?_) (fun c_12 => ?_)
      · refine lv_iload_n hx hb dX5_numberValue_36 rfl (lv_at hl 1 rfl) ?_
        exact w_iret hx hb hr hlk hW hS (by rw [← hFe, ← hF]; rfl) rfl rfl rfl dX5_numberValue_37
      · exact absurd (by rw [he]; exact nI_le (by omega) (by omega)) c_12
    | succ n ih =>
      intro t v hn hF H locs ls hW hS hl
      refine lv_iload_n hx hb dX5_numberValue_7 rfl (lv_at hl 2 rfl) ?_
      refine lv_aload_n hx hb dX5_numberValue_8 rfl (lv_at hl 0 rfl) ?_
      refine w_get (ci := 6) (T := TX5) hx hb hts hin_TX5 hown hK hW (hX.1 8 (by decide)).1 (hX.1 8 (by decide)).2.1 (by decide) rfl 4 (by decide) (hts (.fieldLink RX5 19 "TownClocks$Tape" "behind" "I") (by decide +kernel)) (fun _ h9 => h9) rfl dX5_numberValue_9 ?_
      refine lv_icmp_ge (tgt := 36) hx hb dX5_numberValue_12 (by decide) (fun c_12 => ?_) (fun c_12 => ?_)
      · exact absurd c_12 (by rw [he]; exact nI_ge (by omega) (by omega))
      · refine lv_bipush (v := 10) hx hb dX5_numberValue_15 (by decide) ?_
        refine lv_iload_n hx hb dX5_numberValue_17 rfl (lv_at hl 1 rfl) ?_
        refine lv_imul hx hb dX5_numberValue_18 ?_
        refine lv_aload_n hx hb dX5_numberValue_19 rfl (lv_at hl 0 rfl) ?_
        refine w_getr (ci := 6) (T := TX5) hx hb hts hin_TX5 hown hK hW (hX.1 8 (by decide)).1 (hX.1 8 (by decide)).2.1 (by decide) rfl 0 (by decide) (hts (.fieldLink RX5 9 "TownClocks$Tape" "bytes" "[B") (by decide +kernel)) (fun _ h9 => h9) rfl ((hX.1 8 (by decide)).2.2.2 0 9 rfl) dX5_numberValue_20 ?_
        refine lv_iload_n hx hb dX5_numberValue_23 rfl (lv_at hl 2 rfl) ?_
        refine w_baldN (t := t) hx hb hK hW (hX.1 9 (by decide)).1 (hX.1 9 (by decide)).2.1 ⟨by rw [(show ln 9 = 300 from (hX.1 9 (by decide)).2.2.1)]; omega, by omega⟩ dX5_numberValue_24 ?_
        refine lv_iadd hx hb dX5_numberValue_25 ?_
        refine lv_bipush (v := 48) hx hb dX5_numberValue_26 (by decide) ?_
        refine lv_isub hx hb dX5_numberValue_28 ?_
        refine lv_istore_n (lv' := [(1, .int (((10 * v) + (V 9 t)) - 48)), (0, .ref (ad 8)), (2, .int (nI t))]) hx hb dX5_numberValue_29 rfl hl (by decide) rfl (fun ls hl => ?_)
        refine lv_iinc (v := nI (t + 1)) (lv' := [(2, .int (nI (t + 1))), (1, .int (((10 * v) + (V 9 t)) - 48)), (0, .ref (ad 8))]) hx hb dX5_numberValue_30 hl (k := 2) rfl (by rw [show Int32.ofInt 1 = 1 from by decide]; exact nI_1 _) (by decide) rfl (fun ls hl => ?_)
        refine lv_goto (tgt := 7) hx hb dX5_numberValue_33 (by decide) ?_
        exact ih (t + 1) _ (by omega) hF _ _ _ hW hS (lv_sub hl [2, 1, 0] rfl)
  refine lv_iconst (v := 0) hx hb dX5_numberValue_0 (by decide) ?_
  refine lv_istore_n (lv' := [(1, .int 0), (0, .ref (ad 8))]) hx hb dX5_numberValue_1 rfl hl (by decide) rfl (fun ls hl => ?_)
  refine lv_aload_n hx hb dX5_numberValue_2 rfl (lv_at hl 1 rfl) ?_
  refine w_get (ci := 6) (T := TX5) hx hb hts hin_TX5 hown hK hW (hX.1 8 (by decide)).1 (hX.1 8 (by decide)).2.1 (by decide) rfl 3 (by decide) (hts (.fieldLink RX5 22 "TownClocks$Tape" "first" "I") (by decide +kernel)) (fun _ h9 => h9) rfl dX5_numberValue_3 ?_
  refine w_i ha ?_
  refine lv_istore_n (lv' := [(2, .int (nI a)), (1, .int 0), (0, .ref (ad 8))]) hx hb dX5_numberValue_6 rfl hl (by decide) rfl (fun ls hl => ?_)
  exact JL (ee - a) a 0 (by omega) hFe.symm _ _ _ hW hS (lv_sub hl [2, 1, 0] rfl)
set_option maxHeartbeats 4000000 in
set_option maxRecDepth 100000 in
theorem c_X5_isSign {X : (Nat → Prop) → State → Prop} (hxo : xok X) (l : Launch) (D : va_G) (q : Cq) {dm : List Nat} {kd ln ad : Nat → Nat} (V : Mv) (J : Mj) (R : Mr) (nP nD a : Nat) (ch : Int32) (hX : okX dm kd ln R nP nD) (ha : V 8 3 = nI a) (ha3 : V 8 2 = 3 → a < 300) : CtI X l yX5_isSign wsX5_isSign ({ frames := 0, cells := 0, slots := 0, locals := 0 }) D q dm kd ln ad V J R [.ref (ad 8), .int ch] (bz (V 8 2 = 3 ∧ V 9 a = ch)) (V) (J) (R) := by
  refine CtI_of (cc := cX5_isSign) (maxL := 2) (ret := (some .boolean)) (by decide +kernel) rfl (Nat.le_of_ble_eq_true rfl) ?_
  intro p e s m below meth c A hx hb hr hml hts hown hlk hmn hK hW hA hXs ls hl
  have hS : va_S A s.heap s.heap [] := va_S.rf
  have hl : lv_has ls 2 [(0, .ref (ad 8)), (1, .int ch)] := hl
  have hin_TX5 : ∀ w ∈ u_ws RX5 TX5 5, w ∈ wsX5_isSign := by decide +kernel
  refine lv_aload_n hx hb dX5_isSign_0 rfl (lv_at hl 0 rfl) ?_
  refine w_get (ci := 6) (T := TX5) hx hb hts hin_TX5 hown hK hW (hX.1 8 (by decide)).1 (hX.1 8 (by decide)).2.1 (by decide) rfl 2 (by decide) (hts (.fieldLink RX5 29 "TownClocks$Tape" "sort" "I") (by decide +kernel)) (fun _ h9 => h9) rfl dX5_isSign_1 ?_
  refine lv_iconst (v := 3) hx hb dX5_isSign_4 (by decide) ?_
  refine lv_icmp_ne (tgt := 25) hx hb dX5_isSign_5 (by decide) (fun c_5 => ?_) (fun c_5 => ?_)
  · refine lv_iconst (v := 0) hx hb dX5_isSign_25 (by decide) ?_
    exact w_zret hx hb hr hlk hW hS (Or.inl rfl) (Eq.symm (bz_f (fun h => c_5 h.1))) rfl rfl rfl dX5_isSign_26
  · refine lv_aload_n hx hb dX5_isSign_8 rfl (lv_at hl 0 rfl) ?_
    refine w_getr (ci := 6) (T := TX5) hx hb hts hin_TX5 hown hK hW (hX.1 8 (by decide)).1 (hX.1 8 (by decide)).2.1 (by decide) rfl 0 (by decide) (hts (.fieldLink RX5 9 "TownClocks$Tape" "bytes" "[B") (by decide +kernel)) (fun _ h9 => h9) rfl ((hX.1 8 (by decide)).2.2.2 0 9 rfl) dX5_isSign_9 ?_
    refine lv_aload_n hx hb dX5_isSign_12 rfl (lv_at hl 0 rfl) ?_
    refine w_get (ci := 6) (T := TX5) hx hb hts hin_TX5 hown hK hW (hX.1 8 (by decide)).1 (hX.1 8 (by decide)).2.1 (by decide) rfl 3 (by decide) (hts (.fieldLink RX5 22 "TownClocks$Tape" "first" "I") (by decide +kernel)) (fun _ h9 => h9) rfl dX5_isSign_13 ?_
    refine w_i ha ?_
    refine w_baldN (t := a) hx hb hK hW (hX.1 9 (by decide)).1 (hX.1 9 (by decide)).2.1 ⟨by rw [(show ln 9 = 300 from (hX.1 9 (by decide)).2.2.1)]; exact ha3 c_5, by have := ha3 c_5; omega⟩ dX5_isSign_16 ?_
    refine lv_iload_n hx hb dX5_isSign_17 rfl (lv_at hl 1 rfl) ?_
    refine lv_icmp_ne (tgt := 25) hx hb dX5_isSign_18 (by decide) (fun c_18 => ?_) (fun c_18 => ?_)
    · refine lv_iconst (v := 0) hx hb dX5_isSign_25 (by decide) ?_
      exact w_zret hx hb hr hlk hW hS (Or.inl rfl) (Eq.symm (bz_f (fun h => c_18 h.2))) rfl rfl rfl dX5_isSign_26
    · refine lv_iconst (v := 1) hx hb dX5_isSign_21 (by decide) ?_
      refine lv_goto (tgt := 26) hx hb dX5_isSign_22 (by decide) ?_
      exact w_zret hx hb hr hlk hW hS (Or.inr rfl) (Eq.symm (bz_t ⟨c_5, c_18⟩)) rfl rfl rfl dX5_isSign_26
set_option maxHeartbeats 4000000 in
set_option maxRecDepth 100000 in
theorem c_X5_append {X : (Nat → Prop) → State → Prop} (hxo : xok X) (l : Launch) (D : va_G) (q : Cq) {dm : List Nat} {kd ln ad : Nat → Nat} (V : Mv) (J : Mj) (R : Mr) (nP nD L N : Nat) (w : Int64) (hX : okX dm kd ln R nP nD) (hL : V 8 1 = nI L) (hLN : L + N ≤ 300) (hN : N ≤ 8) : CtV X l yX5_append wsX5_append ({ frames := 0, cells := 0, slots := 0, locals := 0 }) D q dm kd ln ad V J R [.ref (ad 8), .long w, .int (nI N)] (x_app w N L V) (J) (R) := by
  refine CtV_of (cc := cX5_append) (maxL := 5) (ret := none) (by decide +kernel) rfl (Nat.le_of_ble_eq_true rfl) ?_
  intro p e s m below meth c A hx hb hr hml hts hown hlk hmn hK hW hA hXs ls hl
  have hS : va_S A s.heap s.heap [] := va_S.rf
  have hl : lv_has ls 5 [(0, .ref (ad 8)), (1, .long w), (3, .int (nI N))] := hl
  have hin_TX5 : ∀ w ∈ u_ws RX5 TX5 5, w ∈ wsX5_append := by decide +kernel
  obtain ⟨F, hFe⟩ : ∃ r, r = x_app w N L V := ⟨_, rfl⟩
  have JL : ∀ n : Nat, ∀ (t : Nat) (Vw : Mv) (y : Int32) (hy : y = nI n - 1) (hn : t + n = L + N) (hLw : Vw 8 1 = nI t) (hF : x_app w n t Vw = F) (H : Heap) (locs : List Loc) (ls : Array Slot), wok A D q dm kd ln ad Vw J R H → va_S A s.heap H locs → lv_has ls 5 [(0, .ref (ad 8)), (1, .long w), (3, .int (nI N)), (4, .int y)] → W p l e ({ frames := 0, cells := 0, slots := 0, locals := 0 }) s m ([.ref (ad 8), .long w, .int (nI N)] : List Value).toArray below meth c H locs 0 0 (MQ below (QV D q dm kd ln ad (x_app w N L V) (J) (R) A) ([.ref (ad 8), .long w, .int (nI N)] : List Value).toArray s 0 0 A) (F0 m 5 ls []) := by
    intro n
    induction n with
    | zero =>
      intro t Vw y hy hn hLw hF H locs ls hW hS hl
      refine lv_iload hx hb dX5_append_5 (lv_at hl 3 rfl) ?_
      refine lv_if_lt (tgt := 54) hx hb dX5_append_7 (by decide) (fun c_7 => ?_) (fun c_7 => ?_)
      · exact w_vret hx hb hr hlk hW hS (by rw [← hFe, ← hF]; rfl) rfl rfl dX5_append_54
      · exact absurd (by rw [hy]; decide) c_7
    | succ n ih =>
      intro t Vw y hy hn hLw hF H locs ls hW hS hl
      have hy2 : y = nI n := by rw [hy, nI_pred]
      subst hy2
      refine lv_iload hx hb dX5_append_5 (lv_at hl 3 rfl) ?_
      refine lv_if_lt (tgt := 54) hx hb dX5_append_7 (by decide) (fun c_7 => ?_) (fun c_7 => ?_)
      · exact absurd c_7 (nI_pos (by omega))
      · refine lv_aload_n hx hb dX5_append_10 rfl (lv_at hl 0 rfl) ?_
        refine w_get (ci := 6) (T := TX5) hx hb hts hin_TX5 hown hK hW (hX.1 8 (by decide)).1 (hX.1 8 (by decide)).2.1 (by decide) rfl 1 (by decide) (hts (.fieldLink RX5 15 "TownClocks$Tape" "length" "I") (by decide +kernel)) (fun _ h9 => h9) rfl dX5_append_11 ?_
        refine lv_sipush (v := 300) hx hb dX5_append_14 (by decide) ?_
        refine lv_icmp_ge (tgt := 54) hx hb dX5_append_17 (by decide) (fun c_17 => ?_) (fun c_17 => ?_)
        · exact absurd c_17 (by rw [hLw]; exact nI_ge (b := 300) (by omega) (by decide))
        · refine lv_aload_n hx hb dX5_append_20 rfl (lv_at hl 0 rfl) ?_
          refine w_getr (ci := 6) (T := TX5) hx hb hts hin_TX5 hown hK hW (hX.1 8 (by decide)).1 (hX.1 8 (by decide)).2.1 (by decide) rfl 0 (by decide) (hts (.fieldLink RX5 9 "TownClocks$Tape" "bytes" "[B") (by decide +kernel)) (fun _ h9 => h9) rfl ((hX.1 8 (by decide)).2.2.2 0 9 rfl) dX5_append_21 ?_
          refine lv_aload_n hx hb dX5_append_24 rfl (lv_at hl 0 rfl) ?_
          refine w_get (ci := 6) (T := TX5) hx hb hts hin_TX5 hown hK hW (hX.1 8 (by decide)).1 (hX.1 8 (by decide)).2.1 (by decide) rfl 1 (by decide) (hts (.fieldLink RX5 15 "TownClocks$Tape" "length" "I") (by decide +kernel)) (fun _ h9 => h9) rfl dX5_append_25 ?_
          refine w_i hLw ?_
          refine lv_lload_n hx hb dX5_append_28 rfl (lv_at hl 1 rfl) ?_
          refine lv_bipush (v := 8) hx hb dX5_append_29 (by decide) ?_
          refine lv_iload hx hb dX5_append_31 (lv_at hl 3 rfl) ?_
          refine lv_imul hx hb dX5_append_33 ?_
          refine lv_lushr hx hb dX5_append_34 rfl ?_
          refine lv_l2i hx hb dX5_append_35 rfl ?_
          refine lv_i2b hx hb dX5_append_36 rfl ?_
          refine w_bastN (t := t) hx hb hK hW hS (hX.1 9 (by decide)).1 (hX.1 9 (by decide)).2.1 ⟨by rw [(show ln 9 = 300 from (hX.1 9 (by decide)).2.2.1)]; omega, by omega⟩ dX5_append_37 (fun H locs hW hS => ?_)
          refine lv_aload_n hx hb dX5_append_38 rfl (lv_at hl 0 rfl) ?_
          refine lv_dup hx hb dX5_append_39 rfl ?_
          refine w_get (ci := 6) (T := TX5) hx hb hts hin_TX5 hown hK hW (hX.1 8 (by decide)).1 (hX.1 8 (by decide)).2.1 (by decide) rfl 1 (by decide) (hts (.fieldLink RX5 15 "TownClocks$Tape" "length" "I") (by decide +kernel)) (fun _ h9 => h9) rfl dX5_append_40 ?_
          refine w_i (by rw [u2_ne (by decide)]) ?_
          refine w_i hLw ?_
          refine lv_iconst (v := 1) hx hb dX5_append_43 (by decide) ?_
          refine lv_iadd hx hb dX5_append_44 ?_
          refine w_puti (ci := 6) (T := TX5) (ty := .int) hx hb hts hin_TX5 tyX5 tyX5_ok nmX5 hown hK hW hS (hX.1 8 (by decide)).1 (hX.1 8 (by decide)).2.1 (by decide) rfl 1 (by decide) (hts (.fieldLink RX5 15 "TownClocks$Tape" "length" "I") (by decide +kernel)) (fun _ h9 => h9) rfl (tyX5_ok 1 (by decide)) rfl rfl (Nat.le_of_ble_eq_true rfl) rfl dX5_append_45 (fun H locs hW hS => ?_)
          refine lv_iinc (v := (nI n) + (-1)) (lv' := [(4, .int ((nI n) + (-1))), (0, .ref (ad 8)), (1, .long w), (3, .int (nI N))]) hx hb dX5_append_48 hl (k := 3) rfl rfl (by decide) rfl (fun ls hl => ?_)
          refine lv_goto (tgt := 5) hx hb dX5_append_51 (by decide) ?_
          exact ih (t + 1) _ _ (ap_neg _) (by omega) (by rw [u2_ss, nI_1]) hF _ _ _ hW hS (lv_sub hl [1, 2, 3, 0] rfl)
  refine lv_iload_n hx hb dX5_append_0 rfl (lv_at hl 2 rfl) ?_
  refine lv_iconst (v := 1) hx hb dX5_append_1 (by decide) ?_
  refine lv_isub hx hb dX5_append_2 ?_
  refine lv_istore (lv' := [(4, .int ((nI N) - 1)), (0, .ref (ad 8)), (1, .long w), (3, .int (nI N))]) hx hb dX5_append_3 hl (by decide) rfl (fun ls hl => ?_)
  exact JL N L V _ rfl (by omega) hL hFe.symm _ _ _ hW hS (lv_sub hl [1, 2, 3, 0] rfl)
set_option maxHeartbeats 4000000 in
set_option maxRecDepth 100000 in
theorem c_X7_feed {X : (Nat → Prop) → State → Prop} (hxo : xok X) (l : Launch) (D : va_G) (q : Cq) {dm : List Nat} {kd ln ad : Nat → Nat} (V : Mv) (J : Mj) (R : Mr) (nP nD : Nat) (w : Int64) (n : Int32) (L : Nat) (hX : okX dm kd ln R nP nD) (hp : V 1 2 = nI nP) (hq : V 2 2 = nI nD) (hL : V 8 1 = nI L) (hL3 : L ≤ 300) : CtI X l yX7_feed wsX7_feed ({ frames := 1, cells := 0, slots := 0, locals := 24 }) D q dm kd ln ad V J R [.ref (ad 0), .long w, .int n] (x_feed V n w L) (x_feedV V n w L) (J) (R) := by
  refine CtI_of (cc := cX7_feed) (maxL := 4) (ret := (some .int)) (by decide +kernel) rfl (Nat.le_of_ble_eq_true rfl) ?_
  intro p e s m below meth c A hx hb hr hml hts hown hlk hmn hK hW hA hXs ls hl
  have hS : va_S A s.heap s.heap [] := va_S.rf
  have hl : lv_has ls 4 [(0, .ref (ad 0)), (1, .long w), (3, .int n)] := hl
  have hin_TX7 : ∀ w ∈ u_ws RX7 TX7 8, w ∈ wsX7_feed := by decide +kernel
  have hin_TX5 : ∀ w ∈ u_ws RX5 TX5 5, w ∈ wsX7_feed := by decide +kernel
  refine lv_iload_n hx hb dX7_feed_0 rfl (lv_at hl 2 rfl) ?_
  refine lv_iconst (v := 1) hx hb dX7_feed_1 (by decide) ?_
  refine lv_bipush (v := 8) hx hb dX7_feed_2 (by decide) ?_
  refine w_ci (w_runS ⟨hx, hb, hml, hown, hts⟩ (c_X7_within hxo l D q V J R n 1 8 ) hxo (va_cwS 3 hts gX7_feed_X7_within rfl rfl rfl (by decide +kernel) ⟨Nat.le_of_ble_eq_true rfl, Nat.le_of_ble_eq_true rfl⟩) hK hW hS hA hXs rfl hl.1 rfl (Nat.le_of_ble_eq_true rfl) dX7_feed_4 ⟨Nat.zero_le _, Nat.zero_le _⟩) hW hS hA (fun H locs hW hS => ?_)
  refine w_ifnz (tgt := 13) hx hb dX7_feed_7 (by decide) (fun c_7 => ?_) (fun c_7 => ?_)
  · refine lv_aload_n hx hb dX7_feed_13 rfl (lv_at hl 0 rfl) ?_
    refine w_getr (ci := 8) (T := TX7) hx hb hts hin_TX7 hown hK hW (hX.1 0 (by decide)).1 (hX.1 0 (by decide)).2.1 (by decide) rfl 5 (by decide) (hts (.fieldLink RX7 44 "TownClocks" "tape" "LTownClocks$Tape;") (by decide +kernel)) (fun _ h9 => h9) rfl ((hX.1 0 (by decide)).2.2.2 5 8 rfl) dX7_feed_14 ?_
    refine w_get (ci := 6) (T := TX5) hx hb hts hin_TX5 hown hK hW (hX.1 8 (by decide)).1 (hX.1 8 (by decide)).2.1 (by decide) rfl 1 (by decide) (hts (.fieldLink RX7 202 "TownClocks$Tape" "length" "I") (by decide +kernel)) (fun _ h9 => h9) rfl dX7_feed_17 ?_
    refine lv_iload_n hx hb dX7_feed_20 rfl (lv_at hl 2 rfl) ?_
    refine lv_iadd hx hb dX7_feed_21 ?_
    refine lv_sipush (v := 300) hx hb dX7_feed_22 (by decide) ?_
    refine lv_icmp_le (tgt := 31) hx hb dX7_feed_25 (by decide) (fun c_25 => ?_) (fun c_25 => ?_)
    · refine lv_aload_n hx hb dX7_feed_31 rfl (lv_at hl 0 rfl) ?_
      refine w_getr (ci := 8) (T := TX7) hx hb hts hin_TX7 hown hK hW (hX.1 0 (by decide)).1 (hX.1 0 (by decide)).2.1 (by decide) rfl 5 (by decide) (hts (.fieldLink RX7 44 "TownClocks" "tape" "LTownClocks$Tape;") (by decide +kernel)) (fun _ h9 => h9) rfl ((hX.1 0 (by decide)).2.2.2 5 8 rfl) dX7_feed_32 ?_
      refine lv_lload_n hx hb dX7_feed_35 rfl (lv_at hl 1 rfl) ?_
      refine lv_iload_n hx hb dX7_feed_36 rfl (lv_at hl 2 rfl) ?_
      have hnx : inx 9 n := by have h1 := Int32.le_iff_toInt_le.mp c_7.1; have h2 := Int32.le_iff_toInt_le.mp c_7.2; have e1 : (1 : Int32).toInt = 1 := (by decide); have e2 : (8 : Int32).toInt = 8 := (by decide); exact ⟨by omega, by show _ < ((9 : Nat) : Int); omega⟩
      have hle : L + n.toNatClampNeg ≤ 300 := by have h := c_25; rw [hL, inx_e hnx, nI_add] at h; exact (nI_leI (b := 300) (by have := (inx_c hnx).1; omega) (by decide)).mp h
      refine w_i (inx_e hnx) ?_
      refine w_cv (w_runV ⟨hx, hb, hml, hown, hts⟩ (c_X5_append hxo l D q V J R nP nD L n.toNatClampNeg w hX hL hle (by have := (inx_c hnx).1; omega)) hxo (cwV 2 hts gX7_feed_X5_append rfl rfl rfl (by decide +kernel) ⟨Nat.le_of_ble_eq_true rfl, Nat.le_of_ble_eq_true rfl⟩) hK hW hS hA hXs (w_rcv hK hW (hX.1 8 (by decide)).1 (hX.1 8 (by decide)).2.1 (by decide) rfl) rfl hl.1 rfl (Nat.le_of_ble_eq_true rfl) dX7_feed_37 ⟨Nat.zero_le _, Nat.zero_le _⟩) hW hS hA (fun H locs hW hS => ?_)
      refine lv_aload_n hx hb dX7_feed_40 rfl (lv_at hl 0 rfl) ?_
      refine w_getr (ci := 8) (T := TX7) hx hb hts hin_TX7 hown hK hW (hX.1 0 (by decide)).1 (hX.1 0 (by decide)).2.1 (by decide) rfl 5 (by decide) (hts (.fieldLink RX7 44 "TownClocks" "tape" "LTownClocks$Tape;") (by decide +kernel)) (fun _ h9 => h9) rfl ((hX.1 0 (by decide)).2.2.2 5 8 rfl) dX7_feed_41 ?_
      refine w_get (ci := 6) (T := TX5) hx hb hts hin_TX5 hown hK hW (hX.1 8 (by decide)).1 (hX.1 8 (by decide)).2.1 (by decide) rfl 1 (by decide) (hts (.fieldLink RX7 202 "TownClocks$Tape" "length" "I") (by decide +kernel)) (fun _ h9 => h9) rfl dX7_feed_44 ?_
      exact w_iret hx hb hr hlk hW hS (by first | rfl | (simp only [x_feed, x_feedV, if_pos c_7, if_pos c_25, c_7, c_25, ↓reduceIte]; done) | simp [bz, x_feed, x_feedV, if_pos c_7, if_pos c_25, c_7, c_25]) (by first | rfl | (simp only [x_feed, x_feedV, if_pos c_7, if_pos c_25, c_7, c_25, ↓reduceIte]; done) | simp [bz, x_feed, x_feedV, if_pos c_7, if_pos c_25, c_7, c_25]) rfl rfl dX7_feed_47
    · refine lv_ldc (v := -1000003) hx hb hown (hts (.constant RX7 66 (-1000003)) (by decide +kernel)) dX7_feed_28 ?_
      exact w_iret hx hb hr hlk hW hS (by first | rfl | (simp only [x_feed, x_feedV, if_pos c_7, if_neg c_25, c_7, c_25, ↓reduceIte]; done) | simp [bz, x_feed, x_feedV, if_pos c_7, if_neg c_25, c_7, c_25]) (by first | rfl | (simp only [x_feed, x_feedV, if_pos c_7, if_neg c_25, c_7, c_25, ↓reduceIte]; done) | simp [bz, x_feed, x_feedV, if_pos c_7, if_neg c_25, c_7, c_25]) rfl rfl dX7_feed_30
  · refine lv_ldc (v := -1000001) hx hb hown (hts (.constant RX7 57 (-1000001)) (by decide +kernel)) dX7_feed_10 ?_
    exact w_iret hx hb hr hlk hW hS (by first | rfl | (simp only [x_feed, x_feedV, if_neg c_7, c_7, ↓reduceIte]; done) | simp [bz, x_feed, x_feedV, if_neg c_7, c_7]) (by first | rfl | (simp only [x_feed, x_feedV, if_neg c_7, c_7, ↓reduceIte]; done) | simp [bz, x_feed, x_feedV, if_neg c_7, c_7]) rfl rfl dX7_feed_12
