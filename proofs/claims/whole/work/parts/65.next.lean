/-! next: pairs counted by likes against pairs compared -/
def cnt (a : Nat → Nat) : Nat → Nat → Nat
  | 0, _ => 0
  | e + 1, v => cnt a e v + (if a e = v then 1 else 0)
def unl (a : Nat → Nat) : Nat → Nat
  | 0 => 0
  | e + 1 => unl a e + (e - cnt a e (a e))
theorem cnt_le (a : Nat → Nat) (v : Nat) : ∀ e, cnt a e v ≤ e
  | 0 => Nat.le_refl _
  | e + 1 => by
    have := cnt_le a v e
    rw [cnt]
    split <;> omega
def sm (t : Nat → Nat) : Nat → Nat → Nat
  | 0, _ => 0
  | n + 1, i => t i + sm t n (i + 1)
theorem sm_snoc {t : Nat → Nat} : ∀ n i, sm t (n + 1) i = sm t n i + t (i + n)
  | 0, i => by rw [sm, sm, sm, Nat.add_zero i, Nat.add_zero, Nat.zero_add]
  | n + 1, i => by
    rw [sm, sm_snoc n (i + 1), sm, show i + 1 + n = i + (n + 1) by omega]
    omega
theorem sm_add {t u v : Nat → Nat} : ∀ n i, (∀ j, i ≤ j → j < i + n → v j = t j + u j) → sm v n i = sm t n i + sm u n i
  | 0, _ => fun _ => rfl
  | n + 1, i => fun h => by
    rw [sm, sm, sm, sm_add n (i + 1) (fun j h1 h2 => h j (by omega) (by omega)), h i (by omega) (by omega)]
    omega
abbrev nel (a : Nat → Nat) (e g : Nat) : Nat := if a e = a g then 0 else 1
def prs (a : Nat → Nat) (f : Nat) : Nat := sm (fun e => sm (nel a e) (f - (e + 1)) (e + 1)) f 0
theorem nel_cnt (a : Nat → Nat) (f : Nat) : ∀ n, sm (fun e => nel a e f) n 0 + cnt a n (a f) = n
  | 0 => rfl
  | n + 1 => by
    have h := nel_cnt a f n
    rw [sm_snoc, cnt, Nat.zero_add]
    show sm (fun e => nel a e f) n 0 + (if a n = a f then 0 else 1) + (cnt a n (a f) + (if a n = a f then 1 else 0)) = n + 1
    split <;> omega
theorem prs_unl (a : Nat → Nat) : ∀ f, prs a f = unl a f
  | 0 => rfl
  | f + 1 => by
    have h := prs_unl a f
    have hc := nel_cnt a f f
    rw [unl, ← h, prs, sm_snoc, prs]
    have e0 : sm (nel a (0 + f)) (f + 1 - (0 + f + 1)) (0 + f + 1) = 0 := by
      rw [show f + 1 - (0 + f + 1) = 0 by omega, sm]
    rw [e0, sm_add (t := fun e => sm (nel a e) (f - (e + 1)) (e + 1)) (u := fun e => nel a e f) f 0 (fun j h1 h2 => by
      show sm (nel a j) (f + 1 - (j + 1)) (j + 1) = sm (nel a j) (f - (j + 1)) (j + 1) + nel a j f
      rw [show f + 1 - (j + 1) = (f - (j + 1)) + 1 by omega, sm_snoc, show j + 1 + (f - (j + 1)) = f by omega])]
    omega
theorem x_fillL_at {k v : Nat} {a : Int32} : ∀ n i V, i ≤ v → v < i + n → x_fillL k a n i V k v = a
  | 0, i, V => fun h1 h2 => absurd h2 (by omega)
  | n + 1, i, V => fun h1 h2 => by
    rw [x_fillL]
    by_cases hv : v = i
    · subst hv
      have hlt : ∀ n j (V : Mv), v < j → x_fillL k a n j V k v = V k v := by
        intro n
        induction n with
        | zero => intro j V _; rfl
        | succ n ih =>
          intro j V hj
          rw [x_fillL, ih (j + 1) _ (by omega), u2_sn (by omega)]
      rw [hlt n (v + 1) _ (by omega), u2_ss]
    · exact x_fillL_at n (i + 1) _ (by omega) (by omega)
theorem x_airE_eq {V X : Mv} {k e : Nat} (h : ∀ j, j ≠ 7 → V j = X j) (hk : k ≠ 7) : x_airE V k e = x_airE X k e := by
  unfold x_airE x_air0 x_fed
  rw [h k hk, h 5 (by decide), h 6 (by decide)]
theorem e_unl {X : Mv} {k : Nat} (hk : k ≠ 7) {a : Nat → Nat} {f : Nat} (ha : ∀ e, e < f → x_airE X k e = nI (a e) ∧ a e ≤ 100) (hf : f ≤ 1000) : ∀ n e V, e + n = f → (∀ j, j ≠ 7 → V j = X j) → (∀ v, v ≤ 100 → V 7 v = nI (cnt a e v)) → (x_unl k n e V (nI (unl a e))).2 = nI (unl a f)
  | 0, e, V => fun h1 _ _ => by rw [show f = e by omega]; rfl
  | n + 1, e, V => fun h1 h2 h3 => by
    obtain ⟨q1, q2⟩ := ha e (by omega)
    have hc := cnt_le a (a e) e
    rw [x_unl, x_airE_eq h2 hk, q1, nI_clamp (by omega), h3 _ q2, pk_sub hc, nI_add, nI_1]
    refine e_unl hk ha hf n (e + 1) _ (by omega) (fun j hj => by rw [u2_ne hj]; exact h2 j hj) (fun v hv => ?_)
    rw [cnt]
    by_cases hva : v = a e
    · rw [hva, u2_ss, if_pos rfl]
    · rw [u2_sn hva, if_neg (fun q => hva q.symm)]
      exact h3 v hv
theorem e_un {X V : Mv} {k : Nat} (hk : k ≠ 7) {a : Nat → Nat} {f : Nat} (ha : ∀ e, e < f → x_airE X k e = nI (a e) ∧ a e ≤ 100) (hf : f ≤ 1000) (hV : ∀ j, j ≠ 7 → V j = X j) : (x_un V k f).2 = nI (unl a f) := by
  rw [x_un]
  exact e_unl hk ha hf f 0 _ (by omega) (fun j hj => by rw [x_fillL_ne hj]; exact hV j hj) (fun v hv => x_fillL_at 101 0 V (by omega) (by omega))
theorem e_pd {V : Mv} {o e f : Nat} {a : Nat → Nat} (ha : ∀ e, e < f → V 1030 (30 * e + o) = nI (a e) ∧ a e ≤ 100) (he : e < f) : ∀ n i x, i + n ≤ f → lpI (m_pd V o e) n i (nI x) = nI (x + sm (nel a e) n i)
  | 0, _, _ => fun _ => rfl
  | n + 1, i, x => fun hi => by
    obtain ⟨q1, q2⟩ := ha e he
    obtain ⟨q3, q4⟩ := ha i (by omega)
    rw [lpI, m_pd, q1, q3, sm]
    by_cases h : a e = a i
    · rw [if_pos (by rw [h]), Int32.add_zero, e_pd ha he n (i + 1) x (by omega), show nel a e i = 0 from if_pos h]
      congr 1
      omega
    · rw [if_neg (fun q => h ((nI_eq (by omega) (by omega)).mp q)), nI_1, e_pd ha he n (i + 1) (x + 1) (by omega), show nel a e i = 1 from if_neg h]
      congr 1
      omega
theorem e_prL {V : Mv} {o f : Nat} {a : Nat → Nat} (ha : ∀ e, e < f → V 1030 (30 * e + o) = nI (a e) ∧ a e ≤ 100) : ∀ n e x, e + n = f → lpI (fun e z => lpI (m_pd V o e) (f - (e + 1)) (e + 1) z) n e (nI x) = nI (x + sm (fun e => sm (nel a e) (f - (e + 1)) (e + 1)) n e)
  | 0, _, _ => fun _ => rfl
  | n + 1, e, x => fun he => by
    rw [lpI, e_pd ha (by omega) _ _ _ (by omega), e_prL ha n (e + 1) _ (by omega), sm]
    congr 1
    omega
theorem e_pr {V : Mv} {d f : Nat} {a : Nat → Nat} (ha : ∀ e, e < f → V 1030 (30 * e + (V 1008 d).toNatClampNeg) = nI (a e) ∧ a e ≤ 100) : m_pr V f d = nI (unl a f) := by
  rw [m_pr, ← prs_unl, prs]
  have h := e_prL ha f 0 0 (by omega)
  rw [Nat.zero_add] at h
  exact h
theorem m_nP_o {e t : Nat} : ∀ n p V, (t < 30 * e + p ∨ 30 * e + p + n ≤ t) → m_nP e n p V 1030 t = V 1030 t
  | 0, _, _ => fun _ => rfl
  | n + 1, p, V => fun h => by rw [m_nP, m_nP_o n (p + 1) _ (by omega), u2_sn (by omega)]
theorem m_nP_at {e i : Nat} : ∀ n p V, p ≤ i → i < p + n → m_nP e n p V 1030 (30 * e + i) = V 1006 i
  | 0, p, V => fun h1 h2 => absurd h2 (by omega)
  | n + 1, p, V => fun h1 h2 => by
    rw [m_nP]
    by_cases hi : i = p
    · subst hi
      rw [m_nP_o n (i + 1) _ (by omega), u2_ss]
    · rw [m_nP_at n (p + 1) _ (by omega) (by omega), u2_ne (by decide)]
theorem m_nA_o {nP t : Nat} : ∀ n e V, t < 30 * e → m_nA nP n e V 1030 t = V 1030 t
  | 0, _, _ => fun _ => rfl
  | n + 1, e, V => fun h => by rw [m_nA, m_nA_o n (e + 1) _ (by omega), m_nP_o nP 0 _ (by omega), m_airB_ne (by decide)]
theorem e_nA {c nP nD : Nat} {U W : Mv} {K I : Mj} {R : Mr} (h : rl c nP nD U W K I R) {e i p l : Nat} (hi : i < nP) (hp : p < nP) (hl : l ≤ 60) : ∀ n e0 V, V 1002 = W 1002 → V 1003 = W 1003 → e0 ≤ e → e < e0 + n → V 1027 e = nI p → V 1028 e = nI l → airV (m_nA nP n e0 V 1030 (30 * e + i)) (100 - wsum W (fun i => (W 1003 i).toInt) (i + 1) i - wsum W (fun q => (if nI q = nI p then nI l else (0 : Int32)).toInt) (i + 1) i)
  | 0, e0, V => fun _ _ h1 h2 => absurd h2 (by omega)
  | n + 1, e0, V => fun g2 g3 h1 h2 g7 g8 => by
    have hn := h.1.1
    rw [m_nA]
    by_cases he : e = e0
    · subst he
      rw [m_nA_o n (e + 1) _ (by omega), m_nP_at nP 0 _ (by omega) (by omega), g7, g8]
      exact airB_V h g2 g3 hp hl hi
    · refine e_nA h hi hp hl n (e0 + 1) _ ?_ ?_ (by omega) (by omega) ?_ ?_
      · rw [m_nP_ne (by decide), m_airB_ne (by decide)]
        exact g2
      · rw [m_nP_ne (by decide), m_airB_ne (by decide)]
        exact g3
      · rw [m_nP_ne (by decide), m_airB_ne (by decide)]
        exact g7
      · rw [m_nP_ne (by decide), m_airB_ne (by decide)]
        exact g8
theorem e_airE {c nP nD : Nat} {U W : Mv} {K I : Mj} {R : Mr} (h : rl c nP nD U W K I R) {e i p l : Nat} (hi : i < nP) (hp : p < nP) (hl : l ≤ 60) (h5 : U 5 e = nI p) (h6 : U 6 e = nI l) : airV (x_airE U (100 + i) e) (100 - wsum W (fun i => (W 1003 i).toInt) (i + 1) i - wsum W (fun q => (if nI q = nI p then nI l else (0 : Int32)).toInt) (i + 1) i) := by
  have hn := h.1.1
  have hls := rl_loss h (i + 1) i (by omega) hi
  have b1 := wsum_b hn (rl_way h) (B := 50) (rl_w3 h) (i + 1) i (by omega) hi
  have o := ow_l (l := l) hn (rl_way h) (p := p) (by omega) (by omega) (i + 1) i (by omega) hi
  have f := rl_fed h (p := p) (by omega) (i + 1) i (by omega) hi
  have z : (0 : Int32).toInt = 0 := by decide
  have hll := nI_toInt (n := l) (by omega)
  rw [x_airE, h5, h6]
  have hq : (if x_fed U (100 + i) (nI p) then nI l else (0 : Int32)).toInt = wsum W (fun q => (if nI q = nI p then nI l else (0 : Int32)).toInt) (i + 1) i := by
    rcases o with ⟨o1, o2⟩ | ⟨o1, o2⟩
    · rw [if_neg (fun q => q (f.mpr o1)), o2, z]
    · rw [if_pos (fun q => by have := f.mp q; omega), o2, hll]
  have hq2 : 0 ≤ (if x_fed U (100 + i) (nI p) then nI l else (0 : Int32)).toInt ∧ (if x_fed U (100 + i) (nI p) then nI l else (0 : Int32)).toInt ≤ 1800 := by
    split <;> omega
  have r := air0_V (u := U (100 + i) 2) (q := if x_fed U (100 + i) (nI p) then nI l else (0 : Int32)) (by omega) hq2
  rw [hq, hls] at r
  exact r
theorem airV_in {v : Int32} {A : Int} (h : airV v A) (hA : A ≤ 100) : inx 101 v := by
  refine ⟨?_, ?_⟩
  · rcases h with h | h <;> omega
  · show _ < (101 : Int)
    rcases h with h | h <;> omega
