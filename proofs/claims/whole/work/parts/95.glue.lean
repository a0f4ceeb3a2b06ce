/-! ===== one call of both: the class's memory lies under 1000, the reference's from 1000 on ===== -/
theorem glue {P : Prop} {c c' nP nD : Nat} {V V1 V2 : Mv} {J J1 J2 : Mj} {R : Mr} (h : rl c nP nD V V J J R) (hx : ∀ k, 1000 ≤ k → V1 k = V k) (hxj : J1 1000 = J 1000) (hm : ∀ k, k < 1000 → V2 k = V1 k) (hmj : J2 3 = J1 3) (hc : c' ≤ c + 1) (E : rl c nP nD V V1 J J1 R → P ∧ rl c' nP nD V1 V2 J1 J2 R) : P ∧ rl (c + 1) nP nD V2 V2 J2 J2 R := by
  have h30 := h.1.1
  have h40 := h.1.2.1
  have h1 : rl c nP nD V V1 J J1 R := rl_in (fun _ _ => rfl) (fun k hk => hx k (by omega)) rfl hxj (fun _ _ => rfl) h
  obtain ⟨e1, e2⟩ := E h1
  exact ⟨e1, rl_up hc (rl_in (fun k hk => hm k (by omega)) (fun _ _ => rfl) hmj rfl (fun _ _ => rfl) e2)⟩
theorem u0_lo {V : Mv} {x : Int32} : ∀ k, k < 1000 → u2 V 1000 0 x k = V k := fun k hk => u2_ne (by omega)
theorem id_hi {V : Mv} : ∀ k, 1000 ≤ k → V k = V k := fun _ _ => rfl
/-! the class's calls leave the reference's memory -/
theorem xf_leak {V : Mv} {nP : Nat} {x v : Int32} (hn : nP ≤ 30) : ∀ k, 1000 ≤ k → x_leakV V nP x v k = V k := fun k hk => by
  rw [x_leakV]
  by_cases hx : inx nP x
  · have := (inx_c hx).1
    rw [if_pos hx]
    split
    · rw [u2_ne (by omega)]
    · rfl
  · rw [if_neg hx]
theorem xf_drift {V : Mv} {v : Int32} : ∀ k, 1000 ≤ k → x_driftV V v k = V k := fun k hk => by
  rw [x_driftV]
  split
  · rw [u2_ne (by omega)]
  · rfl
theorem xf_look {V : Mv} {nD : Nat} {x : Int32} (hn : nD ≤ 40) : ∀ k, 1000 ≤ k → x_lookV V nD x k = V k := fun k hk => by
  rw [x_lookV]
  by_cases hx : inx nD x
  · have := (inx_c hx).1
    rw [if_pos hx, x_known, u2_ne (by omega), u2_ne (by omega)]
  · rw [if_neg hx]
theorem xf_put {V : Mv} {nD : Nat} {x v : Int32} (hn : nD ≤ 40) : ∀ k, 1000 ≤ k → x_putV V nD x v k = V k := fun k hk => by
  rw [x_putV]
  by_cases hx : inx nD x
  · have := (inx_c hx).1
    rw [if_pos hx]
    split
    · rfl
    · split
      · rw [x_putOn, u2_ne (by omega), u2_ne (by omega)]
      · rfl
  · rw [if_neg hx]
theorem xf_right {V : Mv} {nD : Nat} {x : Int32} (hn : nD ≤ 40) : ∀ k, 1000 ≤ k → x_rightV V nD x k = V k := fun k hk => by
  rw [x_rightV]
  by_cases hx : inx nD x
  · have := (inx_c hx).1
    rw [if_pos hx, x_right_ne (by omega)]
  · rw [if_neg hx]
theorem xf_puffL {R : Mr} {k : Nat} : ∀ n i V a, (k < 200 + i ∨ 200 + i + n ≤ k) → (x_puffL R n i V a).1 k = V k
  | 0, _, _, _ => fun _ => rfl
  | n + 1, i, V, a => fun h => by rw [x_puffL, xf_puffL n (i + 1) _ _ (by omega), x_puff_ne (by omega)]
theorem xf_puff {V : Mv} {R : Mr} {nD : Nat} (hn : nD ≤ 40) : ∀ k, 1000 ≤ k → x_puffRV V R nD k = V k := fun k hk => by
  rw [x_puffRV]
  split
  · rw [u2_ne (by omega), xf_puffL nD 0 _ _ (by omega), u2_ne (by omega)]
  · rfl
theorem xf_puffJ {V : Mv} {J : Mj} : x_puffRJ V J 1000 = J 1000 := by
  rw [x_puffRJ]
  split
  · rw [u2_ne (by decide), u2_ne (by decide)]
  · rfl
theorem xf_roundL {nD k : Nat} (hn : nD ≤ 40) (hk : 1000 ≤ k) : ∀ n V a, (x_roundL nD n V a).1 k = V k
  | 0, _, _ => rfl
  | n + 1, V, a => by
    rw [x_roundL]
    cases hm : x_mw V nD 0 none 0 with
    | none => rfl
    | some d =>
      obtain ⟨j, hj, rfl⟩ := x_mw_dial hm
      show (x_roundL nD n (x_right V (200 + j)) (a + 1)).1 k = V k
      rw [xf_roundL hn hk n, x_right_ne (by omega)]
theorem xf_round {V : Mv} {nD : Nat} {x : Int32} (hn : nD ≤ 40) : ∀ k, 1000 ≤ k → x_roundV V nD x k = V k := fun k hk => by
  rw [x_roundV]
  split
  · rw [xf_roundL hn hk]
  · rfl
theorem xf_mark {V : Mv} {nD : Nat} {x v : Int32} (hn : nD ≤ 40) : ∀ k, 1000 ≤ k → x_markV V nD x v k = V k := fun k hk => by
  rw [x_markV]
  by_cases hx : inx nD x
  · have := (inx_c hx).1
    rw [if_pos hx]
    split
    · rw [u2_ne (by omega)]
    · rfl
  · rw [if_neg hx]
theorem xf_expl {V : Mv} {R : Mr} {nP nD : Nat} {v : Int32} : ∀ k, 1000 ≤ k → x_explV V R nP nD v k = V k := fun k hk => by
  rw [x_explV]
  split
  · rw [x_find_ne (by omega) (by omega) (by omega), u2_ne (by omega)]
  · rfl
theorem xf_next {V : Mv} {R : Mr} {nP nD : Nat} : ∀ k, 1000 ≤ k → x_nextV V R nP nD k = V k := fun k hk => by
  rw [x_nextV]
  split
  · rw [x_nextL_ne (by omega), x_find_ne (by omega) (by omega) (by omega), u2_ne (by omega)]
  · rw [x_find_ne (by omega) (by omega) (by omega), u2_ne (by omega)]
theorem xf_app {w : Int64} {k : Nat} (hk : 1000 ≤ k) : ∀ n t V, x_app w n t V k = V k
  | 0, _, _ => rfl
  | n + 1, t, V => by rw [x_app, xf_app hk n, u2_ne (by omega), u2_ne (by omega)]
theorem xf_feed {V : Mv} {n : Int32} {w : Int64} {L : Nat} : ∀ k, 1000 ≤ k → x_feedV V n w L k = V k := fun k hk => by
  rw [x_feedV]
  split
  · split
    · rw [xf_app hk]
    · rfl
  · rfl
theorem xf_ct {V : Mv} {nD : Nat} {F : Mv × Int32} (hF : F = x_tape V nD) (hn : nD ≤ 40) : ∀ k, 1000 ≤ k → x_ctV F nD k = V k := fun k hk => by
  have e : F.1 k = V k := by rw [hF]; exact x_tape_ne (by omega) (by omega) (by omega) (by omega) (by omega)
  rw [x_ctV]
  split
  · rw [u2_ne (by omega), e]
  · rw [x_pf_ne nD 0 _ (by omega), u2_ne (by omega), e]
theorem xf_beg {V : Mv} {a : Int32} {k : Nat} (hk : 1000 ≤ k) : x_beg V a k = V k := x_beg_ne (by omega) (by omega)
theorem xf_w {V : Mv} {j k : Nat} (hk : 1000 ≤ k) : x_wV V j k = V k := by
  rw [x_wV]
  split
  · rw [xf_beg hk, xf_beg hk]
  · split
    · rw [xf_beg hk, xf_beg hk, xf_beg hk]
    · split
      · rw [xf_beg hk, xf_beg hk]
      · rw [xf_beg hk]
theorem xf_m {V : Mv} {j k : Nat} (hk : 1000 ≤ k) : x_mV V j k = V k := by
  rw [x_mV]
  split
  · rw [xf_w hk, xf_beg hk, xf_beg hk]
  · split
    · rw [xf_w hk, xf_beg hk, xf_beg hk]
    · split
      · rw [xf_beg hk, xf_beg hk]
      · rw [xf_beg hk]
theorem xf_ask {V : Mv} {nD : Nat} {x v : Int32} : ∀ k, 1000 ≤ k → x_askV V nD x v k = V k := fun k hk => by
  rw [x_askV]
  split
  · split
    · split
      · rw [xf_w hk, u2_ne (by omega)]
      · rw [xf_m hk, u2_ne (by omega)]
    · rfl
  · rfl
/-! the reference's calls leave the class's memory -/
theorem mf_leak {V : Mv} {nP : Nat} {x v : Int32} : ∀ k, k < 1000 → m_leakV V nP x v k = V k := fun k hk => by
  rw [m_leakV]
  split
  · split
    · rw [u2_ne (by omega), u2_ne (by omega)]
    · rw [u2_ne (by omega)]
  · rw [u2_ne (by omega)]
theorem mf_told {V : Mv} {nP : Nat} {x v : Int32} : ∀ k, k < 1000 → m_toldV V nP x v k = V k := fun k hk => by
  rw [m_toldV]
  split
  · split
    · rw [m_air_ne6 (by omega), u2_ne (by omega)]
    · rw [u2_ne (by omega)]
  · rw [u2_ne (by omega)]
theorem mf_drift {V : Mv} {v : Int32} : ∀ k, k < 1000 → m_driftV V v k = V k := fun k hk => by
  rw [m_driftV]
  split
  · rw [u2_ne (by omega), u2_ne (by omega)]
  · rw [u2_ne (by omega)]
theorem mf_look {V : Mv} {nD : Nat} {x : Int32} : ∀ k, k < 1000 → m_lookV V nD x k = V k := fun k hk => by
  rw [m_lookV]
  split
  · rw [u2_ne (by omega), u2_ne (by omega), u2_ne (by omega)]
  · rw [u2_ne (by omega)]
theorem mf_put {V : Mv} {nD : Nat} {x v : Int32} : ∀ k, k < 1000 → m_putV V nD x v k = V k := fun k hk => by
  rw [m_putV]
  split
  · split
    · split
      · rw [u2_ne (by omega)]
      · rw [u2_ne (by omega), u2_ne (by omega), u2_ne (by omega)]
    · rw [u2_ne (by omega)]
  · rw [u2_ne (by omega)]
theorem mf_rt {V : Mv} {t k : Nat} (hk : k < 1000) : m_rt V t k = V k := by rw [m_rt, u2_ne (by omega), u2_ne (by omega), u2_ne (by omega), u2_ne (by omega)]
theorem mf_right {V : Mv} {nD : Nat} {x : Int32} : ∀ k, k < 1000 → m_rightV V nD x k = V k := fun k hk => by
  rw [m_rightV]
  split
  · rw [mf_rt hk, u2_ne (by omega)]
  · rw [u2_ne (by omega)]
theorem mf_puffL {k : Nat} (hk : k < 1000) : ∀ n i V a, (m_puffL n i V a).1 k = V k
  | 0, _, _, _ => rfl
  | n + 1, i, V, a => by
    rw [m_puffL, mf_puffL hk n]
    exact funext fun j => m_st_ne (by omega)
theorem mf_puff {V : Mv} {nP nD : Nat} : ∀ k, k < 1000 → m_puffRV V nP nD k = V k := fun k hk => by
  rw [m_puffRV]
  split
  · rw [u2_ne (by omega)]
  · rw [mf_puffL hk, m_air_ne6 (by omega), u2_ne (by omega), u2_ne (by omega)]
theorem mf_puffJ {V : Mv} {J : Mj} : m_puffRJ V J 3 = J 3 := by
  rw [m_puffRJ]
  split
  · rfl
  · rw [u2_ne (by decide)]
theorem mf_roundL {nD k : Nat} (hk : k < 1000) : ∀ n V a, (m_roundL nD n V a).1 k = V k
  | 0, _, _ => rfl
  | n + 1, V, a => by
    rw [m_roundL]
    split
    · rfl
    · rw [mf_roundL hk n, mf_rt hk]
theorem mf_round {V : Mv} {nD : Nat} {x : Int32} : ∀ k, k < 1000 → m_roundV V nD x k = V k := fun k hk => by
  rw [m_roundV]
  split
  · rw [mf_roundL hk, u2_ne (by omega)]
  · rw [u2_ne (by omega)]
theorem mf_mark {V : Mv} {nD : Nat} {x v : Int32} : ∀ k, k < 1000 → m_markV V nD x v k = V k := fun k hk => by
  rw [m_markV]
  split
  · split
    · rw [u2_ne (by omega), u2_ne (by omega)]
    · rw [u2_ne (by omega)]
  · rw [u2_ne (by omega)]
theorem mf_all {V : Mv} {nP nD k : Nat} (hk : k < 1000) : m_all V nP nD k = V k := m_all_ne (by omega) (by omega) (by omega) (by omega) (by omega)
theorem mf_expl {V : Mv} {nP nD : Nat} {v : Int32} : ∀ k, k < 1000 → m_explV V nP nD v k = V k := fun k hk => by
  rw [m_explV]
  split
  · rw [mf_all hk, u2_ne (by omega)]
  · rw [u2_ne (by omega)]
theorem mf_next {V : Mv} {nP nD : Nat} : ∀ k, k < 1000 → m_nextV V nP nD k = V k := fun k hk => by
  rw [m_nextV]
  split
  · rw [mf_all hk, u2_ne (by omega)]
  · split
    · rw [mf_all hk, u2_ne (by omega)]
    · rw [m_nA_ne (by omega) (by omega), mf_all hk, u2_ne (by omega)]
theorem mf_app {w : Int64} {k : Nat} (hk : k < 1000) : ∀ n t V, m_app w n t V k = V k
  | 0, _, _ => rfl
  | n + 1, t, V => by rw [m_app, mf_app hk n, u2_ne (by omega), u2_ne (by omega)]
theorem mf_feed {V : Mv} {n : Int32} {w : Int64} {L : Nat} : ∀ k, k < 1000 → m_feedV V n w L k = V k := fun k hk => by
  rw [m_feedV]
  split
  · split
    · rw [mf_app hk, u2_ne (by omega)]
    · rw [u2_ne (by omega)]
  · rw [u2_ne (by omega)]
theorem mf_ct {V : Mv} {L nD : Nat} : ∀ k, k < 1000 → m_fin (m_ctF V L nD) k = V k := fun k hk => by
  rw [m_fin]
  split
  · rw [m_cf_ne (by omega), ctF_ne (by omega) (by omega)]
  · rw [u2_ne (by omega), ctF_ne (by omega) (by omega)]
theorem mf_bg {V : Mv} {a : Int32} {k : Nat} (hk : k < 1000) : m_bg V a k = V k := m_bg_ne (by omega) (by omega)
theorem mf_w {V : Mv} {j k : Nat} (hk : k < 1000) : m_wV V j k = V k := by
  rw [m_wV]
  split
  · rw [mf_bg hk, mf_bg hk]
  · split
    · rw [mf_bg hk, mf_bg hk, mf_bg hk]
    · split
      · rw [mf_bg hk, mf_bg hk]
      · rw [mf_bg hk]
theorem mf_m {V : Mv} {j k : Nat} (hk : k < 1000) : m_mkV V j k = V k := by
  rw [m_mkV]
  split
  · rw [mf_bg hk, mf_bg hk]
  · split
    · rw [mf_w hk, mf_bg hk, mf_bg hk]
    · split
      · rw [mf_w hk, mf_bg hk, mf_bg hk]
      · rw [mf_bg hk]
theorem mf_ask {V : Mv} {nD : Nat} {x v : Int32} : ∀ k, k < 1000 → m_askV V nD x v k = V k := fun k hk => by
  rw [m_askV]
  split
  · split
    · split
      · rw [mf_w hk, u2_ne (by omega), u2_ne (by omega)]
      · rw [mf_m hk, u2_ne (by omega), u2_ne (by omega)]
    · rw [u2_ne (by omega)]
  · rw [u2_ne (by omega)]
theorem mf_pipe {V : Mv} {nP : Nat} {x l t : Int32} : ∀ k, k < 1000 → m_pipeV V nP x l t k = V k := fun k hk => by
  have hc : m_pcoreV V nP x l t k = V k := by
    rw [m_pcoreV]
    split
    · split
      · split
        · rw [u2_ne (by omega)]
        · rw [u2_ne (by omega), u2_ne (by omega), u2_ne (by omega), u2_ne (by omega), u2_ne (by omega), u2_ne (by omega)]
      · rw [u2_ne (by omega)]
    · rw [u2_ne (by omega)]
  rw [m_pipeV]
  split
  · exact hc
  · split
    · exact hc
    · rw [u2_ne (by omega)]
theorem mf_dial {V : Mv} {nP nD : Nat} {x l t : Int32} : ∀ k, k < 1000 → m_dialV V nP nD x l t k = V k := fun k hk => by
  rw [m_dialV]
  split
  · split
    · split
      · split
        · rw [u2_ne (by omega)]
        · rw [u2_ne (by omega), u2_ne (by omega), u2_ne (by omega), u2_ne (by omega), u2_ne (by omega)]
      · rw [u2_ne (by omega)]
    · rw [u2_ne (by omega)]
  · rw [u2_ne (by omega)]
/-- what the reference's contracts ask for -/
theorem rl_on {c nP nD : Nat} {U W : Mv} {K I : Mj} {R : Mr} (h : rl c nP nD U W K I R) : ∀ d, d < nD → inx nP (W 1008 d) := fun d hd => by
  obtain ⟨⟨i, hi, -, h8⟩, -⟩ := h.2.2.1 d hd
  have h8 : W 1008 d = nI i := h8
  rw [h8]
  exact inx_n hi (by have := h.1.1; omega)
theorem rl_bod {c nP nD : Nat} {U W : Mv} {K I : Mj} {R : Mr} (h : rl c nP nD U W K I R) : ∃ nT, nT ≤ 16 ∧ U 14 1 = nI nT := by
  obtain ⟨n, h1, h2, -⟩ := h.2.2.2.2.2.2.2.2
  exact ⟨n, h1, h2⟩
theorem rl_len {c nP nD : Nat} {U W : Mv} {K I : Mj} {R : Mr} (h : rl c nP nD U W K I R) : ∃ L, L ≤ 300 ∧ U 8 1 = nI L := by
  obtain ⟨n, h1, h2, -⟩ := h.2.2.2.2.2.2.2.1
  exact ⟨n, h1, h2⟩
