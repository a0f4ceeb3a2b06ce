def dlP (c nP : Nat) (r : Option Nat) (a b : Nat → Int32) : Prop :=
  (∃ i, i < nP ∧ r = some (100 + i) ∧ b 1008 = nI i) ∧ (a 1 = b 1009 ∧ 1 ≤ b 1009 ∧ b 1009 ≤ 100) ∧ (a 2 = b 1010 ∧ (b 1010 = 0 ∨ b 1010 = 1 ∨ b 1010 = 2)) ∧ (a 3 = b 1011 ∧ -(60 * (c : Int)) ≤ (b 1011).toInt ∧ (b 1011).toInt ≤ 60 * (c : Int)) ∧ (a 4 = b 1013 ∧ a 5 = b 1014 ∧ a 6 = b 1012) ∧ (a 7 = b 1016 ∧ (b 1016 = 0 ∨ b 1016 = 1)) ∧ (b 1015 = 0 ∨ b 1015 = 1) ∧ (a 8 = b 1017 ∧ (b 1017 = 0 ∨ (b 1017 = 1 ∧ a 10 = b 1018) ∨ (b 1017 = 2 ∧ a 10 = b 1018) ∨ (b 1017 = 3 ∧ a 9 = b 1018 ∧ a 10 = b 1019))) ∧ a 11 = b 1020
def rpP (U W : Mv) (R : Mr) (i : Nat) : Prop :=
  U (100 + i) 0 = nI i ∧ U (100 + i) 5 = W 1005 i ∧ (0 ≤ W 1003 i ∧ W 1003 i ≤ 50) ∧ (0 ≤ W 1004 i ∧ W 1004 i ≤ 20) ∧ (0 ≤ W 1005 i ∧ W 1005 i ≤ 60) ∧
  ((W 1002 i = -1000000 ∧ R (100 + i) 1 = none ∧ U (100 + i) 2 = W 1003 i ∧ U (100 + i) 3 = W 1004 i ∧ U (100 + i) 4 = (1 : Int32) <<< (nI i &&& 31)) ∨
    ∃ j, j < i ∧ W 1002 i = nI j ∧ R (100 + i) 1 = some (100 + j) ∧ U (100 + i) 2 = W 1003 i + U (100 + j) 2 ∧ U (100 + i) 3 = W 1004 i + U (100 + j) 3 ∧ U (100 + i) 4 = ((1 : Int32) <<< (nI i &&& 31)) ||| U (100 + j) 4)
def rG (U W : Mv) (K I : Mj) : Prop := U 3 0 = W 1000 21 ∧ (0 ≤ W 1000 21 ∧ W 1000 21 ≤ 100000) ∧ (0 ≤ W 1000 24 ∧ W 1000 24 ≤ W 1000 21) ∧ U 3 1 = W 1000 22 ∧ U 3 3 = W 1000 25 ∧ K 3 2 = I 1000 23 ∧ K 3 4 = (W 1000 21 - W 1000 24).toInt64
def rT (U W : Mv) : Prop := ∃ L, L ≤ 300 ∧ U 8 1 = nI L ∧ W 1000 32 = nI L ∧ ∀ t, t < L → inx 256 (W 1031 t) ∧ U 9 t = (W 1031 t).toInt8.toInt32
def rB (U W : Mv) : Prop := ∃ n, n ≤ 16 ∧ U 14 1 = nI n ∧ W 1000 47 = nI n ∧ ∀ t, t < n → U 15 t = W 1046 t
def mis (W : Mv) (nD : Nat) : Int32 := lpI (fun i a => if W 1015 i = 0 then a else a + 1) nD 0 0
/-- class (memory U, K) and reference (memory W, I) stand for the same town, after c calls -/
def rl (c nP nD : Nat) (U W : Mv) (K I : Mj) (R : Mr) : Prop :=
  (nP ≤ 30 ∧ nD ≤ 40 ∧ U 1 2 = nI nP ∧ U 2 2 = nI nD ∧ W 1000 1 = nI nP ∧ W 1000 7 = nI nD) ∧ (∀ i, i < nP → rpP U W R i) ∧ (∀ d, d < nD → dlP c nP (R (200 + d) 0) (U (200 + d)) (fun k => W k d)) ∧ (∀ d, nD ≤ d → d < 40 → ∀ k, 1011 ≤ k → k ≤ 1020 → W k d = 0) ∧ rG U W K I ∧ U 0 7 = mis W nD ∧ U 10 5 = W 1000 33 ∧ rT U W ∧ rB U W
/-- what the relation reads of the class's memory -/
abbrev xsc (k j : Nat) : Prop := ¬ (4 ≤ k ∧ k ≤ 7) ∧ ¬ (k = 8 ∧ j ≠ 1) ∧ ¬ (11 ≤ k ∧ k ≤ 13) ∧ ¬ (k = 10 ∧ j ≠ 5) ∧ k < 1000
abbrev msc (k j : Nat) : Prop := ¬ (k = 1000 ∧ (j = 0 ∨ j = 26 ∨ (34 ≤ j ∧ j ≤ 41))) ∧ k ≠ 1006 ∧ ¬ (1027 ≤ k ∧ k ≤ 1030) ∧ ¬ (1042 ≤ k ∧ k ≤ 1045) ∧ 1000 ≤ k
theorem rpP_ag {U U' W W' : Mv} {R : Mr} {i : Nat} (hi : i < 30) (e : ∀ q, q < 30 → ∀ j, U' (100 + q) j = U (100 + q) j) (f2 : W' 1002 i = W 1002 i) (f3 : W' 1003 i = W 1003 i) (f4 : W' 1004 i = W 1004 i) (f5 : W' 1005 i = W 1005 i) (h : rpP U W R i) : rpP U' W' R i := by
  obtain ⟨h0, h5, h3, h4, h6, hp⟩ := h
  refine ⟨by rw [e i hi]; exact h0, by rw [e i hi, f5]; exact h5, by rw [f3]; exact h3, by rw [f4]; exact h4, by rw [f5]; exact h6, ?_⟩
  rcases hp with ⟨p1, p2, p3, p4, p5⟩ | ⟨j, p0, p1, p2, p3, p4, p5⟩
  · exact Or.inl ⟨by rw [f2]; exact p1, p2, by rw [e i hi, f3]; exact p3, by rw [e i hi, f4]; exact p4, by rw [e i hi]; exact p5⟩
  · have hj : j < 30 := by omega
    exact Or.inr ⟨j, p0, by rw [f2]; exact p1, p2, by rw [e i hi, e j hj, f3]; exact p3, by rw [e i hi, e j hj, f4]; exact p4, by rw [e i hi, e j hj]; exact p5⟩
theorem dlP_ag {c nP : Nat} {r : Option Nat} {a a' b b' : Nat → Int32} (ha : ∀ j, a' j = a j) (hb : ∀ k, 1008 ≤ k → k ≤ 1020 → b' k = b k) (h : dlP c nP r a b) : dlP c nP r a' b' := by
  have e : a' = a := funext ha
  subst e
  unfold dlP at h ⊢
  rw [hb 1008 (by decide) (by decide), hb 1009 (by decide) (by decide), hb 1010 (by decide) (by decide), hb 1011 (by decide) (by decide), hb 1012 (by decide) (by decide), hb 1013 (by decide) (by decide), hb 1014 (by decide) (by decide), hb 1015 (by decide) (by decide), hb 1016 (by decide) (by decide), hb 1017 (by decide) (by decide), hb 1018 (by decide) (by decide), hb 1019 (by decide) (by decide), hb 1020 (by decide) (by decide)]
  exact h
theorem dlP_up {c c' nP : Nat} {r : Option Nat} {a b : Nat → Int32} (hc : c ≤ c') (h : dlP c nP r a b) : dlP c' nP r a b := by
  obtain ⟨h1, h2, h3, ⟨h4, h5, h6⟩, h7⟩ := h
  exact ⟨h1, h2, h3, ⟨h4, by omega, by omega⟩, h7⟩
theorem rl_up {c c' nP nD : Nat} {U W : Mv} {K I : Mj} {R : Mr} (hc : c ≤ c') (h : rl c nP nD U W K I R) : rl c' nP nD U W K I R := by
  obtain ⟨h1, h2, h3, h4⟩ := h
  exact ⟨h1, h2, fun d hd => dlP_up hc (h3 d hd), h4⟩
theorem rG_ag {U U' W W' : Mv} {K I : Mj} (hU : ∀ j, U' 3 j = U 3 j) (hW : ∀ j, 21 ≤ j → j ≤ 25 → W' 1000 j = W 1000 j) (h : rG U W K I) : rG U' W' K I := by
  unfold rG at h ⊢
  rw [hU, hU, hU, hW 21 (by decide) (by decide), hW 22 (by decide) (by decide), hW 24 (by decide) (by decide), hW 25 (by decide) (by decide)]
  exact h
theorem rT_ag {U U' W W' : Mv} (h1 : U' 8 1 = U 8 1) (h9 : ∀ j, U' 9 j = U 9 j) (hW : W' 1000 32 = W 1000 32) (h31 : ∀ j, W' 1031 j = W 1031 j) (h : rT U W) : rT U' W' := by
  obtain ⟨L, hL, a1, a2, a3⟩ := h
  exact ⟨L, hL, by rw [h1]; exact a1, by rw [hW]; exact a2, fun t ht => by rw [h31, h9]; exact a3 t ht⟩
theorem rB_ag {U U' W W' : Mv} (h1 : U' 14 1 = U 14 1) (h9 : ∀ j, U' 15 j = U 15 j) (hW : W' 1000 47 = W 1000 47) (h31 : ∀ j, W' 1046 j = W 1046 j) (h : rB U W) : rB U' W' := by
  obtain ⟨L, hL, a1, a2, a3⟩ := h
  exact ⟨L, hL, by rw [h1]; exact a1, by rw [hW]; exact a2, fun t ht => by rw [h31, h9]; exact a3 t ht⟩
theorem mis_ag {W W' : Mv} {nD : Nat} (h : ∀ j, W' 1015 j = W 1015 j) : mis W' nD = mis W nD := by
  have e : W' 1015 = W 1015 := funext h
  rw [mis, mis, e]
theorem rl_ag {c nP nD : Nat} {U U' W W' : Mv} {K I : Mj} {R : Mr} (hU : ∀ k j, xsc k j → U' k j = U k j) (hW : ∀ k j, msc k j → W' k j = W k j) (h : rl c nP nD U W K I R) : rl c nP nD U' W' K I R := by
  obtain ⟨⟨h1, h2, h3, h4, h5, h6⟩, hP, hD, hZ, hG, hm, hf, hT, hB⟩ := h
  refine ⟨⟨h1, h2, by rw [hU 1 2 (by decide)]; exact h3, by rw [hU 2 2 (by decide)]; exact h4, by rw [hW 1000 1 (by decide)]; exact h5, by rw [hW 1000 7 (by decide)]; exact h6⟩, ?_, ?_, ?_, ?_, ?_, ?_, ?_, ?_⟩
  · intro i hi
    exact rpP_ag (by omega) (fun q hq j => hU _ _ ⟨by omega, by omega, by omega, by omega, by omega⟩) (hW _ _ ⟨by omega, by omega, by omega, by omega, by omega⟩) (hW _ _ ⟨by omega, by omega, by omega, by omega, by omega⟩) (hW _ _ ⟨by omega, by omega, by omega, by omega, by omega⟩) (hW _ _ ⟨by omega, by omega, by omega, by omega, by omega⟩) (hP i hi)
  · intro d hd
    exact dlP_ag (fun j => hU _ _ ⟨by omega, by omega, by omega, by omega, by omega⟩) (fun k h7 h8 => hW _ _ ⟨by omega, by omega, by omega, by omega, by omega⟩) (hD d hd)
  · intro d h7 h8 k h9 h10
    rw [hW _ _ ⟨by omega, by omega, by omega, by omega, by omega⟩]
    exact hZ d h7 h8 k h9 h10
  · exact rG_ag (fun j => hU _ _ ⟨by omega, by omega, by omega, by omega, by omega⟩) (fun j h7 h8 => hW _ _ ⟨by omega, by omega, by omega, by omega, by omega⟩) hG
  · rw [hU 0 7 (by decide), mis_ag (fun j => hW _ _ ⟨by omega, by omega, by omega, by omega, by omega⟩)]
    exact hm
  · rw [hU 10 5 (by decide), hW 1000 33 (by decide)]
    exact hf
  · exact rT_ag (hU _ _ (by decide)) (fun j => hU _ _ ⟨by omega, by omega, by omega, by omega, by omega⟩) (hW _ _ (by decide)) (fun j => hW _ _ ⟨by omega, by omega, by omega, by omega, by omega⟩) hT
  · exact rB_ag (hU _ _ (by decide)) (fun j => hU _ _ ⟨by omega, by omega, by omega, by omega, by omega⟩) (hW _ _ (by decide)) (fun j => hW _ _ ⟨by omega, by omega, by omega, by omega, by omega⟩) hB
theorem rl_0 {c nP nD : Nat} {U W : Mv} {K I : Mj} {R : Mr} {x : Int32} (h : rl c nP nD U W K I R) : rl c nP nD U (u2 W 1000 0 x) K I R :=
  rl_ag (fun _ _ _ => rfl) (fun k j hk => u2_un (by omega)) h
/-- one dial changes -/
theorem rl_dial {c nP nD t : Nat} {U U' W W' : Mv} {K I : Mj} {R : Mr} (ht : t < nD) (hU : ∀ k, k ≠ 200 + t → U' k = U k) (hW : ∀ k j, (k < 1011 ∨ 1020 < k ∨ j ≠ t) → W' k j = W k j) (h15 : W' 1015 t = W 1015 t) (hd : dlP c nP (R (200 + t) 0) (U' (200 + t)) (fun k => W' k t)) (h : rl c nP nD U W K I R) : rl c nP nD U' W' K I R := by
  obtain ⟨⟨h1, h2, h3, h4, h5, h6⟩, hP, hD, hZ, hG, hm, hf, hT, hB⟩ := h
  refine ⟨⟨h1, h2, by rw [hU 1 (by omega)]; exact h3, by rw [hU 2 (by omega)]; exact h4, by rw [hW 1000 1 (by omega)]; exact h5, by rw [hW 1000 7 (by omega)]; exact h6⟩, ?_, ?_, ?_, ?_, ?_, ?_, ?_, ?_⟩
  · intro i hi
    exact rpP_ag (by omega) (fun q hq j => by rw [hU _ (by omega)]) (hW _ _ (by omega)) (hW _ _ (by omega)) (hW _ _ (by omega)) (hW _ _ (by omega)) (hP i hi)
  · intro d hdn
    by_cases hdt : d = t
    · subst hdt
      exact hd
    · exact dlP_ag (fun j => by rw [hU _ (by omega)]) (fun k h7 h8 => hW _ _ (by omega)) (hD d hdn)
  · intro d h7 h8 k h9 h10
    rw [hW _ _ (by omega)]
    exact hZ d h7 h8 k h9 h10
  · exact rG_ag (fun j => by rw [hU _ (by omega)]) (fun j h7 h8 => hW _ _ (by omega)) hG
  · have h16 : ∀ j, W' 1015 j = W 1015 j := fun j => by
      by_cases hj : j = t
      · rw [hj]
        exact h15
      · exact hW _ _ (by omega)
    rw [hU 0 (by omega), mis_ag h16]
    exact hm
  · rw [hU 10 (by omega), hW 1000 33 (by omega)]
    exact hf
  · exact rT_ag (by rw [hU _ (by omega)]) (fun j => by rw [hU _ (by omega)]) (hW _ _ (by omega)) (fun j => hW _ _ (by omega)) hT
  · exact rB_ag (by rw [hU _ (by omega)]) (fun j => by rw [hU _ (by omega)]) (hW _ _ (by omega)) (fun j => hW _ _ (by omega)) hB
theorem rl_d {c nP nD : Nat} {U W : Mv} {K I : Mj} {R : Mr} {x : Int32} (h : rl c nP nD U W K I R) (hx : inx nD x) : dlP c nP (R (200 + x.toNatClampNeg) 0) (U (200 + x.toNatClampNeg)) (fun k => W k x.toNatClampNeg) := h.2.2.1 _ (inx_c hx).1
