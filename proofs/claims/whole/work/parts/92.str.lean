/-! ===== the world's shape over the calls ===== -/
def kdG (k : Nat) : Nat := if k < 16 then xkd k else if k < 100 then 13 else if k < 200 then 4 else if k < 1000 then 1 else if k = 1000 then 9 else mkd (k - 1000)
theorem kdG_x {k : Nat} (h : k < 16) : kdG k = xkd k := by rw [kdG, if_pos h]
theorem kdG_r {k : Nat} (h1 : 16 ≤ k) (h2 : k < 100) : kdG k = 13 := by rw [kdG, if_neg (by omega), if_pos h2]
theorem kdG_p {i : Nat} (h : i < 100) : kdG (100 + i) = 4 := by rw [kdG, if_neg (by omega), if_neg (by omega), if_pos (by omega)]
theorem kdG_d {i : Nat} (h : i < 800) : kdG (200 + i) = 1 := by rw [kdG, if_neg (by omega), if_neg (by omega), if_neg (by omega), if_pos (by omega)]
/-- beside okX: what is there, who refers to the lists' rows, what is free in them -/
def okS (dm : List Nat) (ln : Nat → Nat) (R : Mr) (nP nD : Nat) : Prop :=
  rcl dm R ∧ (∀ k ∈ dm, k < 16 ∨ (k = 16 ∧ 0 < nP) ∨ (k = 17 ∧ 0 < nD) ∨ (100 ≤ k ∧ k < 100 + nP) ∨ (200 ≤ k ∧ k < 200 + nD) ∨ 1000 ≤ k) ∧
  (∀ k ∈ dm, ∀ j, R k j = some 16 → k = 1 ∧ j = 1) ∧ (∀ k ∈ dm, ∀ j, R k j = some 17 → k = 2 ∧ j = 1) ∧
  (nP = 0 → R 1 1 = some 18) ∧ (nD = 0 → R 2 1 = some 18) ∧ (0 < nP → 10 ≤ ln 16 ∧ ∀ i, nP ≤ i → R 16 i = none) ∧ (0 < nD → 10 ≤ ln 17 ∧ ∀ i, nD ≤ i → R 17 i = none)
/-- what isn't there is empty -/
def fz {α : Type} (z : α) (dm : List Nat) (V : Nat → Nat → α) : Nat → Nat → α := fun k => if k ∈ dm then V k else fun _ => z
theorem fz_in {α : Type} {z : α} {dm : List Nat} {V : Nat → Nat → α} {k : Nat} (h : k ∈ dm) : fz z dm V k = V k := if_pos h
theorem fz_out {α : Type} {z : α} {dm : List Nat} {V : Nat → Nat → α} {k : Nat} (h : k ∉ dm) : fz z dm V k = fun _ => z := if_neg h
theorem fz_zat {dm : List Nat} {V : Mv} {J : Mj} {R : Mr} {k : Nat} (h : k ∉ dm) : zat (fz 0 dm V) (fz 0 dm J) (fz none dm R) k := ⟨fz_out h, fz_out h, fz_out h⟩
theorem wok_ag {A : Nat → Prop} {D : va_G} {q : Cq} {dm : List Nat} {kd ln ln' ad : Nat → Nat} {V V' : Mv} {J J' : Mj} {R R' : Mr} {H : Heap} (h : ∀ k ∈ dm, ln' k = ln k ∧ V' k = V k ∧ J' k = J k ∧ R' k = R k) (hW : wok A D q dm kd ln ad V J R H) : wok A D q dm kd ln' ad V' J' R' H := by
  have e : wl q dm kd ln' ad V' J' R' = wl q dm kd ln ad V J R := by
    unfold wl
    apply List.map_congr_left
    intro k hk
    obtain ⟨h1, h2, h3, h4⟩ := h k hk
    rw [ce_all (ad := ad) (ad' := ad) h1 (fun _ _ _ => rfl) h2 h3 h4]
  unfold wok
  rw [e]
  exact hW
theorem okX_ag {dm : List Nat} {kd ln ln' : Nat → Nat} {R R' : Mr} {nP nD : Nat} (h : ∀ k ∈ dm, ln' k = ln k ∧ R' k = R k) (hX : okX dm kd ln R nP nD) : okX dm kd ln' R' nP nD := by
  obtain ⟨h1, h2, h3, h4, h5, h6⟩ := hX
  refine ⟨fun k hk => ?_, h2, fun i hi => ?_, fun j hj => ?_, fun h0 => ?_, fun h0 => ?_⟩
  · obtain ⟨a1, a2, a3, a4⟩ := h1 k hk
    exact ⟨a1, a2, by rw [(h k a1).1]; exact a3, fun j t e => by rw [(h k a1).2]; exact a4 j t e⟩
  · obtain ⟨a1, a2, a3, a4⟩ := h3 i hi
    have := (h5 (by omega)).1
    exact ⟨a1, a2, by rw [(h _ this).2]; exact a3, by rw [(h _ a1).2]; exact a4⟩
  · obtain ⟨a1, a2, a3, a4⟩ := h4 j hj
    have := (h6 (by omega)).1
    exact ⟨a1, a2, by rw [(h _ this).2]; exact a3, by rw [(h _ a1).2]; exact a4⟩
  · obtain ⟨a1, a2, a3, a4, a5⟩ := h5 h0
    exact ⟨a1, a2, by rw [(h _ a1).1]; exact a3, by rw [(h _ a1).1]; exact a4, by rw [(h 1 (h1 1 (by decide)).1).2]; exact a5⟩
  · obtain ⟨a1, a2, a3, a4, a5⟩ := h6 h0
    exact ⟨a1, a2, by rw [(h _ a1).1]; exact a3, by rw [(h _ a1).1]; exact a4, by rw [(h 2 (h1 2 (by decide)).1).2]; exact a5⟩
theorem okM_ag {dm : List Nat} {kd ln ln' : Nat → Nat} {R R' : Mr} (h : ∀ k ∈ dm, ln' k = ln k ∧ R' k = R k) (hM : okM dm kd ln R) : okM dm kd ln' R' :=
  ⟨hM.1, fun j hj => by
    obtain ⟨a1, a2, a3, a4⟩ := hM.2 j hj
    exact ⟨a1, a2, by rw [(h _ a1).1]; exact a3, by rw [(h _ hM.1.1).2]; exact a4⟩⟩
theorem okS_ag {dm : List Nat} {kd ln ln' : Nat → Nat} {R R' : Mr} {nP nD : Nat} (h : ∀ k ∈ dm, ln' k = ln k ∧ R' k = R k) (hX : okX dm kd ln R nP nD) (hS : okS dm ln R nP nD) : okS dm ln' R' nP nD := by
  obtain ⟨s1, s2, s3, s4, s5, s6, s7, s8⟩ := hS
  have m1 := (hX.1 1 (by decide)).1
  have m2 := (hX.1 2 (by decide)).1
  refine ⟨fun k hk j t e => s1 k hk j t (by rw [← (h k hk).2]; exact e), s2, fun k hk j e => s3 k hk j (by rw [← (h k hk).2]; exact e), fun k hk j e => s4 k hk j (by rw [← (h k hk).2]; exact e), fun z => by rw [(h 1 m1).2]; exact s5 z, fun z => by rw [(h 2 m2).2]; exact s6 z, fun z => ?_, fun z => ?_⟩
  · have m := (hX.2.2.2.2.1 z).1
    rw [(h _ m).1, (h _ m).2]
    exact s7 z
  · have m := (hX.2.2.2.2.2 z).1
    rw [(h _ m).1, (h _ m).2]
    exact s8 z
theorem ast_ex {dm : List Nat} {ln : Nat → Nat} {R : Mr} {lst b n t jj : Nat} {o : Option Nat} (htl : t ≠ lst) (htb : t ≠ b) (h0 : n = 0 → b ∉ dm ∧ R lst 1 = some 18 ∧ ln b = 10) (h1 : 0 < n → b ∈ dm ∧ R lst 1 = some b ∧ n ≤ ln b ∧ 10 ≤ ln b) : ∃ dm' ln' R', ast (dm ++ [t]) ln (u2 R t jj o) lst b n dm' ln' R' := by
  by_cases hn : n = 0
  · obtain ⟨a1, a2, a3⟩ := h0 hn
    exact ⟨_, _, _, Or.inl (Or.inl ⟨hn, nmem a1 (Ne.symm htb), by rw [u2_ne (Ne.symm htl)]; exact a2, a3, rfl, rfl, rfl⟩)⟩
  · obtain ⟨a1, a2, a3, a4⟩ := h1 (by omega)
    have e : u2 R t jj o lst 1 = some b := by rw [u2_ne (Ne.symm htl)]; exact a2
    by_cases hlt : n < ln b
    · exact ⟨_, _, _, Or.inr ⟨hlt, mem_l a1, e, rfl, rfl, rfl⟩⟩
    · exact ⟨_, _, _, Or.inl (Or.inr ⟨by omega, mem_l a1, e, by omega, rfl, rfl, rfl⟩)⟩
theorem ast_f {dm dm' : List Nat} {ln ln' : Nat → Nat} {R R' : Mr} {lst b n t jj : Nat} {o : Option Nat} (h : ast (dm ++ [t]) ln (u2 R t jj o) lst b n dm' ln' R') (htl : t ≠ lst) (htb : t ≠ b) (hb : b ∈ dm → 10 ≤ ln b ∧ ln b ≤ 100) (hn : n ≤ 60) : (∀ k, k ∈ dm' ↔ (k ∈ dm ∨ k = t ∨ k = b)) ∧ R' lst 1 = some b ∧ (∀ k j, ¬ (k = lst ∧ j = 1) → R' k j = u2 R t jj o k j) ∧ (∀ k, k ≠ b → ln' k = ln k) ∧ n + 1 ≤ ln' b ∧ 10 ≤ ln' b ∧ ln' b ≤ 100 := by
  have e0 : u2 R t jj o lst 1 = R lst 1 := by rw [u2_ne (Ne.symm htl)]
  have mt : ∀ k, k ∈ dm ++ [t] ↔ (k ∈ dm ∨ k = t) := fun k => by rw [List.mem_append, List.mem_singleton]
  have bin : b ∈ dm ++ [t] → b ∈ dm := fun q => ((mt b).mp q).resolve_right (Ne.symm htb)
  rcases h with (⟨h0, h1, h2, h4, h5, h6, h7⟩ | ⟨h1, h2, h3, h4, h5, h6, h7⟩) | ⟨h1, h2, h3, h4, h5, h6⟩
  · subst h5 h6 h7
    refine ⟨fun k => ?_, u2_ss, fun k j q => u2_un q, fun k _ => rfl, by omega, by omega, by omega⟩
    rw [List.mem_append, mt, List.mem_singleton, or_assoc]
  · subst h5 h6 h7
    have q := hb (bin h2)
    refine ⟨fun k => ?_, h3, fun k j q => rfl, fun k hk => va_up_ne _ _ hk, by rw [va_up_self]; omega, by rw [va_up_self]; omega, by rw [va_up_self]; omega⟩
    rw [mt]
    constructor
    · intro z
      exact z.elim Or.inl (fun z => Or.inr (Or.inl z))
    · rintro (z | z | z)
      · exact Or.inl z
      · exact Or.inr z
      · exact Or.inl (by rw [z]; exact bin h2)
  · subst h4 h5 h6
    have q := hb (bin h2)
    refine ⟨fun k => ?_, h3, fun k j q => rfl, fun k hk => rfl, by omega, by omega, by omega⟩
    rw [mt]
    constructor
    · intro z
      exact z.elim Or.inl (fun z => Or.inr (Or.inl z))
    · rintro (z | z | z)
      · exact Or.inl z
      · exact Or.inr z
      · exact Or.inl (by rw [z]; exact bin h2)
/-- a pipe more -/
theorem grown_p {dm dm' : List Nat} {ln ln' : Nat → Nat} {R R' : Mr} {nP nD : Nat} {o : Option Nat} (hX : okX dm kdG ln R nP nD) (hM : okM dm kdG ln R) (hS : okS dm ln R nP nD) (hnP : nP < 30) (hz : R (100 + nP) = fun _ => none) (hz16 : 16 ∉ dm → R 16 = fun _ => none) (ho : o = none ∨ ∃ j, j < nP ∧ o = some (100 + j)) (ha : ast (dm ++ [100 + nP]) ln (u2 R (100 + nP) 1 o) 1 16 nP dm' ln' R') :
    okX dm' kdG ln' (u2 R' 16 nP (some (100 + nP))) (nP + 1) nD ∧ okM dm' kdG ln' (u2 R' 16 nP (some (100 + nP))) ∧ okS dm' ln' (u2 R' 16 nP (some (100 + nP))) (nP + 1) nD ∧ (∀ k, ((100 ≤ k ∧ k < 100 + nP) ∨ (200 ≤ k ∧ k < 200 + nD)) → u2 R' 16 nP (some (100 + nP)) k = R k) ∧ u2 R' 16 nP (some (100 + nP)) (100 + nP) 1 = o := by
  obtain ⟨x1, x2, x3, x4, x5, x6⟩ := hX
  obtain ⟨s1, s2, s3, s4, s5, s6, s7, s8⟩ := hS
  have b16 : 16 ∈ dm → 10 ≤ ln 16 ∧ ln 16 ≤ 100 := fun q => by
    have hp : 0 < nP := by rcases s2 16 q with z | z | z | z | z | z <;> omega
    exact ⟨(s7 hp).1, (x5 hp).2.2.2.1⟩
  obtain ⟨f1, f2, f3, f4, f5, f6, f7⟩ := ast_f ha (by omega) (by omega) b16 (by omega)
  generalize hR2 : u2 R' 16 nP (some (100 + nP)) = R2
  have r0 : ∀ k j, ¬ (k = 1 ∧ j = 1) → ¬ (k = 16 ∧ j = nP) → ¬ (k = 100 + nP ∧ j = 1) → R2 k j = R k j := fun k j q1 q2 q3 => by rw [← hR2, u2_un q2, f3 k j q1, u2_un q3]
  have r1 : R2 1 1 = some 16 := by rw [← hR2, u2_ne (by decide)]; exact f2
  have r2 : R2 16 nP = some (100 + nP) := by rw [← hR2, u2_ss]
  have r3 : R2 (100 + nP) 1 = o := by rw [← hR2, u2_ne (by omega), f3 _ _ (by omega), u2_ss]
  clear hR2
  have rk : ∀ k, k ≠ 1 → k ≠ 16 → k ≠ 100 + nP → R2 k = R k := fun k q1 q2 q3 => funext fun j => r0 k j (by omega) (by omega) (by omega)
  have m16 : 16 ∈ dm' := (f1 16).mpr (Or.inr (Or.inr rfl))
  have mm : ∀ k, k ∈ dm → k ∈ dm' := fun k hk => (f1 k).mpr (Or.inl hk)
  have n100 : 100 + nP ∉ dm := fun q => by rcases s2 _ q with z | z | z | z | z | z <;> omega
  have e16 : ∀ i, nP ≤ i → R 16 i = none := fun i hi => by
    by_cases hp : 0 < nP
    · exact (s7 hp).2 i hi
    · rw [hz16 (fun q => by rcases s2 16 q with z | z | z | z | z | z <;> omega)]
  refine ⟨⟨fun k hk => ?_, ⟨by omega, x2.2⟩, fun i hi => ?_, fun j hj => ?_, fun _ => ⟨m16, kdG_r (by decide) (by decide), f5, f7, r1⟩, fun h0 => ?_⟩, ⟨⟨mm _ hM.1.1, hM.1.2⟩, fun j hj => ?_⟩, ⟨fun k hk j t e => ?_, fun k hk => ?_, fun k hk j e => ?_, fun k hk j e => ?_, fun q => absurd q (by omega), fun q => ?_, fun _ => ⟨f6, fun i hi => ?_⟩, fun q => ?_⟩, fun k hk => rk k (by omega) (by omega) (by omega), r3⟩
  · obtain ⟨a1, a2, a3, a4⟩ := x1 k hk
    refine ⟨mm k a1, a2, by rw [f4 k (by omega)]; exact a3, fun j t e => ?_⟩
    rw [r0 k j (fun q => by rw [q.1, q.2] at e; have e2 : (none : Option Nat) = some t := e; cases e2) (by omega) (by omega)]
    exact a4 j t e
  · by_cases hin : i = nP
    · subst hin
      refine ⟨(f1 _).mpr (Or.inr (Or.inl rfl)), kdG_p (by omega), r2, ?_⟩
      rw [r3]
      rcases ho with q | ⟨j, q1, q2⟩
      · exact Or.inl q
      · exact Or.inr ⟨j, q1, q2⟩
    · obtain ⟨a1, a2, a3, a4⟩ := x3 i (by omega)
      exact ⟨mm _ a1, a2, by rw [r0 16 i (by omega) (by omega) (by omega)]; exact a3, by rw [rk _ (by omega) (by omega) (by omega)]; exact a4⟩
  · obtain ⟨a1, a2, a3, i, a4, a5⟩ := x4 j hj
    exact ⟨mm _ a1, a2, by rw [rk 17 (by omega) (by omega) (by omega)]; exact a3, i, by omega, by rw [rk _ (by omega) (by omega) (by omega)]; exact a5⟩
  · obtain ⟨a1, a2, a3, a4, a5⟩ := x6 h0
    exact ⟨mm _ a1, a2, by rw [f4 17 (by omega)]; exact a3, by rw [f4 17 (by omega)]; exact a4, by rw [rk 2 (by omega) (by omega) (by omega)]; exact a5⟩
  · obtain ⟨a1, a2, a3, a4⟩ := hM.2 j hj
    exact ⟨mm _ a1, a2, by rw [f4 _ (by omega)]; exact a3, by rw [rk 1000 (by omega) (by omega) (by omega)]; exact a4⟩
  · by_cases q1 : k = 1 ∧ j = 1
    · rw [q1.1, q1.2, r1] at e
      cases e
      exact Or.inl m16
    · by_cases q2 : k = 16 ∧ j = nP
      · rw [q2.1, q2.2, r2] at e
        cases e
        exact Or.inl ((f1 _).mpr (Or.inr (Or.inl rfl)))
      · by_cases q3 : k = 100 + nP ∧ j = 1
        · rw [q3.1, q3.2, r3] at e
          rcases ho with z | ⟨i, z1, z2⟩
          · rw [z] at e; cases e
          · rw [z2] at e
            cases e
            exact Or.inl (mm _ (x3 i z1).1)
        · rw [r0 k j q1 q2 q3] at e
          rcases (f1 k).mp hk with z | z | z
          · exact (s1 k z j t e).imp (mm t) id
          · rw [z, hz] at e; cases e
          · by_cases z2 : k ∈ dm
            · exact (s1 k z2 j t e).imp (mm t) id
            · rw [z, hz16 (by rw [← z]; exact z2)] at e; cases e
  · rcases (f1 k).mp hk with z | z | z
    · rcases s2 k z with y | y | y | y | y | y <;> omega
    · omega
    · omega
  · by_cases q1 : k = 1 ∧ j = 1
    · exact q1
    · by_cases q2 : k = 16 ∧ j = nP
      · rw [q2.1, q2.2, r2] at e
        have := Option.some.inj e
        omega
      · by_cases q3 : k = 100 + nP ∧ j = 1
        · rw [q3.1, q3.2, r3] at e
          rcases ho with z | ⟨i, z1, z2⟩
          · rw [z] at e; cases e
          · rw [z2] at e
            have := Option.some.inj e
            omega
        · rw [r0 k j q1 q2 q3] at e
          rcases (f1 k).mp hk with z | z | z
          · exact s3 k z j e
          · rw [z, hz] at e; cases e
          · by_cases z2 : k ∈ dm
            · exact s3 k z2 j e
            · rw [z, hz16 (by rw [← z]; exact z2)] at e; cases e
  · by_cases q1 : k = 1 ∧ j = 1
    · rw [q1.1, q1.2, r1] at e
      have := Option.some.inj e
      omega
    · by_cases q2 : k = 16 ∧ j = nP
      · rw [q2.1, q2.2, r2] at e
        have := Option.some.inj e
        omega
      · by_cases q3 : k = 100 + nP ∧ j = 1
        · rw [q3.1, q3.2, r3] at e
          rcases ho with z | ⟨i, z1, z2⟩
          · rw [z] at e; cases e
          · rw [z2] at e
            have := Option.some.inj e
            omega
        · rw [r0 k j q1 q2 q3] at e
          rcases (f1 k).mp hk with z | z | z
          · exact s4 k z j e
          · rw [z, hz] at e; cases e
          · by_cases z2 : k ∈ dm
            · exact s4 k z2 j e
            · rw [z, hz16 (by rw [← z]; exact z2)] at e; cases e
  · rw [rk 2 (by omega) (by omega) (by omega)]
    exact s6 q
  · rw [r0 16 i (by omega) (by omega) (by omega)]
    exact e16 i (by omega)
  · rw [f4 17 (by omega), rk 17 (by omega) (by omega) (by omega)]
    exact s8 q
/-- a dial more -/
theorem grown_d {dm dm' : List Nat} {ln ln' : Nat → Nat} {R R' : Mr} {nP nD i0 : Nat} (hX : okX dm kdG ln R nP nD) (hM : okM dm kdG ln R) (hS : okS dm ln R nP nD) (hnD : nD < 40) (hz : R (200 + nD) = fun _ => none) (hz17 : 17 ∉ dm → R 17 = fun _ => none) (hi0 : i0 < nP) (ha : ast (dm ++ [200 + nD]) ln (u2 R (200 + nD) 0 (some (100 + i0))) 2 17 nD dm' ln' R') :
    okX dm' kdG ln' (u2 R' 17 nD (some (200 + nD))) nP (nD + 1) ∧ okM dm' kdG ln' (u2 R' 17 nD (some (200 + nD))) ∧ okS dm' ln' (u2 R' 17 nD (some (200 + nD))) nP (nD + 1) ∧ (∀ k, ((100 ≤ k ∧ k < 100 + nP) ∨ (200 ≤ k ∧ k < 200 + nD)) → u2 R' 17 nD (some (200 + nD)) k = R k) ∧ u2 R' 17 nD (some (200 + nD)) (200 + nD) 0 = some (100 + i0) := by
  obtain ⟨x1, x2, x3, x4, x5, x6⟩ := hX
  obtain ⟨s1, s2, s3, s4, s5, s6, s7, s8⟩ := hS
  have hP30 := x2.1
  have b17 : 17 ∈ dm → 10 ≤ ln 17 ∧ ln 17 ≤ 100 := fun q => by
    have hp : 0 < nD := by rcases s2 17 q with z | z | z | z | z | z <;> omega
    exact ⟨(s8 hp).1, (x6 hp).2.2.2.1⟩
  obtain ⟨f1, f2, f3, f4, f5, f6, f7⟩ := ast_f ha (by omega) (by omega) b17 (by omega)
  generalize hR2 : u2 R' 17 nD (some (200 + nD)) = R2
  have r0 : ∀ k j, ¬ (k = 2 ∧ j = 1) → ¬ (k = 17 ∧ j = nD) → ¬ (k = 200 + nD ∧ j = 0) → R2 k j = R k j := fun k j q1 q2 q3 => by rw [← hR2, u2_un q2, f3 k j q1, u2_un q3]
  have r1 : R2 2 1 = some 17 := by rw [← hR2, u2_ne (by decide)]; exact f2
  have r2 : R2 17 nD = some (200 + nD) := by rw [← hR2, u2_ss]
  have r3 : R2 (200 + nD) 0 = some (100 + i0) := by rw [← hR2, u2_ne (by omega), f3 _ _ (by omega), u2_ss]
  clear hR2
  have rk : ∀ k, k ≠ 2 → k ≠ 17 → k ≠ 200 + nD → R2 k = R k := fun k q1 q2 q3 => funext fun j => r0 k j (by omega) (by omega) (by omega)
  have m17 : 17 ∈ dm' := (f1 17).mpr (Or.inr (Or.inr rfl))
  have mm : ∀ k, k ∈ dm → k ∈ dm' := fun k hk => (f1 k).mpr (Or.inl hk)
  have e17 : ∀ i, nD ≤ i → R 17 i = none := fun i hi => by
    by_cases hp : 0 < nD
    · exact (s8 hp).2 i hi
    · rw [hz17 (fun q => by rcases s2 17 q with z | z | z | z | z | z <;> omega)]
  have ref : ∀ k ∈ dm', ∀ j t, R2 k j = some t → (k = 2 ∧ j = 1 ∧ t = 17) ∨ (k = 17 ∧ j = nD ∧ t = 200 + nD) ∨ (k = 200 + nD ∧ j = 0 ∧ t = 100 + i0) ∨ (k ∈ dm ∧ R k j = some t) := by
    intro k hk j t e
    by_cases q1 : k = 2 ∧ j = 1
    · rw [q1.1, q1.2, r1] at e
      exact Or.inl ⟨q1.1, q1.2, (Option.some.inj e).symm⟩
    · by_cases q2 : k = 17 ∧ j = nD
      · rw [q2.1, q2.2, r2] at e
        exact Or.inr (Or.inl ⟨q2.1, q2.2, (Option.some.inj e).symm⟩)
      · by_cases q3 : k = 200 + nD ∧ j = 0
        · rw [q3.1, q3.2, r3] at e
          exact Or.inr (Or.inr (Or.inl ⟨q3.1, q3.2, (Option.some.inj e).symm⟩))
        · rw [r0 k j q1 q2 q3] at e
          rcases (f1 k).mp hk with z | z | z
          · exact Or.inr (Or.inr (Or.inr ⟨z, e⟩))
          · rw [z, hz] at e; cases e
          · by_cases z2 : k ∈ dm
            · exact Or.inr (Or.inr (Or.inr ⟨z2, e⟩))
            · rw [z, hz17 (by rw [← z]; exact z2)] at e; cases e
  refine ⟨⟨fun k hk => ?_, ⟨x2.1, by omega⟩, fun i hi => ?_, fun j hj => ?_, fun h0 => ?_, fun _ => ⟨m17, kdG_r (by decide) (by decide), f5, f7, r1⟩⟩, ⟨⟨mm _ hM.1.1, hM.1.2⟩, fun j hj => ?_⟩, ⟨fun k hk j t e => ?_, fun k hk => ?_, fun k hk j e => ?_, fun k hk j e => ?_, fun q => ?_, fun q => absurd q (by omega), fun q => ?_, fun _ => ⟨f6, fun i hi => ?_⟩⟩, fun k hk => rk k (by omega) (by omega) (by omega), r3⟩
  · obtain ⟨a1, a2, a3, a4⟩ := x1 k hk
    refine ⟨mm k a1, a2, by rw [f4 k (by omega)]; exact a3, fun j t e => ?_⟩
    rw [r0 k j (fun q => by rw [q.1, q.2] at e; have e2 : (none : Option Nat) = some t := e; cases e2) (by omega) (by omega)]
    exact a4 j t e
  · obtain ⟨a1, a2, a3, a4⟩ := x3 i hi
    exact ⟨mm _ a1, a2, by rw [rk 16 (by omega) (by omega) (by omega)]; exact a3, by rw [rk _ (by omega) (by omega) (by omega)]; exact a4⟩
  · by_cases hjn : j = nD
    · subst hjn
      exact ⟨(f1 _).mpr (Or.inr (Or.inl rfl)), kdG_d (by omega), r2, i0, hi0, r3⟩
    · obtain ⟨a1, a2, a3, i, a4, a5⟩ := x4 j (by omega)
      exact ⟨mm _ a1, a2, by rw [r0 17 j (by omega) (by omega) (by omega)]; exact a3, i, a4, by rw [rk _ (by omega) (by omega) (by omega)]; exact a5⟩
  · obtain ⟨a1, a2, a3, a4, a5⟩ := x5 h0
    exact ⟨mm _ a1, a2, by rw [f4 16 (by omega)]; exact a3, by rw [f4 16 (by omega)]; exact a4, by rw [rk 1 (by omega) (by omega) (by omega)]; exact a5⟩
  · obtain ⟨a1, a2, a3, a4⟩ := hM.2 j hj
    exact ⟨mm _ a1, a2, by rw [f4 _ (by omega)]; exact a3, by rw [rk 1000 (by omega) (by omega) (by omega)]; exact a4⟩
  · rcases ref k hk j t e with ⟨-, -, z⟩ | ⟨-, -, z⟩ | ⟨-, -, z⟩ | ⟨z1, z2⟩
    · rw [z]; exact Or.inl m17
    · rw [z]; exact Or.inl ((f1 _).mpr (Or.inr (Or.inl rfl)))
    · rw [z]; exact Or.inl (mm _ (x3 i0 hi0).1)
    · exact (s1 k z1 j t z2).imp (mm t) id
  · rcases (f1 k).mp hk with z | z | z
    · rcases s2 k z with y | y | y | y | y | y <;> omega
    · omega
    · omega
  · rcases ref k hk j 16 e with ⟨-, -, z⟩ | ⟨-, -, z⟩ | ⟨-, -, z⟩ | ⟨z1, z2⟩
    · omega
    · omega
    · omega
    · exact s3 k z1 j z2
  · rcases ref k hk j 17 e with ⟨y1, y2, -⟩ | ⟨-, -, z⟩ | ⟨-, -, z⟩ | ⟨z1, z2⟩
    · exact ⟨y1, y2⟩
    · omega
    · omega
    · exact s4 k z1 j z2
  · rw [rk 1 (by omega) (by omega) (by omega)]
    exact s5 q
  · rw [f4 16 (by omega), rk 16 (by omega) (by omega) (by omega)]
    exact s7 q
  · rw [r0 17 i (by omega) (by omega) (by omega)]
    exact e17 i (by omega)
