/-! the lists' rows: growing -/
/-- what the tables say for making and filling rows of objects -/
def alX (mi : Nat) (U : State) : Prop := va_AO "java/lang/Object" U ∧ va_Mi "[Ljava/lang/Object;" mi U ∧ va_Dc U ∧ va_Nw (.castable RX3 "java/lang/Object") U ∧ va_Nw (.castable RX0 "java/lang/Object") U
theorem cf_2 {ad ad' : Nat → Nat} {v : Nat → Int32} {j : Nat → Int64} {r r' : Nat → Option Nat} (h : ∀ i, (r' i).map ad' = (r i).map ad) (ci : Nat) : cf ci ad' v j r' = cf ci ad v j r := by
  unfold cf
  split <;> first | rfl | simp only [h]
theorem wok_ren {A : Nat → Prop} {D : va_G} {q : Cq} {dm : List Nat} {kd ln ad : Nat → Nat} {V : Mv} {J : Mj} {R : Mr} {H : Heap} {lst b N : Nat} (hW : wok A D q (dm ++ [19]) kd ln ad V J (u2 (va_up R 19 (R b)) lst 1 (some 19)) H) (hb : b ∈ dm) (hdb : kd b = 13) (hd19 : kd 19 = 13) (hN : ln 19 = N) (h19 : 19 ∉ dm) (hl : lst ≠ b) (hl19 : lst ≠ 19) (hRl : R lst 1 = some b) (hrf : ∀ k ∈ dm, ∀ j, R k j = some b → k = lst ∧ j = 1) : wok A D q dm kd (va_up ln b N) (va_up ad b (ad 19)) V J R H := by
  have hne : ∀ k ∈ dm, k ≠ b → ce q kd (va_up ln b N) (va_up ad b (ad 19)) V J R k = ce q kd ln ad V J (u2 (va_up R 19 (R b)) lst 1 (some 19)) k := by
    intro k hk hkb
    have hk19 : k ≠ 19 := fun e => h19 (by rw [← e]; exact hk)
    have hm : ∀ j, (R k j).map (va_up ad b (ad 19)) = ((u2 (va_up R 19 (R b)) lst 1 (some 19)) k j).map ad := by
      intro j
      by_cases hkj : k = lst ∧ j = 1
      · obtain ⟨rfl, rfl⟩ := hkj
        rw [u2_ss, hRl]
        show some (va_up ad b (ad 19) b) = some (ad 19)
        rw [va_up_self]
      · rw [u2_un hkj, va_up_ne _ _ hk19]
        cases hr : R k j with
        | none => rfl
        | some t =>
          have htb : t ≠ b := fun e => hkj (hrf k hk j (by rw [← e]; exact hr))
          show some (va_up ad b (ad 19) t) = some (ad t)
          rw [va_up_ne _ _ htb]
    unfold ce
    rw [va_up_ne _ _ hkb, cf_2 hm]
    simp only [hm]
  have heb : ce q kd (va_up ln b N) (va_up ad b (ad 19)) V J R b = ce q kd ln ad V J (u2 (va_up R 19 (R b)) lst 1 (some 19)) 19 := by
    rw [ce_q hdb, ce_q hd19, va_up_self, hN, u2_ne (Ne.symm hl19), va_up_self]
    have hm : ∀ j, (R b j).map (va_up ad b (ad 19)) = (R b j).map ad := by
      intro j
      cases hr : R b j with
      | none => rfl
      | some t =>
        have htb : t ≠ b := fun e => hl (hrf b hb j (by rw [hr, e])).1.symm
        show some (va_up ad b (ad 19) t) = some (ad t)
        rw [va_up_ne _ _ htb]
    simp only [hm]
  have hlen : (dm ++ [19])[dm.length]? = some 19 := by simp
  have hin : ∀ (i k : Nat), dm[i]? = some k → (dm ++ [19])[i]? = some k := fun i k h => by
    rw [List.getElem?_append_left (List.getElem?_eq_some_iff.mp h).1]
    exact h
  have pos : ∀ (i k : Nat), dm[i]? = some k → ∃ z y, (dm ++ [19])[z]? = some y ∧ (va_up ad b (ad 19) k, ce q kd (va_up ln b N) (va_up ad b (ad 19)) V J R k) = (ad y, ce q kd ln ad V J (u2 (va_up R 19 (R b)) lst 1 (some 19)) y) ∧ ((k = b ∧ z = dm.length) ∨ (k ≠ b ∧ z = i)) := by
    intro i k h
    have hk : k ∈ dm := List.mem_of_getElem? h
    by_cases hkb : k = b
    · subst hkb
      exact ⟨dm.length, 19, hlen, by rw [va_up_self, heb], Or.inl ⟨rfl, rfl⟩⟩
    · exact ⟨i, k, hin i k h, by rw [va_up_ne _ _ hkb, hne k hk hkb], Or.inr ⟨hkb, rfl⟩⟩
  refine ⟨fun i x hx => ?_, fun i j x y hx hy hxy => ?_, fun i x hx => ?_⟩
  · obtain ⟨k, hk, rfl⟩ := wl_get hx
    obtain ⟨z, y, h1, h2, -⟩ := pos i k hk
    rw [h2]
    exact hW.1 z _ (wl_put V J _ h1)
  · obtain ⟨k, hk, rfl⟩ := wl_get hx
    obtain ⟨k2, hk2, rfl⟩ := wl_get hy
    obtain ⟨z, y, h1, h2, h3⟩ := pos i k hk
    obtain ⟨z2, y2, g1, g2, g3⟩ := pos j k2 hk2
    rw [h2, g2] at hxy
    have e := hW.2.1 z z2 _ _ (wl_put V J _ h1) (wl_put V J _ g1) hxy
    have hi := (List.getElem?_eq_some_iff.mp hk).1
    have hj := (List.getElem?_eq_some_iff.mp hk2).1
    rcases h3 with ⟨p1, p2⟩ | ⟨p1, p2⟩ <;> rcases g3 with ⟨r1, r2⟩ | ⟨r1, r2⟩
    · rw [p1] at hk
      rw [r1] at hk2
      exact hW.2.1 i j _ _ (wl_put V J _ (hin i b hk)) (wl_put V J _ (hin j b hk2)) rfl
    · omega
    · omega
    · omega
  · obtain ⟨k, hk, rfl⟩ := wl_get hx
    obtain ⟨z, y, h1, h2, -⟩ := pos i k hk
    rw [h2]
    exact hW.2.2 z _ (wl_put V J _ h1)
section Gc
variable {p : Program} {l : Launch} {e : Env} {Rm : Room} {s : State} {m : MethodId} {args : Array Value} {below : List Frame} {meth : Method} {c : Code} {H H0 : Heap} {locs : List Loc} {cells slots : Nat} {Q : State → Prop} {cc : ByteArray} {pc : Nat} {ls : Array Slot} {rest : List Value} {A : Nat → Prop} {D : va_G} {q : Cq} {dm : List Nat} {kd ln ad : Nat → Nat} {V : Mv} {J : Mj} {R : Mr}
theorem w_arc (hK : va_K D vwCl (tyq q) s) (hW : wok A D q dm kd ln ad V J R H) {k : Nat} (hk : k ∈ dm) (hd : kd k = 13) : ∃ cell : Cell, H[ad k]? = some cell ∧ cell.vm.isStatics = false ∧ s.vm.findClass "[Ljava/lang/Object;" = some cell.cls := by
  obtain ⟨i, h1, h2⟩ := wl_at (q := q) (kd := kd) (ln := ln) (ad := ad) V J R hk
  rw [ce_q hd] at h2
  exact ⟨_, hW.1 i _ h2, rfl, va_nmO (hK.2 3 (q.2.2.2, .object "java/lang/Object") rfl).2 rfl⟩
end Gc
theorem cpy_none {f : Nat → Option Nat} {n : Nat} (h : ∀ i, n ≤ i → f i = none) : va_cpy f (fun _ => none) 0 0 n = f := by
  funext i
  unfold va_cpy
  split
  · rw [Nat.zero_add, Nat.sub_zero]
  · rw [h i (by omega)]
theorem grow_n {n : Nat} (h2 : 2 ≤ n) (hn : n < 1000) : nI n + (if nI n + 1 - nI n < nI n >>> ((1 : Int32) &&& 31) then nI n >>> ((1 : Int32) &&& 31) else nI n + 1 - nI n) = nI (n + n / 2) := by
  have e1 : nI n + 1 - nI n = nI 1 := by rw [nI_1, pk_sub (by omega), Nat.add_sub_cancel_left]
  have e2 : nI n >>> ((1 : Int32) &&& 31) = nI (n / 2) := by
    have := pk_shrN (n := n) (by omega) ((1 : Int32) &&& 31) 1 (by decide)
    rw [this, Nat.pow_one]
  rw [e1, e2]
  by_cases h : 1 < n / 2
  · rw [if_pos ((nI_ltI (by omega) (by omega)).mpr h), nI_add]
  · have h3 : n / 2 = 1 := by omega
    rw [h3, if_neg (fun q => absurd ((nI_ltI (by omega) (by omega)).mp q) (by omega)), nI_add]
