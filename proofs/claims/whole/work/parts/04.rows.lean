/-- a truth as an int -/
def bz (P : Prop) [Decidable P] : Int32 := if P then 1 else 0
theorem bz_t {P : Prop} [Decidable P] (h : P) : bz P = 1 := if_pos h
theorem bz_f {P : Prop} [Decidable P] (h : ¬ P) : bz P = 0 := if_neg h
theorem bz_or (P : Prop) [Decidable P] : bz P = 0 ∨ bz P = 1 := by
  by_cases h : P
  · exact Or.inr (bz_t h)
  · exact Or.inl (bz_f h)
theorem bz_0 {P : Prop} [Decidable P] : bz P = 0 ↔ ¬ P := by
  by_cases h : P
  · rw [bz_t h]
    exact ⟨fun e => absurd e (by decide), fun e => absurd h e⟩
  · rw [bz_f h]
    exact ⟨fun _ => h, fun _ => rfl⟩
theorem bz_nar (P : Prop) [Decidable P] : narrow .boolean (.int (bz P)) = .int (bz P) := by
  rcases bz_or P with h | h <;> rw [h] <;> decide
theorem bz_vnar (P : Prop) [Decidable P] : vp_nar .boolean (bz P) = bz P := by
  rcases bz_or P with h | h <;> rw [h] <;> decide
theorem i32_ne {x n : Int32} (h : ¬ x = n) : x.toInt ≠ n.toInt := fun e => h (Int32.toInt_inj.mp e)
theorem i32_neL {x n : Int32} {k : Int} (h : ¬ x = n) (hk : n.toInt = k) : x.toInt ≠ k := fun e => i32_ne h (by rw [hk]; exact e)
theorem sw_out3' {x a b c : Int32} {lo hi : Int} (h1 : ¬ x = a) (h2 : ¬ x = b) (h3 : ¬ x = c) (ha : a.toInt = lo) (hb : b.toInt = lo + 1) (hc : c.toInt = lo + 2) (hh : hi = lo + 2) : x.toInt < lo ∨ hi < x.toInt := by
  have := i32_ne h1
  have := i32_ne h2
  have := i32_ne h3
  omega
theorem sw_any {x : Int32} {lo hi : Int} (h : ∀ y : Int, lo ≤ y → y ≤ hi → x.toInt ≠ y) : x.toInt < lo ∨ hi < x.toInt := by
  rcases Int.lt_or_le x.toInt lo with h1 | h1
  · exact Or.inl h1
  · rcases Int.lt_or_le hi x.toInt with h2 | h2
    · exact Or.inr h2
    · exact absurd rfl (h x.toInt h1 h2)
section Rows2
variable {p : Program} {l : Launch} {e : Env} {Rm : Room} {s : State} {m : MethodId} {args : Array Value} {below : List Frame} {meth : Method} {c : Code} {H H0 : Heap} {locs : List Loc} {cells slots : Nat} {Q : State → Prop} {cc : ByteArray} {pc : Nat} {ls : Array Slot} {rest : List Value} {A : Nat → Prop} {D : va_G} {q : Cq} {dm : List Nat} {kd ln ad : Nat → Nat} {V : Mv} {J : Mj} {R : Mr}
theorem w_i {x y : Int32} (h : x = y) (kk : W p l e Rm s m args below meth c H locs cells slots Q (F0 m pc ls (.int y :: rest))) : W p l e Rm s m args below meth c H locs cells slots Q (F0 m pc ls (.int x :: rest)) := by
  rw [h]
  exact kk
theorem w_j {x y : Int64} (h : x = y) (kk : W p l e Rm s m args below meth c H locs cells slots Q (F0 m pc ls (.long y :: rest))) : W p l e Rm s m args below meth c H locs cells slots Q (F0 m pc ls (.long x :: rest)) := by
  rw [h]
  exact kk
theorem w_ifz (hx : p.tables.exec = Jvm.exec) (hb : c.code = cc) {P : Prop} [Decidable P] {off : Int} {tgt : Nat} (hdg : decode cc pc = .ok (.ifCond .eq off, 3)) (ht : (pc : Int) + off = (tgt : Int)) (kt : ¬ P → W p l e Rm s m args below meth c H locs cells slots Q (F0 m tgt ls rest)) (kf : P → W p l e Rm s m args below meth c H locs cells slots Q (F0 m (pc + 3) ls rest)) : W p l e Rm s m args below meth c H locs cells slots Q (F0 m pc ls (.int (bz P) :: rest)) :=
  lv_if_eq hx hb hdg ht (fun h => kt (bz_0.mp h)) (fun h => kf (Decidable.not_not.mp (fun hn => h (bz_0.mpr hn))))
theorem w_ifnz (hx : p.tables.exec = Jvm.exec) (hb : c.code = cc) {P : Prop} [Decidable P] {off : Int} {tgt : Nat} (hdg : decode cc pc = .ok (.ifCond .ne off, 3)) (ht : (pc : Int) + off = (tgt : Int)) (kt : P → W p l e Rm s m args below meth c H locs cells slots Q (F0 m tgt ls rest)) (kf : ¬ P → W p l e Rm s m args below meth c H locs cells slots Q (F0 m (pc + 3) ls rest)) : W p l e Rm s m args below meth c H locs cells slots Q (F0 m pc ls (.int (bz P) :: rest)) :=
  lv_if_ne hx hb hdg ht (fun h => kt (Decidable.not_not.mp (fun hn => h (bz_0.mpr hn)))) (fun h => kf (bz_0.mp h))
theorem lg_lt0 (x y : Int64) : lg_cmp x y < 0 ↔ x < y := by
  unfold lg_cmp
  simp only [gt_iff_lt, Int64.lt_iff_toInt_lt, ← Int64.toInt_inj]
  by_cases h : y.toInt < x.toInt
  · rw [if_pos h]
    exact ⟨fun q => absurd q (by decide), fun q => by omega⟩
  · rw [if_neg h]
    by_cases h2 : x.toInt = y.toInt
    · rw [if_pos h2]
      exact ⟨fun q => absurd q (by decide), fun q => by omega⟩
    · rw [if_neg h2]
      exact ⟨fun _ => by omega, fun _ => by decide⟩
theorem lg_gt0 (x y : Int64) : 0 < lg_cmp x y ↔ y < x := by
  unfold lg_cmp
  simp only [gt_iff_lt, Int64.lt_iff_toInt_lt, ← Int64.toInt_inj]
  by_cases h : y.toInt < x.toInt
  · rw [if_pos h]
    exact ⟨fun _ => h, fun _ => by decide⟩
  · rw [if_neg h]
    by_cases h2 : x.toInt = y.toInt
    · rw [if_pos h2]
      exact ⟨fun q => absurd q (by decide), fun q => absurd q h⟩
    · rw [if_neg h2]
      exact ⟨fun q => absurd q (by decide), fun q => absurd q h⟩
theorem w_lclt (hx : p.tables.exec = Jvm.exec) (hb : c.code = cc) {x y : Int64} {off : Int} {tgt : Nat} (hdg : decode cc pc = .ok (.ifCond .lt off, 3)) (ht : (pc : Int) + off = (tgt : Int)) (kt : x < y → W p l e Rm s m args below meth c H locs cells slots Q (F0 m tgt ls rest)) (kf : ¬ x < y → W p l e Rm s m args below meth c H locs cells slots Q (F0 m (pc + 3) ls rest)) : W p l e Rm s m args below meth c H locs cells slots Q (F0 m pc ls (.int (lg_cmp x y) :: rest)) :=
  lv_if_lt hx hb hdg ht (fun h => kt ((lg_lt0 x y).mp h)) (fun h => kf (fun z => h ((lg_lt0 x y).mpr z)))
theorem w_lcgt (hx : p.tables.exec = Jvm.exec) (hb : c.code = cc) {x y : Int64} {off : Int} {tgt : Nat} (hdg : decode cc pc = .ok (.ifCond .gt off, 3)) (ht : (pc : Int) + off = (tgt : Int)) (kt : y < x → W p l e Rm s m args below meth c H locs cells slots Q (F0 m tgt ls rest)) (kf : ¬ y < x → W p l e Rm s m args below meth c H locs cells slots Q (F0 m (pc + 3) ls rest)) : W p l e Rm s m args below meth c H locs cells slots Q (F0 m pc ls (.int (lg_cmp x y) :: rest)) :=
  lv_if_gt hx hb hdg ht (fun h => kt ((lg_gt0 x y).mp h)) (fun h => kf (fun z => h ((lg_gt0 x y).mpr z)))
theorem w_cast (hx : p.tables.exec = Jvm.exec) (hb : c.code = cc) {own C : String} {T : u_T} {N ci index k : Nat} (hown : s.vm.findClass own = some m.cls) (hlink : (Cond.classLink own index C).before args s = true) (hK : va_K D vwCl (tyq q) s) (hW : wok A D q dm kd ln ad V J R H) (hk : k ∈ dm) (hd : kd k = ci) (hci : ci < 10) (hc : vwCl[ci]? = some (C, T, N)) (hdg : decode cc pc = .ok (.checkcast index, 3))
    (kk : W p l e Rm s m args below meth c H locs cells slots Q (F0 m (pc + 3) ls (.ref (ad k) :: rest))) : W p l e Rm s m args below meth c H locs cells slots Q (F0 m pc ls (.ref (ad k) :: rest)) :=
  va_castS hx hb hown hlink (hK.1 ci _ hc).2 (w_rcv hK hW hk hd hci hc) hdg kk
theorem w_ialdN {t : Nat} (hx : p.tables.exec = Jvm.exec) (hb : c.code = cc) (hK : va_K D vwCl (tyq q) s) (hW : wok A D q dm kd ln ad V J R H) {k : Nat} (hk : k ∈ dm) (hd : kd k = 10) (hin : t < ln k ∧ t < 2147483648) (hdg : decode cc pc = .ok (.iaload, 1))
    (kk : W p l e Rm s m args below meth c H locs cells slots Q (F0 m (pc + 1) ls (.int (V k t) :: rest))) : W p l e Rm s m args below meth c H locs cells slots Q (F0 m pc ls (.int (nI t) :: .ref (ad k) :: rest)) := by
  refine w_iald hx hb hK hW hk hd (i := nI t) (vp_in_iff.mpr (by rw [nI_toInt hin.2]; exact ⟨by omega, by have := hin.1; omega⟩)) hdg ?_
  rw [nI_clamp hin.2]
  exact kk
theorem w_baldN {t : Nat} (hx : p.tables.exec = Jvm.exec) (hb : c.code = cc) (hK : va_K D vwCl (tyq q) s) (hW : wok A D q dm kd ln ad V J R H) {k : Nat} (hk : k ∈ dm) (hd : kd k = 11) (hin : t < ln k ∧ t < 2147483648) (hdg : decode cc pc = .ok (.baload, 1))
    (kk : W p l e Rm s m args below meth c H locs cells slots Q (F0 m (pc + 1) ls (.int (V k t) :: rest))) : W p l e Rm s m args below meth c H locs cells slots Q (F0 m pc ls (.int (nI t) :: .ref (ad k) :: rest)) := by
  refine w_bald hx hb hK hW hk hd (i := nI t) (vp_in_iff.mpr (by rw [nI_toInt hin.2]; exact ⟨by omega, by have := hin.1; omega⟩)) hdg ?_
  rw [nI_clamp hin.2]
  exact kk
theorem w_zaldN {t : Nat} (hx : p.tables.exec = Jvm.exec) (hb : c.code = cc) (hK : va_K D vwCl (tyq q) s) (hW : wok A D q dm kd ln ad V J R H) {k : Nat} (hk : k ∈ dm) (hd : kd k = 12) (hin : t < ln k ∧ t < 2147483648) (hdg : decode cc pc = .ok (.baload, 1))
    (kk : W p l e Rm s m args below meth c H locs cells slots Q (F0 m (pc + 1) ls (.int (V k t) :: rest))) : W p l e Rm s m args below meth c H locs cells slots Q (F0 m pc ls (.int (nI t) :: .ref (ad k) :: rest)) := by
  refine w_zald hx hb hK hW hk hd (i := nI t) (vp_in_iff.mpr (by rw [nI_toInt hin.2]; exact ⟨by omega, by have := hin.1; omega⟩)) hdg ?_
  rw [nI_clamp hin.2]
  exact kk
theorem w_aaldN {t : Nat} (hx : p.tables.exec = Jvm.exec) (hb : c.code = cc) (hK : va_K D vwCl (tyq q) s) (hW : wok A D q dm kd ln ad V J R H) {k : Nat} (hk : k ∈ dm) (hd : kd k = 13) (hin : t < ln k ∧ t < 2147483648) (hdg : decode cc pc = .ok (.aaload, 1))
    (kk : W p l e Rm s m args below meth c H locs cells slots Q (F0 m (pc + 1) ls (va_rf ((R k t).map ad) :: rest))) : W p l e Rm s m args below meth c H locs cells slots Q (F0 m pc ls (.int (nI t) :: .ref (ad k) :: rest)) := by
  refine w_aald hx hb hK hW hk hd (i := nI t) (vp_in_iff.mpr (by rw [nI_toInt hin.2]; exact ⟨by omega, by have := hin.1; omega⟩)) hdg ?_
  rw [nI_clamp hin.2]
  exact kk
theorem w_iastN {t : Nat} (hx : p.tables.exec = Jvm.exec) (hb : c.code = cc) (hK : va_K D vwCl (tyq q) s) (hW : wok A D q dm kd ln ad V J R H) (hS : va_S A H0 H locs) {k : Nat} (hk : k ∈ dm) (hd : kd k = 10) {x : Int32} (hin : t < ln k ∧ t < 2147483648) (hdg : decode cc pc = .ok (.iastore, 1))
    (kk : ∀ (H1 : Heap) (locs1 : List Loc), wok A D q dm kd ln ad (u2 V k t x) J R H1 → va_S A H0 H1 locs1 → W p l e Rm s m args below meth c H1 locs1 cells slots Q (F0 m (pc + 1) ls rest)) : W p l e Rm s m args below meth c H locs cells slots Q (F0 m pc ls (.int x :: .int (nI t) :: .ref (ad k) :: rest)) := by
  refine w_iast hx hb hK hW hS hk hd (i := nI t) (vp_in_iff.mpr (by rw [nI_toInt hin.2]; exact ⟨by omega, by have := hin.1; omega⟩)) hdg (fun H1 locs1 h1 h2 => ?_)
  rw [nI_clamp hin.2] at h1
  exact kk H1 locs1 h1 h2
theorem w_bastN {t : Nat} (hx : p.tables.exec = Jvm.exec) (hb : c.code = cc) (hK : va_K D vwCl (tyq q) s) (hW : wok A D q dm kd ln ad V J R H) (hS : va_S A H0 H locs) {k : Nat} (hk : k ∈ dm) (hd : kd k = 11) {x : Int32} (hin : t < ln k ∧ t < 2147483648) (hdg : decode cc pc = .ok (.bastore, 1))
    (kk : ∀ (H1 : Heap) (locs1 : List Loc), wok A D q dm kd ln ad (u2 V k t (vp_nar .byte x)) J R H1 → va_S A H0 H1 locs1 → W p l e Rm s m args below meth c H1 locs1 cells slots Q (F0 m (pc + 1) ls rest)) : W p l e Rm s m args below meth c H locs cells slots Q (F0 m pc ls (.int x :: .int (nI t) :: .ref (ad k) :: rest)) := by
  refine w_bast hx hb hK hW hS hk hd (i := nI t) (vp_in_iff.mpr (by rw [nI_toInt hin.2]; exact ⟨by omega, by have := hin.1; omega⟩)) hdg (fun H1 locs1 h1 h2 => ?_)
  rw [nI_clamp hin.2] at h1
  exact kk H1 locs1 h1 h2
theorem w_zastN {t : Nat} (hx : p.tables.exec = Jvm.exec) (hb : c.code = cc) (hK : va_K D vwCl (tyq q) s) (hW : wok A D q dm kd ln ad V J R H) (hS : va_S A H0 H locs) {k : Nat} (hk : k ∈ dm) (hd : kd k = 12) {x : Int32} (hin : t < ln k ∧ t < 2147483648) (hdg : decode cc pc = .ok (.bastore, 1))
    (kk : ∀ (H1 : Heap) (locs1 : List Loc), wok A D q dm kd ln ad (u2 V k t (vp_nar .boolean x)) J R H1 → va_S A H0 H1 locs1 → W p l e Rm s m args below meth c H1 locs1 cells slots Q (F0 m (pc + 1) ls rest)) : W p l e Rm s m args below meth c H locs cells slots Q (F0 m pc ls (.int x :: .int (nI t) :: .ref (ad k) :: rest)) := by
  refine w_zast hx hb hK hW hS hk hd (i := nI t) (vp_in_iff.mpr (by rw [nI_toInt hin.2]; exact ⟨by omega, by have := hin.1; omega⟩)) hdg (fun H1 locs1 h1 h2 => ?_)
  rw [nI_clamp hin.2] at h1
  exact kk H1 locs1 h1 h2
end Rows2
