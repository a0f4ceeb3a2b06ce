/-! ===== new labels ===== -/
theorem rm_ad {R : Mr} {ad ad' : Nat → Nat} {k : Nat} (h : ∀ j t, R k j = some t → ad' t = ad t) (j : Nat) : (R k j).map ad' = (R k j).map ad := by
  cases hr : R k j with
  | none => rfl
  | some t => simp [h j t hr]
theorem cf_ad {ad ad' : Nat → Nat} {v : Nat → Int32} {j : Nat → Int64} {r : Nat → Option Nat} (h : ∀ i, (r i).map ad' = (r i).map ad) (ci : Nat) : cf ci ad' v j r = cf ci ad v j r := by
  unfold cf
  split <;> first | rfl | simp only [h]
theorem ce_all {q : Cq} {kd ln ln' ad ad' : Nat → Nat} {V V' : Mv} {J J' : Mj} {R R' : Mr} {k : Nat} (hl : ln' k = ln k) (ha : ∀ j t, R k j = some t → ad' t = ad t) (hV : V' k = V k) (hJ : J' k = J k) (hR : R' k = R k) : ce q kd ln' ad' V' J' R' k = ce q kd ln ad V J R k := by
  have hm := rm_ad ha
  unfold ce
  rw [hV, hJ, hR, hl, cf_ad hm]
  simp only [hm]
theorem wl_new {q : Cq} {dm : List Nat} {kd ln ad : Nat → Nat} {V : Mv} {J : Mj} {R : Mr} {k qn : Nat} (hk : k ∉ dm) (hrf : ∀ k' ∈ dm, ∀ j, R k' j ≠ some k) : wl q (dm ++ [k]) kd ln (va_up ad k qn) V J R = wl q dm kd ln ad V J R ++ [(qn, ce q kd ln (va_up ad k qn) V J R k)] := by
  unfold wl
  rw [List.map_append]
  congr 1
  · apply List.map_congr_left
    intro k' hk'
    have hne : k' ≠ k := fun e => hk (e ▸ hk')
    rw [va_up_ne _ _ hne, ce_all (ad' := va_up ad k qn) (ad := ad) (ln := ln) rfl (fun j t ht => va_up_ne _ _ (fun e : t = k => hrf k' hk' j (by rw [← e]; exact ht))) rfl rfl rfl]
  · show [(va_up ad k qn k, _)] = _
    rw [va_up_self]
/-- nothing is at k yet -/
abbrev zat (V : Mv) (J : Mj) (R : Mr) (k : Nat) : Prop := V k = (fun _ => 0) ∧ J k = (fun _ => 0) ∧ R k = (fun _ => none)
/-- what is referred to is there (18: the static row) -/
def rcl (dm : List Nat) (R : Mr) : Prop := ∀ k ∈ dm, ∀ j t, R k j = some t → t ∈ dm ∨ t = 18
theorem rcl_rf {dm : List Nat} {R : Mr} {k : Nat} (h : rcl dm R) (hk : k ∉ dm) (h18 : k ≠ 18) : ∀ k' ∈ dm, ∀ j, R k' j ≠ some k := fun k' hk' j e => (h k' hk' j k e).elim hk h18
theorem rcl_new {dm : List Nat} {R : Mr} {k : Nat} (h : rcl dm R) (hz : R k = (fun _ => none)) : rcl (dm ++ [k]) R := by
  intro k' hk' j t ht
  rcases List.mem_append.mp hk' with q | q
  · rcases h k' q j t ht with r | r
    · exact Or.inl (List.mem_append_left _ r)
    · exact Or.inr r
  · rw [List.mem_singleton.mp q, hz] at ht
    cases ht
theorem rcl_put {dm : List Nat} {R : Mr} {k j : Nat} {o : Option Nat} (h : rcl dm R) (ho : ∀ t, o = some t → t ∈ dm ∨ t = 18) : rcl dm (u2 R k j o) := by
  intro k' hk' j' t ht
  by_cases e : k' = k ∧ j' = j
  · obtain ⟨rfl, rfl⟩ := e
    rw [u2_ss] at ht
    exact ho t ht
  · rw [u2_un e] at ht
    exact h k' hk' j' t ht
theorem rcl_ne {dm : List Nat} {R : Mr} {k : Nat} {f : Nat → Option Nat} (hk : k ∉ dm) (h : rcl dm R) : rcl dm (va_up R k f) := by
  intro k' hk' j t ht
  rw [va_up_ne _ _ (fun e : k' = k => hk (by rw [← e]; exact hk'))] at ht
  exact h k' hk' j t ht
theorem mem_l {dm : List Nat} {a k : Nat} (h : a ∈ dm) : a ∈ dm ++ [k] := List.mem_append_left _ h
theorem mem_r {dm : List Nat} {k : Nat} : k ∈ dm ++ [k] := List.mem_append_right _ (List.mem_singleton.mpr rfl)
theorem nmem {dm : List Nat} {a k : Nat} (h : a ∉ dm) (hk : a ≠ k) : a ∉ dm ++ [k] := fun q => (List.mem_append.mp q).elim h (fun q => hk (List.mem_singleton.mp q))
section Al
variable {p : Program} {l : Launch} {e : Env} {Rm : Room} {s : State} {m : MethodId} {args : Array Value} {below : List Frame} {meth : Method} {c : Code} {H H0 : Heap} {locs : List Loc} {cells slots : Nat} {Q : State → Prop} {cc : ByteArray} {pc : Nat} {ls : Array Slot} {rest : List Value} {A : Nat → Prop} {D : va_G} {q : Cq} {dm : List Nat} {kd ln ad : Nat → Nat} {V : Mv} {J : Mj} {R : Mr}
theorem w_st {st st' : List Value} (h : st' = st) (kk : W p l e Rm s m args below meth c H locs cells slots Q (F0 m pc ls st')) : W p l e Rm s m args below meth c H locs cells slots Q (F0 m pc ls st) := by
  rw [← h]
  exact kk
theorem w_new (hx : p.tables.exec = Jvm.exec) (hb : c.code = cc) {own C : String} {T : u_T} {N ci index : Nat} {Ts : List Cond} (hts : ∀ w ∈ Ts, w.before args s = true) (hin : ∀ w ∈ u_ws C T N, w ∈ Ts) (ty : Nat → FieldType) (hty : ∀ k, k < N → parseFieldDescriptor (T k).2.2.1 = some (ty k)) (hown : s.vm.findClass own = some m.cls) (hcl : (Cond.classLink own index C).before args s = true) (hinst : (Cond.instantiable C N).before args s = true) (hini : (Cond.initialized C).before args s = true) (hK : va_K D vwCl (tyq q) s) (hW : wok A D q dm kd ln ad V J R H) (hS : va_S A H0 H locs) (hA : ∀ q, H0.size ≤ q → A q) {k : Nat} (hk : k ∉ dm) (hrf : ∀ k' ∈ dm, ∀ j, R k' j ≠ some k) (hz : zat V J R k) (hd : kd k = ci) (hci : ci < 10) (hc : vwCl[ci]? = some (C, T, N)) (hfs : ∀ j, j < N → defaultValue (ty j) = vp_V (cf ci id (fun _ => 0) (fun _ => 0) (fun _ => none)) j) (hcells : cells + 1 ≤ Rm.cells) (hslots : slots + N ≤ Rm.slots) (hdg : decode cc pc = .ok (.new index, 3))
    (kk : ∀ (ad' : Nat → Nat) (H1 : Heap), (∀ k', k' ≠ k → ad' k' = ad k') → wok A D q (dm ++ [k]) kd ln ad' V J R H1 → va_S A H0 H1 locs → W p l e Rm s m args below meth c H1 locs (cells + 1) (slots + N) Q (F0 m (pc + 3) ls (.ref (ad' k) :: rest))) : W p l e Rm s m args below meth c H locs cells slots Q (F0 m pc ls rest) := by
  refine va_new (ci := ci) (fs := cf ci id (fun _ => 0) (fun _ => 0) (fun _ => none)) hx hb hts hin ty hty hown hcl hinst hini hK hW.1 hW.2 hS hA hc hfs hcells hslots hdg (fun q0 H1 hP hD hS1 => ?_)
  have he : ce q kd ln (va_up ad k q0) V J R k = .inr (ci, cf ci id (fun _ => 0) (fun _ => 0) (fun _ => none)) := by
    rw [ce_o hd hci, hz.1, hz.2.1, hz.2.2, cf_ad (ad' := va_up ad k q0) (ad := id) (fun _ => rfl)]
  have hw := wl_new (q := q) (kd := kd) (ln := ln) (ad := ad) (V := V) (J := J) (qn := q0) hk hrf
  rw [he] at hw
  have r := kk (va_up ad k q0) H1 (fun k' h => va_up_ne _ _ h) ⟨by rw [hw]; exact hP, by rw [hw]; exact hD⟩ hS1
  rw [va_up_self] at r
  exact r
theorem nI_nn {N : Nat} (h : N < 1000) : ¬ nI N < 0 := nI_pos (by omega)
theorem w_newi (hx : p.tables.exec = Jvm.exec) (hb : c.code = cc) (harr : (Cond.arrayClass .int).before args s = true) (hK : va_K D vwCl (tyq q) s) (hW : wok A D q dm kd ln ad V J R H) (hS : va_S A H0 H locs) (hA : ∀ q, H0.size ≤ q → A q) {k N : Nat} (hk : k ∉ dm) (hrf : ∀ k' ∈ dm, ∀ j, R k' j ≠ some k) (hz : zat V J R k) (hd : kd k = 10) (hln : ln k = N) {n : Int32} (hn : n = nI N) (hN : N < 1000) (hcells : cells + 1 ≤ Rm.cells) (hslots : slots + N ≤ Rm.slots) (hdg : decode cc pc = .ok (.newarray .int, 2))
    (kk : ∀ (ad' : Nat → Nat) (H1 : Heap), (∀ k', k' ≠ k → ad' k' = ad k') → wok A D q (dm ++ [k]) kd ln ad' V J R H1 → va_S A H0 H1 locs → W p l e Rm s m args below meth c H1 locs (cells + 1) (slots + N) Q (F0 m (pc + 2) ls (.ref (ad' k) :: rest))) : W p l e Rm s m args below meth c H locs cells slots Q (F0 m pc ls (.int n :: rest)) := by
  subst hn
  refine va_newa (atype := .int) (ty := .int) (a0 := (N, .inl (fun _ => 0))) hx hb harr rfl hK hW.1 hW.2 hS hA (fun _ => rfl) (nI_nn hN) (nI_clamp (by omega)) (by show N * 4 ≤ _; omega) hcells hslots hdg (fun q0 cA H1 hK1 hP hD hS1 => ?_)
  have h1 : s.vm.findClass ("[" ++ FieldType.int.toString) = some cA := (hK1.2 4 (cA, .int) rfl).2
  have h2 : s.vm.findClass ("[" ++ FieldType.int.toString) = some q.1 := (hK.2 0 (q.1, .int) rfl).2
  have hcA : cA = q.1 := Option.some.inj (h1.symm.trans h2)
  have he : ce q kd ln (va_up ad k q0) V J R k = .inl (cA, N, .inl (fun _ => 0)) := by
    rw [ce_i hd, hz.1, hln, hcA]
  have hw := wl_new (q := q) (kd := kd) (ln := ln) (ad := ad) (V := V) (J := J) (qn := q0) hk hrf
  rw [he] at hw
  have r := kk (va_up ad k q0) H1 (fun k' h => va_up_ne _ _ h) ⟨by rw [hw]; exact hP, by rw [hw]; exact hD⟩ hS1
  rw [va_up_self] at r
  exact r
theorem w_newb (hx : p.tables.exec = Jvm.exec) (hb : c.code = cc) (harr : (Cond.arrayClass .byte).before args s = true) (hK : va_K D vwCl (tyq q) s) (hW : wok A D q dm kd ln ad V J R H) (hS : va_S A H0 H locs) (hA : ∀ q, H0.size ≤ q → A q) {k N : Nat} (hk : k ∉ dm) (hrf : ∀ k' ∈ dm, ∀ j, R k' j ≠ some k) (hz : zat V J R k) (hd : kd k = 11) (hln : ln k = N) {n : Int32} (hn : n = nI N) (hN : N < 1000) (hcells : cells + 1 ≤ Rm.cells) (hslots : slots + N ≤ Rm.slots) (hdg : decode cc pc = .ok (.newarray .byte, 2))
    (kk : ∀ (ad' : Nat → Nat) (H1 : Heap), (∀ k', k' ≠ k → ad' k' = ad k') → wok A D q (dm ++ [k]) kd ln ad' V J R H1 → va_S A H0 H1 locs → W p l e Rm s m args below meth c H1 locs (cells + 1) (slots + N) Q (F0 m (pc + 2) ls (.ref (ad' k) :: rest))) : W p l e Rm s m args below meth c H locs cells slots Q (F0 m pc ls (.int n :: rest)) := by
  subst hn
  refine va_newa (atype := .byte) (ty := .byte) (a0 := (N, .inl (fun _ => 0))) hx hb harr rfl hK hW.1 hW.2 hS hA (fun _ => rfl) (nI_nn hN) (nI_clamp (by omega)) (by show N * 1 ≤ _; omega) hcells hslots hdg (fun q0 cA H1 hK1 hP hD hS1 => ?_)
  have h1 : s.vm.findClass ("[" ++ FieldType.byte.toString) = some cA := (hK1.2 4 (cA, .byte) rfl).2
  have h2 : s.vm.findClass ("[" ++ FieldType.byte.toString) = some q.2.1 := (hK.2 1 (q.2.1, .byte) rfl).2
  have hcA : cA = q.2.1 := Option.some.inj (h1.symm.trans h2)
  have he : ce q kd ln (va_up ad k q0) V J R k = .inl (cA, N, .inl (fun _ => 0)) := by
    rw [ce_b hd, hz.1, hln, hcA]
  have hw := wl_new (q := q) (kd := kd) (ln := ln) (ad := ad) (V := V) (J := J) (qn := q0) hk hrf
  rw [he] at hw
  have r := kk (va_up ad k q0) H1 (fun k' h => va_up_ne _ _ h) ⟨by rw [hw]; exact hP, by rw [hw]; exact hD⟩ hS1
  rw [va_up_self] at r
  exact r
theorem w_newz (hx : p.tables.exec = Jvm.exec) (hb : c.code = cc) (harr : (Cond.arrayClass .boolean).before args s = true) (hK : va_K D vwCl (tyq q) s) (hW : wok A D q dm kd ln ad V J R H) (hS : va_S A H0 H locs) (hA : ∀ q, H0.size ≤ q → A q) {k N : Nat} (hk : k ∉ dm) (hrf : ∀ k' ∈ dm, ∀ j, R k' j ≠ some k) (hz : zat V J R k) (hd : kd k = 12) (hln : ln k = N) {n : Int32} (hn : n = nI N) (hN : N < 1000) (hcells : cells + 1 ≤ Rm.cells) (hslots : slots + N ≤ Rm.slots) (hdg : decode cc pc = .ok (.newarray .boolean, 2))
    (kk : ∀ (ad' : Nat → Nat) (H1 : Heap), (∀ k', k' ≠ k → ad' k' = ad k') → wok A D q (dm ++ [k]) kd ln ad' V J R H1 → va_S A H0 H1 locs → W p l e Rm s m args below meth c H1 locs (cells + 1) (slots + N) Q (F0 m (pc + 2) ls (.ref (ad' k) :: rest))) : W p l e Rm s m args below meth c H locs cells slots Q (F0 m pc ls (.int n :: rest)) := by
  subst hn
  refine va_newa (atype := .boolean) (ty := .boolean) (a0 := (N, .inl (fun _ => 0))) hx hb harr rfl hK hW.1 hW.2 hS hA (fun _ => rfl) (nI_nn hN) (nI_clamp (by omega)) (by show N * 1 ≤ _; omega) hcells hslots hdg (fun q0 cA H1 hK1 hP hD hS1 => ?_)
  have h1 : s.vm.findClass ("[" ++ FieldType.boolean.toString) = some cA := (hK1.2 4 (cA, .boolean) rfl).2
  have h2 : s.vm.findClass ("[" ++ FieldType.boolean.toString) = some q.2.2.1 := (hK.2 2 (q.2.2.1, .boolean) rfl).2
  have hcA : cA = q.2.2.1 := Option.some.inj (h1.symm.trans h2)
  have he : ce q kd ln (va_up ad k q0) V J R k = .inl (cA, N, .inl (fun _ => 0)) := by
    rw [ce_z hd, hz.1, hln, hcA]
  have hw := wl_new (q := q) (kd := kd) (ln := ln) (ad := ad) (V := V) (J := J) (qn := q0) hk hrf
  rw [he] at hw
  have r := kk (va_up ad k q0) H1 (fun k' h => va_up_ne _ _ h) ⟨by rw [hw]; exact hP, by rw [hw]; exact hD⟩ hS1
  rw [va_up_self] at r
  exact r
theorem w_newq (hx : p.tables.exec = Jvm.exec) (hb : c.code = cc) {own : String} {index : Nat} (hown : s.vm.findClass own = some m.cls) (hclink : (Cond.classLink own index "java/lang/Object").before args s = true) (hover : va_AO "java/lang/Object" s) (hK : va_K D vwCl (tyq q) s) (hW : wok A D q dm kd ln ad V J R H) (hS : va_S A H0 H locs) (hA : ∀ q, H0.size ≤ q → A q) {k N : Nat} (hk : k ∉ dm) (hrf : ∀ k' ∈ dm, ∀ j, R k' j ≠ some k) (hz : zat V J R k) (hd : kd k = 13) (hln : ln k = N) {n : Int32} (hn : n = nI N) (hN : N < 1000) (hcells : cells + 1 ≤ Rm.cells) (hslots : slots + N ≤ Rm.slots) (hdg : decode cc pc = .ok (.anewarray index, 3))
    (kk : ∀ (ad' : Nat → Nat) (H1 : Heap), (∀ k', k' ≠ k → ad' k' = ad k') → wok A D q (dm ++ [k]) kd ln ad' V J R H1 → va_S A H0 H1 locs → W p l e Rm s m args below meth c H1 locs (cells + 1) (slots + N) Q (F0 m (pc + 3) ls (.ref (ad' k) :: rest))) : W p l e Rm s m args below meth c H locs cells slots Q (F0 m pc ls (.int n :: rest)) := by
  subst hn
  refine va_newq hx hb hown hclink hover hK hW.1 hW.2 hS hA (nI_nn hN) (nI_clamp (by omega)) (by omega) hcells hslots hdg (fun q0 cA H1 hK1 hP hD hS1 => ?_)
  have h1 := va_nmO (hK1.2 4 (cA, .object "java/lang/Object") rfl).2 rfl
  have h2 := va_nmO (hK.2 3 (q.2.2.2, .object "java/lang/Object") rfl).2 rfl
  have hcA : cA = q.2.2.2 := Option.some.inj (h1.symm.trans h2)
  have he : ce q kd ln (va_up ad k q0) V J R k = .inl (cA, N, .inr (.inr (.inr (.inr (fun _ => none))))) := by
    rw [ce_q hd, hz.2.2, hln, hcA]
    rfl
  have hw := wl_new (q := q) (kd := kd) (ln := ln) (ad := ad) (V := V) (J := J) (qn := q0) hk hrf
  rw [he] at hw
  have r := kk (va_up ad k q0) H1 (fun k' h => va_up_ne _ _ h) ⟨by rw [hw]; exact hP, by rw [hw]; exact hD⟩ hS1
  rw [va_up_self] at r
  exact r
theorem w_puto (hx : p.tables.exec = Jvm.exec) (hb : c.code = cc) {own C : String} {T : u_T} {N ci index : Nat} {Ts : List Cond} (hts : ∀ w ∈ Ts, w.before args s = true) (hin : ∀ w ∈ u_ws C T N, w ∈ Ts) (ty0 : Nat → FieldType) (hty : ∀ k, k < N → parseFieldDescriptor (T k).2.2.1 = some (ty0 k)) (hnm : ∀ a, a < N → ∀ b, b < N → a ≠ b → (T a).2.1 ≠ (T b).2.1) (hown : s.vm.findClass own = some m.cls) (hK : va_K D vwCl (tyq q) s) (hW : wok A D q dm kd ln ad V J R H) (hS : va_S A H0 H locs) {k : Nat} (hk : k ∈ dm) (hd : kd k = ci) (hci : ci < 10) (hc : vwCl[ci]? = some (C, T, N)) (j : Nat) (hj : j < N) {ref : String} (hlink : (Cond.fieldLink own index ref (T j).2.1 (T j).2.2.1).before args s = true) (hsame : ∀ x, s.fieldFound? (T j).1 (T j).2.1 (T j).2.2.1 = some x → s.fieldFound? ref (T j).2.1 (T j).2.2.1 = some x) (hfin : (T j).2.2.2 = false) {ty : FieldType} (o : Option Nat) (hdt : parseFieldDescriptor (T j).2.2.1 = some ty) (hn : narrow ty (va_rf (o.map ad)) = va_rf (o.map ad)) (hfit : fits ty (va_rf (o.map ad)) = true) (hl : j < (cf ci ad (V k) (J k) (R k)).length) (hset : cf ci ad (V k) (J k) (va_up (R k) j o) = (cf ci ad (V k) (J k) (R k)).set j (va_rf (o.map ad))) (hdg : decode cc pc = .ok (.putfield index, 3))
    (kk : ∀ (H1 : Heap) (locs1 : List Loc), wok A D q dm kd ln ad V J (u2 R k j o) H1 → va_S A H0 H1 locs1 → W p l e Rm s m args below meth c H1 locs1 cells slots Q (F0 m (pc + 3) ls rest)) : W p l e Rm s m args below meth c H locs cells slots Q (F0 m pc ls (va_rf (o.map ad) :: .ref (ad k) :: rest)) := by
  obtain ⟨i, h1, h2⟩ := wl_at (q := q) (kd := kd) (ln := ln) (ad := ad) V J R hk
  rw [ce_o hd hci] at h2
  refine va_put hx hb hts hin ty0 hty hnm hown hK hW.1 hW.2 hS i h2 hc j hj hlink hsame hfin hdt hn hfit hl hdg (fun H1 locs1 hP1 hD1 hS1 => kk H1 locs1 ?_ hS1)
  refine wok_set hW h1 ?_ (fun k' hk' => ce_eq rfl rfl (u2_ne hk')) hP1
  rw [ce_o hd hci, u2_s, hset]
theorem w_putoF (hx : p.tables.exec = Jvm.exec) (hb : c.code = cc) {own C : String} {T : u_T} {N ci index : Nat} {Ts : List Cond} (hts : ∀ w ∈ Ts, w.before args s = true) (hin : ∀ w ∈ u_ws C T N, w ∈ Ts) (ty0 : Nat → FieldType) (hty : ∀ k, k < N → parseFieldDescriptor (T k).2.2.1 = some (ty0 k)) (hnm : ∀ a, a < N → ∀ b, b < N → a ≠ b → (T a).2.1 ≠ (T b).2.1) (hown : s.vm.findClass own = some m.cls) (hK : va_K D vwCl (tyq q) s) (hW : wok A D q dm kd ln ad V J R H) (hS : va_S A H0 H locs) {k : Nat} (hk : k ∈ dm) (hd : kd k = ci) (hci : ci < 10) (hc : vwCl[ci]? = some (C, T, N)) (j : Nat) (hj : j < N) {ref : String} (hlink : (Cond.fieldLink own index ref (T j).2.1 (T j).2.2.1).before args s = true) (hsame : ∀ x, s.fieldFound? (T j).1 (T j).2.1 (T j).2.2.1 = some x → s.fieldFound? ref (T j).2.1 (T j).2.2.1 = some x) (hfin : (T j).2.2.2 = true) (hin2 : meth.name = "<init>") (hdecl : (T j).1 = own) {ty : FieldType} (o : Option Nat) (hdt : parseFieldDescriptor (T j).2.2.1 = some ty) (hn : narrow ty (va_rf (o.map ad)) = va_rf (o.map ad)) (hfit : fits ty (va_rf (o.map ad)) = true) (hl : j < (cf ci ad (V k) (J k) (R k)).length) (hset : cf ci ad (V k) (J k) (va_up (R k) j o) = (cf ci ad (V k) (J k) (R k)).set j (va_rf (o.map ad))) (hdg : decode cc pc = .ok (.putfield index, 3))
    (kk : ∀ (H1 : Heap) (locs1 : List Loc), wok A D q dm kd ln ad V J (u2 R k j o) H1 → va_S A H0 H1 locs1 → W p l e Rm s m args below meth c H1 locs1 cells slots Q (F0 m (pc + 3) ls rest)) : W p l e Rm s m args below meth c H locs cells slots Q (F0 m pc ls (va_rf (o.map ad) :: .ref (ad k) :: rest)) := by
  obtain ⟨i, h1, h2⟩ := wl_at (q := q) (kd := kd) (ln := ln) (ad := ad) V J R hk
  rw [ce_o hd hci] at h2
  refine va_putF hx hb hts hin ty0 hty hnm hown hK hW.1 hW.2 hS i h2 hc j hj hlink hsame hfin hin2 hdecl hdt hn hfit hl hdg (fun H1 locs1 hP1 hD1 hS1 => kk H1 locs1 ?_ hS1)
  refine wok_set hW h1 ?_ (fun k' hk' => ce_eq rfl rfl (u2_ne hk')) hP1
  rw [ce_o hd hci, u2_s, hset]
theorem w_putiF (hx : p.tables.exec = Jvm.exec) (hb : c.code = cc) {own C : String} {T : u_T} {N ci index : Nat} {Ts : List Cond} (hts : ∀ w ∈ Ts, w.before args s = true) (hin : ∀ w ∈ u_ws C T N, w ∈ Ts) (ty0 : Nat → FieldType) (hty : ∀ k, k < N → parseFieldDescriptor (T k).2.2.1 = some (ty0 k)) (hnm : ∀ a, a < N → ∀ b, b < N → a ≠ b → (T a).2.1 ≠ (T b).2.1) (hown : s.vm.findClass own = some m.cls) (hK : va_K D vwCl (tyq q) s) (hW : wok A D q dm kd ln ad V J R H) (hS : va_S A H0 H locs) {k : Nat} (hk : k ∈ dm) (hd : kd k = ci) (hci : ci < 10) (hc : vwCl[ci]? = some (C, T, N)) (j : Nat) (hj : j < N) {ref : String} (hlink : (Cond.fieldLink own index ref (T j).2.1 (T j).2.2.1).before args s = true) (hsame : ∀ x, s.fieldFound? (T j).1 (T j).2.1 (T j).2.2.1 = some x → s.fieldFound? ref (T j).2.1 (T j).2.2.1 = some x) (hfin : (T j).2.2.2 = true) (hin2 : meth.name = "<init>") (hdecl : (T j).1 = own) {ty : FieldType} {v : Int32} (hdt : parseFieldDescriptor (T j).2.2.1 = some ty) (hn : narrow ty (.int v) = .int v) (hfit : fits ty (.int v) = true) (hl : j < (cf ci ad (V k) (J k) (R k)).length) (hset : cf ci ad (va_up (V k) j v) (J k) (R k) = (cf ci ad (V k) (J k) (R k)).set j (.int v)) (hdg : decode cc pc = .ok (.putfield index, 3))
    (kk : ∀ (H1 : Heap) (locs1 : List Loc), wok A D q dm kd ln ad (u2 V k j v) J R H1 → va_S A H0 H1 locs1 → W p l e Rm s m args below meth c H1 locs1 cells slots Q (F0 m (pc + 3) ls rest)) : W p l e Rm s m args below meth c H locs cells slots Q (F0 m pc ls (.int v :: .ref (ad k) :: rest)) := by
  obtain ⟨i, h1, h2⟩ := wl_at (q := q) (kd := kd) (ln := ln) (ad := ad) V J R hk
  rw [ce_o hd hci] at h2
  refine va_putF hx hb hts hin ty0 hty hnm hown hK hW.1 hW.2 hS i h2 hc j hj hlink hsame hfin hin2 hdecl hdt hn hfit hl hdg (fun H1 locs1 hP1 hD1 hS1 => kk H1 locs1 ?_ hS1)
  refine wok_set hW h1 ?_ (fun k' hk' => ce_eq (u2_ne hk') rfl rfl) hP1
  rw [ce_o hd hci, u2_s, hset]
theorem map_up {f : Nat → Option Nat} {ad : Nat → Nat} {i t : Nat} : (fun n => (va_up f i (some t) n).map ad) = va_up (fun n => (f n).map ad) i (some (ad t)) := by
  funext n
  by_cases h : n = i
  · rw [h, va_up_self, va_up_self]
    rfl
  · rw [va_up_ne _ _ h, va_up_ne _ _ h]
theorem w_aast (hx : p.tables.exec = Jvm.exec) (hb : c.code = cc) (hK : va_K D vwCl (tyq q) s) (hW : wok A D q dm kd ln ad V J R H) (hS : va_S A H0 H locs) {k t ci : Nat} (hk : k ∈ dm) (hd : kd k = 13) (hkt : t ∈ dm) (hdt : kd t = ci) (hci : ci < 10) {C : String} {T : u_T} {N : Nat} (hc : vwCl[ci]? = some (C, T, N)) (hca : va_Nw (.castable C "java/lang/Object") s) {i : Int32} (hin : vp_in i (ln k)) (hdg : decode cc pc = .ok (.aastore, 1))
    (kk : ∀ (H1 : Heap) (locs1 : List Loc), wok A D q dm kd ln ad V J (u2 R k i.toNatClampNeg (some t)) H1 → va_S A H0 H1 locs1 → W p l e Rm s m args below meth c H1 locs1 cells slots Q (F0 m (pc + 1) ls rest)) : W p l e Rm s m args below meth c H locs cells slots Q (F0 m pc ls (.ref (ad t) :: .int i :: .ref (ad k) :: rest)) := by
  obtain ⟨n, h1, h2⟩ := wl_at (q := q) (kd := kd) (ln := ln) (ad := ad) V J R hk
  rw [ce_q hd] at h2
  obtain ⟨n2, h3, h4⟩ := wl_at (q := q) (kd := kd) (ln := ln) (ad := ad) V J R hkt
  rw [ce_o hdt hci] at h4
  refine va_astqO hx hb hK hW.1 hW.2 hS n 3 n2 ci h2 rfl hca h4 hc hin hdg (fun H1 locs1 hP1 hD1 hS1 => kk H1 locs1 ?_ hS1)
  refine wok_set hW h1 ?_ (fun k' hk' => ce_eq rfl rfl (u2_ne hk')) hP1
  rw [ce_q hd, u2_s, map_up]
theorem map_cpy {f g : Nat → Option Nat} {ad : Nat → Nat} {a b n : Nat} : (fun i => (va_cpy f g a b n i).map ad) = va_cpy (fun i => (f i).map ad) (fun i => (g i).map ad) a b n := by
  funext i
  unfold va_cpy
  split <;> rfl
theorem w_copyq (hx : p.tables.exec = Jvm.exec) (hb : c.code = cc) (hml : c.maxLocals = ls.size) {own : String} {index : Nat} (hown : s.vm.findClass own = some m.cls) (hlink : (Cond.methodLink own index arraycopyName).before args s = true) (hnat : (Cond.native arraycopyName).before args s = true) (hstat : (Cond.static arraycopyName).before args s = true) (hini : (Cond.initialized "java/lang/System").before args s = true) (hK : va_K D vwCl (tyq q) s) (hW : wok A D q dm kd ln ad V J R H) (hS : va_S A H0 H locs) {k k2 ci : Nat} (hk : k ∈ dm) (hd : kd k = 13) (hk2 : k2 ∈ dm) (hd2 : kd k2 = 13) (hci : ci < 10) {C : String} {T : u_T} {N : Nat} (hc : vwCl[ci]? = some (C, T, N)) (hca : va_Nw (.castable C "java/lang/Object") s) {sp dp n : Int32} (h1 : ¬ sp < 0) (h2 : ¬ dp < 0) (h3 : ¬ n < 0) (h4 : sp.toNatClampNeg + n.toNatClampNeg ≤ ln k) (h5 : dp.toNatClampNeg + n.toNatClampNeg ≤ ln k2) (hel : ∀ i t, R k i = some t → t ∈ dm ∧ kd t = ci)
    (hframes : 1 ≤ Rm.frames) (hlocals : (rest.map fun v => v.category).sum + (nativeFrameWords "java/lang/System" "arraycopy" 5 + 11) ≤ Rm.locals) (hdg : decode cc pc = .ok (.invokestatic index, 3))
    (kk : ∀ (H1 : Heap) (locs1 : List Loc), wok A D q dm kd ln ad V J (va_up R k2 (va_cpy (R k) (R k2) sp.toNatClampNeg dp.toNatClampNeg n.toNatClampNeg)) H1 → va_S A H0 H1 locs1 → W p l e Rm s m args below meth c H1 locs1 cells slots Q (F0 m (pc + 3) ls rest)) : W p l e Rm s m args below meth c H locs cells slots Q (F0 m pc ls (.int n :: .int dp :: .ref (ad k2) :: .int sp :: .ref (ad k) :: rest)) := by
  obtain ⟨i, g1, g2⟩ := wl_at (q := q) (kd := kd) (ln := ln) (ad := ad) V J R hk
  rw [ce_q hd] at g2
  obtain ⟨i2, g3, g4⟩ := wl_at (q := q) (kd := kd) (ln := ln) (ad := ad) V J R hk2
  rw [ce_q hd2] at g4
  refine va_copyq (C := C) hx hb hml hown hlink hnat hstat hini hK hW.1 hW.2 hS i i2 3 3 g2 g4 rfl rfl h1 h2 h3 h4 h5 (fun j hj y hy => ?_) (vb_asgC hca) hframes hlocals hdg (fun H1 locs1 hP1 hD1 hS1 => kk H1 locs1 ?_ hS1)
  · cases hr : R k (sp.toNatClampNeg + j) with
    | none => rw [hr] at hy; cases hy
    | some t =>
      rw [hr] at hy
      cases hy
      obtain ⟨e1, e2⟩ := hel _ t hr
      exact w_rcv hK hW e1 e2 hci hc
  · refine wok_set hW g3 ?_ (fun k' hk' => ce_eq rfl rfl (va_up_ne _ _ hk')) hP1
    rw [ce_q hd2, va_up_self, map_cpy]
end Al
