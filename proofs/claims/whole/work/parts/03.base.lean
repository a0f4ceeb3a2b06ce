/-! ===== the memory layer: a world is a list of labels; each label has an address, a kind, a length, and what it holds: ints V, longs J, labels R ===== -/
abbrev Mv : Type := Nat → Nat → Int32
abbrev Mj : Type := Nat → Nat → Int64
abbrev Mr : Type := Nat → Nat → Option Nat
abbrev Cq : Type := ClassId × ClassId × ClassId × ClassId
def u2 {α : Type} (f : Nat → Nat → α) (k j : Nat) (v : α) : Nat → Nat → α := va_up f k (va_up (f k) j v)
theorem u2_ne {α : Type} {f : Nat → Nat → α} {k j k' : Nat} {v : α} (h : k' ≠ k) : u2 f k j v k' = f k' := va_up_ne _ _ h
theorem u2_s {α : Type} {f : Nat → Nat → α} {k j : Nat} {v : α} : u2 f k j v k = va_up (f k) j v := va_up_self _ _ _
theorem u2_ss {α : Type} {f : Nat → Nat → α} {k j : Nat} {v : α} : u2 f k j v k j = v := by rw [u2_s, va_up_self]
theorem u2_sn {α : Type} {f : Nat → Nat → α} {k j j' : Nat} {v : α} (h : j' ≠ j) : u2 f k j v k j' = f k j' := by rw [u2_s, va_up_ne _ _ h]
theorem u2_un {α : Type} {f : Nat → Nat → α} {k j k' j' : Nat} {v : α} (h : ¬ (k' = k ∧ j' = j)) : u2 f k j v k' j' = f k' j' := by
  by_cases hk : k' = k
  · subst hk
    exact u2_sn (fun e => h ⟨rfl, e⟩)
  · rw [u2_ne hk]
theorem up_upd (f : Nat → Int32) (k : Nat) (x : Int32) : upd f k x = va_up f k x := rfl
/-- what an object of class ci holds, by its slots: ints, longs, labels -/
def cf (ci : Nat) (ad : Nat → Nat) (v : Nat → Int32) (j : Nat → Int64) (r : Nat → Option Nat) : List Value := match ci with
  | 0 => [.int (v 0), va_rf ((r 1).map ad), .int (v 2)]
  | 1 => [va_rf ((r 0).map ad), .int (v 1), .int (v 2), .int (v 3), .int (v 4), .int (v 5), .int (v 6), .int (v 7), .int (v 8), .int (v 9), .int (v 10), .int (v 11)]
  | 2 => [va_rf ((r 0).map ad), va_rf ((r 1).map ad), va_rf ((r 2).map ad), .int (v 3)]
  | 3 => [.int (v 0), .int (v 1), .long (j 2), .int (v 3), .long (j 4)]
  | 4 => [.int (v 0), va_rf ((r 1).map ad), .int (v 2), .int (v 3), .int (v 4), .int (v 5)]
  | 5 => [va_rf ((r 0).map ad), va_rf ((r 1).map ad), va_rf ((r 2).map ad), va_rf ((r 3).map ad), .int (v 4), .int (v 5), .int (v 6)]
  | 6 => [va_rf ((r 0).map ad), .int (v 1), .int (v 2), .int (v 3), .int (v 4)]
  | 7 => [va_rf ((r 0).map ad), .int (v 1)]
  | 8 => [va_rf ((r 0).map ad), va_rf ((r 1).map ad), va_rf ((r 2).map ad), va_rf ((r 3).map ad), va_rf ((r 4).map ad), va_rf ((r 5).map ad), va_rf ((r 6).map ad), .int (v 7)]
  | _ => [.int (v 0), .int (v 1), va_rf ((r 2).map ad), va_rf ((r 3).map ad), va_rf ((r 4).map ad), va_rf ((r 5).map ad), va_rf ((r 6).map ad), .int (v 7), va_rf ((r 8).map ad), va_rf ((r 9).map ad), va_rf ((r 10).map ad), va_rf ((r 11).map ad), va_rf ((r 12).map ad), va_rf ((r 13).map ad), va_rf ((r 14).map ad), va_rf ((r 15).map ad), va_rf ((r 16).map ad), va_rf ((r 17).map ad), va_rf ((r 18).map ad), va_rf ((r 19).map ad), va_rf ((r 20).map ad), .int (v 21), .int (v 22), .long (j 23), .int (v 24), .int (v 25), .int (v 26), va_rf ((r 27).map ad), va_rf ((r 28).map ad), va_rf ((r 29).map ad), va_rf ((r 30).map ad), va_rf ((r 31).map ad), .int (v 32), .int (v 33), .int (v 34), .int (v 35), .int (v 36), .int (v 37), .int (v 38), .int (v 39), .int (v 40), .int (v 41), va_rf ((r 42).map ad), va_rf ((r 43).map ad), va_rf ((r 44).map ad), va_rf ((r 45).map ad), va_rf ((r 46).map ad), .int (v 47)]
def ce (q : Cq) (kd ln ad : Nat → Nat) (V : Mv) (J : Mj) (R : Mr) (k : Nat) : va_E :=
  if kd k = 10 then .inl (q.1, ln k, .inl (V k))
  else if kd k = 11 then .inl (q.2.1, ln k, .inl (V k))
  else if kd k = 12 then .inl (q.2.2.1, ln k, .inl (V k))
  else if kd k = 13 then .inl (q.2.2.2, ln k, .inr (.inr (.inr (.inr (fun i => (R k i).map ad)))))
  else .inr (kd k, cf (kd k) ad (V k) (J k) (R k))
theorem ce_o {q : Cq} {kd ln ad : Nat → Nat} {V : Mv} {J : Mj} {R : Mr} {k ci : Nat} (h : kd k = ci) (hci : ci < 10) : ce q kd ln ad V J R k = .inr (ci, cf ci ad (V k) (J k) (R k)) := by
  unfold ce
  rw [if_neg (by omega), if_neg (by omega), if_neg (by omega), if_neg (by omega), h]
theorem ce_i {q : Cq} {kd ln ad : Nat → Nat} {V : Mv} {J : Mj} {R : Mr} {k : Nat} (h : kd k = 10) : ce q kd ln ad V J R k = .inl (q.1, ln k, .inl (V k)) := by
  unfold ce
  rw [if_pos h]
theorem ce_b {q : Cq} {kd ln ad : Nat → Nat} {V : Mv} {J : Mj} {R : Mr} {k : Nat} (h : kd k = 11) : ce q kd ln ad V J R k = .inl (q.2.1, ln k, .inl (V k)) := by
  unfold ce
  rw [if_neg (by omega), if_pos h]
theorem ce_z {q : Cq} {kd ln ad : Nat → Nat} {V : Mv} {J : Mj} {R : Mr} {k : Nat} (h : kd k = 12) : ce q kd ln ad V J R k = .inl (q.2.2.1, ln k, .inl (V k)) := by
  unfold ce
  rw [if_neg (by omega), if_neg (by omega), if_pos h]
theorem ce_q {q : Cq} {kd ln ad : Nat → Nat} {V : Mv} {J : Mj} {R : Mr} {k : Nat} (h : kd k = 13) : ce q kd ln ad V J R k = .inl (q.2.2.2, ln k, .inr (.inr (.inr (.inr (fun i => (R k i).map ad))))) := by
  unfold ce
  rw [if_neg (by omega), if_neg (by omega), if_neg (by omega), if_pos h]
theorem ce_eq {q : Cq} {kd ln ad : Nat → Nat} {V V' : Mv} {J J' : Mj} {R R' : Mr} {k : Nat} (hV : V' k = V k) (hJ : J' k = J k) (hR : R' k = R k) : ce q kd ln ad V' J' R' k = ce q kd ln ad V J R k := by
  unfold ce
  rw [hV, hJ, hR]
def wl (q : Cq) (dm : List Nat) (kd ln ad : Nat → Nat) (V : Mv) (J : Mj) (R : Mr) : va_W := dm.map (fun k => (ad k, ce q kd ln ad V J R k))
def tyq (q : Cq) : List (ClassId × FieldType) := [(q.1, .int), (q.2.1, .byte), (q.2.2.1, .boolean), (q.2.2.2, .object "java/lang/Object")]
def wok (A : Nat → Prop) (D : va_G) (q : Cq) (dm : List Nat) (kd ln ad : Nat → Nat) (V : Mv) (J : Mj) (R : Mr) (H : Heap) : Prop := va_P D vwCl (wl q dm kd ln ad V J R) H ∧ va_D A (wl q dm kd ln ad V J R)
theorem wl_get {q : Cq} {dm : List Nat} {kd ln ad : Nat → Nat} {V : Mv} {J : Mj} {R : Mr} {i : Nat} {x : Nat × va_E} (h : (wl q dm kd ln ad V J R)[i]? = some x) : ∃ k, dm[i]? = some k ∧ x = (ad k, ce q kd ln ad V J R k) := by
  unfold wl at h
  rw [List.getElem?_map] at h
  cases hk : dm[i]? with
  | none => rw [hk] at h; cases h
  | some k => rw [hk] at h; exact ⟨k, rfl, (Option.some.inj h).symm⟩
theorem wl_put {q : Cq} {dm : List Nat} {kd ln ad : Nat → Nat} (V : Mv) (J : Mj) (R : Mr) {i k : Nat} (h : dm[i]? = some k) : (wl q dm kd ln ad V J R)[i]? = some (ad k, ce q kd ln ad V J R k) := by
  unfold wl
  rw [List.getElem?_map, h]
  rfl
theorem wl_at {q : Cq} {dm : List Nat} {kd ln ad : Nat → Nat} (V : Mv) (J : Mj) (R : Mr) {k : Nat} (h : k ∈ dm) : ∃ i : Nat, dm[i]? = some k ∧ (wl q dm kd ln ad V J R)[i]? = some (ad k, ce q kd ln ad V J R k) := by
  obtain ⟨i, hi⟩ := List.getElem?_of_mem h
  exact ⟨i, hi, wl_put V J R hi⟩
theorem wl_D {A : Nat → Prop} {q : Cq} {dm : List Nat} {kd ln ad : Nat → Nat} {V V' : Mv} {J J' : Mj} {R R' : Mr} (h : va_D A (wl q dm kd ln ad V J R)) : va_D A (wl q dm kd ln ad V' J' R') := by
  refine ⟨fun i j x y hx hy hxy => ?_, fun i x hx => ?_⟩
  · obtain ⟨a, ha, rfl⟩ := wl_get hx
    obtain ⟨b, hb, rfl⟩ := wl_get hy
    exact h.1 i j _ _ (wl_put V J R ha) (wl_put V J R hb) hxy
  · obtain ⟨a, ha, rfl⟩ := wl_get hx
    exact h.2 i (ad a, ce q kd ln ad V J R a) (wl_put V J R ha)
theorem wl_set {A : Nat → Prop} {q : Cq} {dm : List Nat} {kd ln ad : Nat → Nat} {V V' : Mv} {J J' : Mj} {R R' : Mr} {i k : Nat} {e : va_E} (hD : va_D A (wl q dm kd ln ad V J R)) (hi : dm[i]? = some k) (he : ce q kd ln ad V' J' R' k = e) (ho : ∀ k', k' ≠ k → ce q kd ln ad V' J' R' k' = ce q kd ln ad V J R k') : (wl q dm kd ln ad V J R).set i (ad k, e) = wl q dm kd ln ad V' J' R' := by
  have hl : i < (wl q dm kd ln ad V J R).length := (List.getElem?_eq_some_iff.mp (wl_put (q := q) (kd := kd) (ln := ln) (ad := ad) V J R hi)).1
  apply List.ext_getElem?
  intro n
  by_cases hn : n = i
  · subst hn
    rw [List.getElem?_set_self hl, wl_put V' J' R' hi, he]
  · rw [List.getElem?_set_ne (Ne.symm hn)]
    cases hk : dm[n]? with
    | none =>
      unfold wl
      rw [List.getElem?_map, List.getElem?_map, hk]
      rfl
    | some k' =>
      have hkk : k' ≠ k := fun e2 => by
        subst e2
        exact hn (hD.1 n i _ _ (wl_put V J R hk) (wl_put V J R hi) rfl)
      rw [wl_put V J R hk, wl_put V' J' R' hk, ho k' hkk]
theorem wok_set {A : Nat → Prop} {D : va_G} {q : Cq} {dm : List Nat} {kd ln ad : Nat → Nat} {V V' : Mv} {J J' : Mj} {R R' : Mr} {H H1 : Heap} {i k : Nat} {e : va_E} (hW : wok A D q dm kd ln ad V J R H) (hi : dm[i]? = some k) (he : ce q kd ln ad V' J' R' k = e) (ho : ∀ k', k' ≠ k → ce q kd ln ad V' J' R' k' = ce q kd ln ad V J R k') (hP : va_P D vwCl ((wl q dm kd ln ad V J R).set i (ad k, e)) H1) : wok A D q dm kd ln ad V' J' R' H1 := by
  rw [wl_set hW.2 hi he ho] at hP
  exact ⟨hP, wl_D hW.2⟩
section Rows
variable {p : Program} {l : Launch} {e : Env} {Rm : Room} {s : State} {m : MethodId} {args : Array Value} {below : List Frame} {meth : Method} {c : Code} {H H0 : Heap} {locs : List Loc} {cells slots : Nat} {Q : State → Prop} {cc : ByteArray} {pc : Nat} {ls : Array Slot} {rest : List Value} {A : Nat → Prop} {D : va_G} {q : Cq} {dm : List Nat} {kd ln ad : Nat → Nat} {V : Mv} {J : Mj} {R : Mr}
theorem w_get (hx : p.tables.exec = Jvm.exec) (hb : c.code = cc) {own C : String} {T : u_T} {N ci index : Nat} {Ts : List Cond} (hts : ∀ w ∈ Ts, w.before args s = true) (hin : ∀ w ∈ u_ws C T N, w ∈ Ts) (hown : s.vm.findClass own = some m.cls) (hK : va_K D vwCl (tyq q) s) (hW : wok A D q dm kd ln ad V J R H) {k : Nat} (hk : k ∈ dm) (hd : kd k = ci) (hci : ci < 10) (hc : vwCl[ci]? = some (C, T, N)) (j : Nat) (hj : j < N) {ref : String} (hlink : (Cond.fieldLink own index ref (T j).2.1 (T j).2.2.1).before args s = true) (hsame : ∀ x, s.fieldFound? (T j).1 (T j).2.1 (T j).2.2.1 = some x → s.fieldFound? ref (T j).2.1 (T j).2.2.1 = some x) {v : Value} (hv : (cf ci ad (V k) (J k) (R k))[j]? = some v) (hdg : decode cc pc = .ok (.getfield index, 3))
    (kk : W p l e Rm s m args below meth c H locs cells slots Q (F0 m (pc + 3) ls (v :: rest))) : W p l e Rm s m args below meth c H locs cells slots Q (F0 m pc ls (.ref (ad k) :: rest)) := by
  obtain ⟨i, h1, h2⟩ := wl_at (q := q) (kd := kd) (ln := ln) (ad := ad) V J R hk
  rw [ce_o hd hci] at h2
  exact va_get hx hb hts hin hown hK hW.1 i h2 hc j hj hlink hsame hv hdg kk
theorem w_getr (hx : p.tables.exec = Jvm.exec) (hb : c.code = cc) {own C : String} {T : u_T} {N ci index : Nat} {Ts : List Cond} (hts : ∀ w ∈ Ts, w.before args s = true) (hin : ∀ w ∈ u_ws C T N, w ∈ Ts) (hown : s.vm.findClass own = some m.cls) (hK : va_K D vwCl (tyq q) s) (hW : wok A D q dm kd ln ad V J R H) {k : Nat} (hk : k ∈ dm) (hd : kd k = ci) (hci : ci < 10) (hc : vwCl[ci]? = some (C, T, N)) (j : Nat) (hj : j < N) {ref : String} (hlink : (Cond.fieldLink own index ref (T j).2.1 (T j).2.2.1).before args s = true) (hsame : ∀ x, s.fieldFound? (T j).1 (T j).2.1 (T j).2.2.1 = some x → s.fieldFound? ref (T j).2.1 (T j).2.2.1 = some x) (hv : (cf ci ad (V k) (J k) (R k))[j]? = some (va_rf ((R k j).map ad))) {t : Nat} (ht : R k j = some t) (hdg : decode cc pc = .ok (.getfield index, 3))
    (kk : W p l e Rm s m args below meth c H locs cells slots Q (F0 m (pc + 3) ls (.ref (ad t) :: rest))) : W p l e Rm s m args below meth c H locs cells slots Q (F0 m pc ls (.ref (ad k) :: rest)) := by
  rw [ht] at hv
  exact w_get hx hb hts hin hown hK hW hk hd hci hc j hj hlink hsame (v := .ref (ad t)) hv hdg kk
theorem w_puti (hx : p.tables.exec = Jvm.exec) (hb : c.code = cc) {own C : String} {T : u_T} {N ci index : Nat} {Ts : List Cond} (hts : ∀ w ∈ Ts, w.before args s = true) (hin : ∀ w ∈ u_ws C T N, w ∈ Ts) (ty0 : Nat → FieldType) (hty : ∀ k, k < N → parseFieldDescriptor (T k).2.2.1 = some (ty0 k)) (hnm : ∀ a, a < N → ∀ b, b < N → a ≠ b → (T a).2.1 ≠ (T b).2.1) (hown : s.vm.findClass own = some m.cls) (hK : va_K D vwCl (tyq q) s) (hW : wok A D q dm kd ln ad V J R H) (hS : va_S A H0 H locs) {k : Nat} (hk : k ∈ dm) (hd : kd k = ci) (hci : ci < 10) (hc : vwCl[ci]? = some (C, T, N)) (j : Nat) (hj : j < N) {ref : String} (hlink : (Cond.fieldLink own index ref (T j).2.1 (T j).2.2.1).before args s = true) (hsame : ∀ x, s.fieldFound? (T j).1 (T j).2.1 (T j).2.2.1 = some x → s.fieldFound? ref (T j).2.1 (T j).2.2.1 = some x) (hfin : (T j).2.2.2 = false) {ty : FieldType} {v : Int32} (hdt : parseFieldDescriptor (T j).2.2.1 = some ty) (hn : narrow ty (.int v) = .int v) (hfit : fits ty (.int v) = true) (hl : j < (cf ci ad (V k) (J k) (R k)).length) (hset : cf ci ad (va_up (V k) j v) (J k) (R k) = (cf ci ad (V k) (J k) (R k)).set j (.int v)) (hdg : decode cc pc = .ok (.putfield index, 3))
    (kk : ∀ (H1 : Heap) (locs1 : List Loc), wok A D q dm kd ln ad (u2 V k j v) J R H1 → va_S A H0 H1 locs1 → W p l e Rm s m args below meth c H1 locs1 cells slots Q (F0 m (pc + 3) ls rest)) : W p l e Rm s m args below meth c H locs cells slots Q (F0 m pc ls (.int v :: .ref (ad k) :: rest)) := by
  obtain ⟨i, h1, h2⟩ := wl_at (q := q) (kd := kd) (ln := ln) (ad := ad) V J R hk
  rw [ce_o hd hci] at h2
  refine va_put hx hb hts hin ty0 hty hnm hown hK hW.1 hW.2 hS i h2 hc j hj hlink hsame hfin hdt hn hfit hl hdg (fun H1 locs1 hP1 hD1 hS1 => kk H1 locs1 ?_ hS1)
  refine wok_set hW h1 ?_ (fun k' hk' => ce_eq (u2_ne hk') rfl rfl) hP1
  rw [ce_o hd hci, u2_s, hset]
theorem w_putl (hx : p.tables.exec = Jvm.exec) (hb : c.code = cc) {own C : String} {T : u_T} {N ci index : Nat} {Ts : List Cond} (hts : ∀ w ∈ Ts, w.before args s = true) (hin : ∀ w ∈ u_ws C T N, w ∈ Ts) (ty0 : Nat → FieldType) (hty : ∀ k, k < N → parseFieldDescriptor (T k).2.2.1 = some (ty0 k)) (hnm : ∀ a, a < N → ∀ b, b < N → a ≠ b → (T a).2.1 ≠ (T b).2.1) (hown : s.vm.findClass own = some m.cls) (hK : va_K D vwCl (tyq q) s) (hW : wok A D q dm kd ln ad V J R H) (hS : va_S A H0 H locs) {k : Nat} (hk : k ∈ dm) (hd : kd k = ci) (hci : ci < 10) (hc : vwCl[ci]? = some (C, T, N)) (j : Nat) (hj : j < N) {ref : String} (hlink : (Cond.fieldLink own index ref (T j).2.1 (T j).2.2.1).before args s = true) (hsame : ∀ x, s.fieldFound? (T j).1 (T j).2.1 (T j).2.2.1 = some x → s.fieldFound? ref (T j).2.1 (T j).2.2.1 = some x) (hfin : (T j).2.2.2 = false) {ty : FieldType} {v : Int64} (hdt : parseFieldDescriptor (T j).2.2.1 = some ty) (hn : narrow ty (.long v) = .long v) (hfit : fits ty (.long v) = true) (hl : j < (cf ci ad (V k) (J k) (R k)).length) (hset : cf ci ad (V k) (va_up (J k) j v) (R k) = (cf ci ad (V k) (J k) (R k)).set j (.long v)) (hdg : decode cc pc = .ok (.putfield index, 3))
    (kk : ∀ (H1 : Heap) (locs1 : List Loc), wok A D q dm kd ln ad V (u2 J k j v) R H1 → va_S A H0 H1 locs1 → W p l e Rm s m args below meth c H1 locs1 cells slots Q (F0 m (pc + 3) ls rest)) : W p l e Rm s m args below meth c H locs cells slots Q (F0 m pc ls (.long v :: .ref (ad k) :: rest)) := by
  obtain ⟨i, h1, h2⟩ := wl_at (q := q) (kd := kd) (ln := ln) (ad := ad) V J R hk
  rw [ce_o hd hci] at h2
  refine va_put hx hb hts hin ty0 hty hnm hown hK hW.1 hW.2 hS i h2 hc j hj hlink hsame hfin hdt hn hfit hl hdg (fun H1 locs1 hP1 hD1 hS1 => kk H1 locs1 ?_ hS1)
  refine wok_set hW h1 ?_ (fun k' hk' => ce_eq rfl (u2_ne hk') rfl) hP1
  rw [ce_o hd hci, u2_s, hset]
theorem w_iald (hx : p.tables.exec = Jvm.exec) (hb : c.code = cc) (hK : va_K D vwCl (tyq q) s) (hW : wok A D q dm kd ln ad V J R H) {k : Nat} (hk : k ∈ dm) (hd : kd k = 10) {i : Int32} (hin : vp_in i (ln k)) (hdg : decode cc pc = .ok (.iaload, 1))
    (kk : W p l e Rm s m args below meth c H locs cells slots Q (F0 m (pc + 1) ls (.int (V k i.toNatClampNeg) :: rest))) : W p l e Rm s m args below meth c H locs cells slots Q (F0 m pc ls (.int i :: .ref (ad k) :: rest)) := by
  obtain ⟨n, h1, h2⟩ := wl_at (q := q) (kd := kd) (ln := ln) (ad := ad) V J R hk
  rw [ce_i hd] at h2
  exact va_iald hx hb hK hW.1 n 0 h2 rfl hin hdg kk
theorem w_bald (hx : p.tables.exec = Jvm.exec) (hb : c.code = cc) (hK : va_K D vwCl (tyq q) s) (hW : wok A D q dm kd ln ad V J R H) {k : Nat} (hk : k ∈ dm) (hd : kd k = 11) {i : Int32} (hin : vp_in i (ln k)) (hdg : decode cc pc = .ok (.baload, 1))
    (kk : W p l e Rm s m args below meth c H locs cells slots Q (F0 m (pc + 1) ls (.int (V k i.toNatClampNeg) :: rest))) : W p l e Rm s m args below meth c H locs cells slots Q (F0 m pc ls (.int i :: .ref (ad k) :: rest)) := by
  obtain ⟨n, h1, h2⟩ := wl_at (q := q) (kd := kd) (ln := ln) (ad := ad) V J R hk
  rw [ce_b hd] at h2
  exact va_bald hx hb hK hW.1 n 1 h2 rfl hin hdg kk
theorem w_zald (hx : p.tables.exec = Jvm.exec) (hb : c.code = cc) (hK : va_K D vwCl (tyq q) s) (hW : wok A D q dm kd ln ad V J R H) {k : Nat} (hk : k ∈ dm) (hd : kd k = 12) {i : Int32} (hin : vp_in i (ln k)) (hdg : decode cc pc = .ok (.baload, 1))
    (kk : W p l e Rm s m args below meth c H locs cells slots Q (F0 m (pc + 1) ls (.int (V k i.toNatClampNeg) :: rest))) : W p l e Rm s m args below meth c H locs cells slots Q (F0 m pc ls (.int i :: .ref (ad k) :: rest)) := by
  obtain ⟨n, h1, h2⟩ := wl_at (q := q) (kd := kd) (ln := ln) (ad := ad) V J R hk
  rw [ce_z hd] at h2
  exact va_zald hx hb hK hW.1 n 2 h2 rfl hin hdg kk
theorem w_aald (hx : p.tables.exec = Jvm.exec) (hb : c.code = cc) (hK : va_K D vwCl (tyq q) s) (hW : wok A D q dm kd ln ad V J R H) {k : Nat} (hk : k ∈ dm) (hd : kd k = 13) {i : Int32} (hin : vp_in i (ln k)) (hdg : decode cc pc = .ok (.aaload, 1))
    (kk : W p l e Rm s m args below meth c H locs cells slots Q (F0 m (pc + 1) ls (va_rf ((R k i.toNatClampNeg).map ad) :: rest))) : W p l e Rm s m args below meth c H locs cells slots Q (F0 m pc ls (.int i :: .ref (ad k) :: rest)) := by
  obtain ⟨n, h1, h2⟩ := wl_at (q := q) (kd := kd) (ln := ln) (ad := ad) V J R hk
  rw [ce_q hd] at h2
  exact va_aldq hx hb hK hW.1 n 3 h2 rfl hin hdg kk
theorem w_iast (hx : p.tables.exec = Jvm.exec) (hb : c.code = cc) (hK : va_K D vwCl (tyq q) s) (hW : wok A D q dm kd ln ad V J R H) (hS : va_S A H0 H locs) {k : Nat} (hk : k ∈ dm) (hd : kd k = 10) {i x : Int32} (hin : vp_in i (ln k)) (hdg : decode cc pc = .ok (.iastore, 1))
    (kk : ∀ (H1 : Heap) (locs1 : List Loc), wok A D q dm kd ln ad (u2 V k i.toNatClampNeg x) J R H1 → va_S A H0 H1 locs1 → W p l e Rm s m args below meth c H1 locs1 cells slots Q (F0 m (pc + 1) ls rest)) : W p l e Rm s m args below meth c H locs cells slots Q (F0 m pc ls (.int x :: .int i :: .ref (ad k) :: rest)) := by
  obtain ⟨n, h1, h2⟩ := wl_at (q := q) (kd := kd) (ln := ln) (ad := ad) V J R hk
  rw [ce_i hd] at h2
  refine va_iast hx hb hK hW.1 hW.2 hS n 0 h2 rfl hin hdg (fun H1 locs1 hP1 hD1 hS1 => kk H1 locs1 ?_ hS1)
  refine wok_set hW h1 ?_ (fun k' hk' => ce_eq (u2_ne hk') rfl rfl) hP1
  rw [ce_i hd, u2_s]
  rfl
theorem w_bast (hx : p.tables.exec = Jvm.exec) (hb : c.code = cc) (hK : va_K D vwCl (tyq q) s) (hW : wok A D q dm kd ln ad V J R H) (hS : va_S A H0 H locs) {k : Nat} (hk : k ∈ dm) (hd : kd k = 11) {i x : Int32} (hin : vp_in i (ln k)) (hdg : decode cc pc = .ok (.bastore, 1))
    (kk : ∀ (H1 : Heap) (locs1 : List Loc), wok A D q dm kd ln ad (u2 V k i.toNatClampNeg (vp_nar .byte x)) J R H1 → va_S A H0 H1 locs1 → W p l e Rm s m args below meth c H1 locs1 cells slots Q (F0 m (pc + 1) ls rest)) : W p l e Rm s m args below meth c H locs cells slots Q (F0 m pc ls (.int x :: .int i :: .ref (ad k) :: rest)) := by
  obtain ⟨n, h1, h2⟩ := wl_at (q := q) (kd := kd) (ln := ln) (ad := ad) V J R hk
  rw [ce_b hd] at h2
  refine va_bast hx hb hK hW.1 hW.2 hS n 1 h2 rfl hin hdg (fun H1 locs1 hP1 hD1 hS1 => kk H1 locs1 ?_ hS1)
  refine wok_set hW h1 ?_ (fun k' hk' => ce_eq (u2_ne hk') rfl rfl) hP1
  rw [ce_b hd, u2_s]
  rfl
theorem w_zast (hx : p.tables.exec = Jvm.exec) (hb : c.code = cc) (hK : va_K D vwCl (tyq q) s) (hW : wok A D q dm kd ln ad V J R H) (hS : va_S A H0 H locs) {k : Nat} (hk : k ∈ dm) (hd : kd k = 12) {i x : Int32} (hin : vp_in i (ln k)) (hdg : decode cc pc = .ok (.bastore, 1))
    (kk : ∀ (H1 : Heap) (locs1 : List Loc), wok A D q dm kd ln ad (u2 V k i.toNatClampNeg (vp_nar .boolean x)) J R H1 → va_S A H0 H1 locs1 → W p l e Rm s m args below meth c H1 locs1 cells slots Q (F0 m (pc + 1) ls rest)) : W p l e Rm s m args below meth c H locs cells slots Q (F0 m pc ls (.int x :: .int i :: .ref (ad k) :: rest)) := by
  obtain ⟨n, h1, h2⟩ := wl_at (q := q) (kd := kd) (ln := ln) (ad := ad) V J R hk
  rw [ce_z hd] at h2
  refine va_zast hx hb hK hW.1 hW.2 hS n 2 h2 rfl hin hdg (fun H1 locs1 hP1 hD1 hS1 => kk H1 locs1 ?_ hS1)
  refine wok_set hW h1 ?_ (fun k' hk' => ce_eq (u2_ne hk') rfl rfl) hP1
  rw [ce_z hd, u2_s]
  rfl
theorem w_alen (hx : p.tables.exec = Jvm.exec) (hb : c.code = cc) (hK : va_K D vwCl (tyq q) s) (hW : wok A D q dm kd ln ad V J R H) {k : Nat} (hk : k ∈ dm) (hd : kd k = 10) {v : Int32} (hv : nI (ln k) = v) (hdg : decode cc pc = .ok (.arraylength, 1))
    (kk : W p l e Rm s m args below meth c H locs cells slots Q (F0 m (pc + 1) ls (.int v :: rest))) : W p l e Rm s m args below meth c H locs cells slots Q (F0 m pc ls (.ref (ad k) :: rest)) := by
  obtain ⟨n, h1, h2⟩ := wl_at (q := q) (kd := kd) (ln := ln) (ad := ad) V J R hk
  rw [ce_i hd] at h2
  exact va_alen hx hb hK hW.1 n 0 h2 rfl hv hdg kk
theorem w_alenq (hx : p.tables.exec = Jvm.exec) (hb : c.code = cc) (hK : va_K D vwCl (tyq q) s) (hW : wok A D q dm kd ln ad V J R H) {k : Nat} (hk : k ∈ dm) (hd : kd k = 13) {v : Int32} (hv : nI (ln k) = v) (hdg : decode cc pc = .ok (.arraylength, 1))
    (kk : W p l e Rm s m args below meth c H locs cells slots Q (F0 m (pc + 1) ls (.int v :: rest))) : W p l e Rm s m args below meth c H locs cells slots Q (F0 m pc ls (.ref (ad k) :: rest)) := by
  obtain ⟨n, h1, h2⟩ := wl_at (q := q) (kd := kd) (ln := ln) (ad := ad) V J R hk
  rw [ce_q hd] at h2
  exact va_alen hx hb hK hW.1 n 3 h2 rfl hv hdg kk
theorem w_some {o : Option Nat} {t : Nat} (ho : o = some t) (kk : W p l e Rm s m args below meth c H locs cells slots Q (F0 m pc ls (.ref (ad t) :: rest))) : W p l e Rm s m args below meth c H locs cells slots Q (F0 m pc ls (va_rf (o.map ad) :: rest)) := by
  rw [ho]
  exact kk
theorem w_none {o : Option Nat} (ho : o = none) (kk : W p l e Rm s m args below meth c H locs cells slots Q (F0 m pc ls (.null :: rest))) : W p l e Rm s m args below meth c H locs cells slots Q (F0 m pc ls (va_rf (o.map ad) :: rest)) := by
  rw [ho]
  exact kk
end Rows
/-! contracts -/
def xok (X : (Nat → Prop) → State → Prop) : Prop :=
  (∀ (A : Nat → Prop) (U : State) (g : JFrame) (mk : MethodId) (a : Array Value), X A U → X A (U.calling g mk a)) ∧
  ∀ (A B : Nat → Prop) (s U : State), (∀ q, B q → A q) → s.WarmedH U.vm → s.heap.size ≤ U.heap.size → (∀ q : Nat, q < s.heap.size → ¬ A q → U.heap[q]? = s.heap[q]?) → X A s → X B U
def PreX (X : (Nat → Prop) → State → Prop) (D : va_G) (q : Cq) (dm : List Nat) (kd ln ad : Nat → Nat) (V : Mv) (J : Mj) (R : Mr) (sz : Nat) (U : State) : Prop :=
  U.heap.size = sz ∧ wok (fun _ => True) D q dm kd ln ad V J R U.heap ∧ va_K D vwCl (tyq q) U ∧ X (va_A (wl q dm kd ln ad V J R) sz) U
def CtI (X : (Nat → Prop) → State → Prop) (l : Launch) (y : MethodName) (ws : List Cond) (rm : Room) (D : va_G) (q : Cq) (dm : List Nat) (kd ln ad : Nat → Nat) (V : Mv) (J : Mj) (R : Mr) (av : List Value) (rv : Int32) (V' : Mv) (J' : Mj) (R' : Mr) : Prop :=
  ∀ sz : Nat, Met l y ws rm (va_Pc av (PreX X D q dm kd ln ad V J R sz)) (va_Qi (fun (r : Int32) (_ : Unit) => r = rv) (fun _ t => va_P D vwCl (wl q dm kd ln ad V' J' R') t.heap) (va_A (wl q dm kd ln ad V J R) sz)) 0 0 (va_A (wl q dm kd ln ad V J R) sz)
def CtL (X : (Nat → Prop) → State → Prop) (l : Launch) (y : MethodName) (ws : List Cond) (rm : Room) (D : va_G) (q : Cq) (dm : List Nat) (kd ln ad : Nat → Nat) (V : Mv) (J : Mj) (R : Mr) (av : List Value) (rv : Int64) (V' : Mv) (J' : Mj) (R' : Mr) : Prop :=
  ∀ sz : Nat, Met l y ws rm (va_Pc av (PreX X D q dm kd ln ad V J R sz)) (va_Ql (fun (r : Int64) (_ : Unit) => r = rv) (fun _ t => va_P D vwCl (wl q dm kd ln ad V' J' R') t.heap) (va_A (wl q dm kd ln ad V J R) sz)) 0 0 (va_A (wl q dm kd ln ad V J R) sz)
def CtV (X : (Nat → Prop) → State → Prop) (l : Launch) (y : MethodName) (ws : List Cond) (rm : Room) (D : va_G) (q : Cq) (dm : List Nat) (kd ln ad : Nat → Nat) (V : Mv) (J : Mj) (R : Mr) (av : List Value) (V' : Mv) (J' : Mj) (R' : Mr) : Prop :=
  ∀ sz : Nat, Met l y ws rm (va_Pc av (PreX X D q dm kd ln ad V J R sz)) (va_Qv (fun (_ : Unit) => True) (fun _ t => va_P D vwCl (wl q dm kd ln ad V' J' R') t.heap) (va_A (wl q dm kd ln ad V J R) sz)) 0 0 (va_A (wl q dm kd ln ad V J R) sz)
def CtQ (X : (Nat → Prop) → State → Prop) (l : Launch) (y : MethodName) (ws : List Cond) (rm : Room) (D : va_G) (q : Cq) (dm : List Nat) (kd ln ad : Nat → Nat) (V : Mv) (J : Mj) (R : Mr) (av : List Value) (o : Option Nat) (V' : Mv) (J' : Mj) (R' : Mr) : Prop :=
  ∀ sz : Nat, Met l y ws rm (va_Pc av (PreX X D q dm kd ln ad V J R sz)) (va_Qq (fun (r : Option Nat) (_ : Unit) => r = o.map ad) (fun _ t => va_P D vwCl (wl q dm kd ln ad V' J' R') t.heap) (va_A (wl q dm kd ln ad V J R) sz)) 0 0 (va_A (wl q dm kd ln ad V J R) sz)
/-- what a body has at its entry -/
def bodyOf (X : (Nat → Prop) → State → Prop) (l : Launch) (y : MethodName) (ws : List Cond) (rm : Room) (D : va_G) (q : Cq) (dm : List Nat) (kd ln ad : Nat → Nat) (V : Mv) (J : Mj) (R : Mr) (av : List Value) (cc : ByteArray) (maxL : Nat) (ret : Option FieldType) (Qc : (Nat → Prop) → Array Value → State → Outcome → State → Prop) (mc ms : Nat) : Prop :=
  ∀ (p : Program) (e : Env) (s : State) (m : MethodId) (below : List Frame) (meth : Method) (c : Code) (A : Nat → Prop), p.tables.exec = Jvm.exec → c.code = cc → meth.sig.returnType = ret → c.maxLocals = maxL → (∀ w ∈ ws, w.before av.toArray s = true) → s.vm.findClass y.cls = some m.cls → meth.locks = false → meth.name = y.name → va_K D vwCl (tyq q) s → wok A D q dm kd ln ad V J R s.heap → (∀ q, s.heap.size ≤ q → A q) → X A s →
  ∀ ls : Array Slot, lv_has ls maxL (lv_args 0 av) → W p l e rm s m av.toArray below meth c s.heap [] 0 0 (MQ below (Qc A) av.toArray s mc ms A) (F0 m 0 ls [])
theorem met_of {X : (Nat → Prop) → State → Prop} {l : Launch} {y : MethodName} {ws ws' : List Cond} {rm : Room} {D : va_G} {q : Cq} {dm : List Nat} {kd ln ad : Nat → Nat} {V : Mv} {J : Mj} {R : Mr} {av : List Value} {cc : ByteArray} {maxL : Nat} {ret : Option FieldType} {Qc : (Nat → Prop) → Array Value → State → Outcome → State → Prop} {mc ms sz : Nat}
    (hy : plainName y.cls = true) (hw : ws = Cond.code y cc maxL ret :: ws') (hlen : (lg_sl av).length ≤ maxL) (body : bodyOf X l y ws rm D q dm kd ln ad V J R av cc maxL ret Qc mc ms) :
    Met l y ws rm (va_Pc av (PreX X D q dm kd ln ad V J R sz)) (Qc (va_A (wl q dm kd ln ad V J R) sz)) mc ms (va_A (wl q dm kd ln ad V J R) sz) := by
  refine Met.ofW (cc := cc) (maxL := maxL) (ret := ret) hy hw ?_
  intro p e s m args below meth c s₁ B hml hv
  obtain ⟨rfl, hsz, hW, hK, hXs⟩ := hv
  subst hsz
  have hl := lv_entry av (n := maxL) hlen
  rw [lg_entry_eq]
  exact body p e s m below meth c _ B.exec B.bytes B.returns hml (atoms_spec (ws := ws) B.pre) (findClass_of_methodNamed B.named) B.notSynchronized (name_of_methodNamed B.named B.method).1 hK ⟨hW.1, hW.2.self⟩ (fun q h => Or.inr h) hXs _ hl
abbrev QI (rv : Int32) (D : va_G) (q : Cq) (dm : List Nat) (kd ln ad : Nat → Nat) (V' : Mv) (J' : Mj) (R' : Mr) : (Nat → Prop) → Array Value → State → Outcome → State → Prop := fun A => va_Qi (fun (r : Int32) (_ : Unit) => r = rv) (fun _ t => va_P D vwCl (wl q dm kd ln ad V' J' R') t.heap) A
abbrev QL (rv : Int64) (D : va_G) (q : Cq) (dm : List Nat) (kd ln ad : Nat → Nat) (V' : Mv) (J' : Mj) (R' : Mr) : (Nat → Prop) → Array Value → State → Outcome → State → Prop := fun A => va_Ql (fun (r : Int64) (_ : Unit) => r = rv) (fun _ t => va_P D vwCl (wl q dm kd ln ad V' J' R') t.heap) A
abbrev QV (D : va_G) (q : Cq) (dm : List Nat) (kd ln ad : Nat → Nat) (V' : Mv) (J' : Mj) (R' : Mr) : (Nat → Prop) → Array Value → State → Outcome → State → Prop := fun A => va_Qv (fun (_ : Unit) => True) (fun _ t => va_P D vwCl (wl q dm kd ln ad V' J' R') t.heap) A
abbrev QQ (o : Option Nat) (D : va_G) (q : Cq) (dm : List Nat) (kd ln ad : Nat → Nat) (V' : Mv) (J' : Mj) (R' : Mr) : (Nat → Prop) → Array Value → State → Outcome → State → Prop := fun A => va_Qq (fun (r : Option Nat) (_ : Unit) => r = o.map ad) (fun _ t => va_P D vwCl (wl q dm kd ln ad V' J' R') t.heap) A
section Ends
variable {X : (Nat → Prop) → State → Prop} {l : Launch} {y : MethodName} {ws ws' : List Cond} {rm : Room} {D : va_G} {q : Cq} {dm : List Nat} {kd ln ad : Nat → Nat} {V V' : Mv} {J J' : Mj} {R R' : Mr} {av : List Value} {cc : ByteArray} {maxL : Nat} {ret : Option FieldType}
theorem CtI_of {rv : Int32} (hy : plainName y.cls = true) (hw : ws = Cond.code y cc maxL ret :: ws') (hlen : (lg_sl av).length ≤ maxL) (body : bodyOf X l y ws rm D q dm kd ln ad V J R av cc maxL ret (QI rv D q dm kd ln ad V' J' R') 0 0) : CtI X l y ws rm D q dm kd ln ad V J R av rv V' J' R' := fun _ => met_of hy hw hlen body
theorem CtL_of {rv : Int64} (hy : plainName y.cls = true) (hw : ws = Cond.code y cc maxL ret :: ws') (hlen : (lg_sl av).length ≤ maxL) (body : bodyOf X l y ws rm D q dm kd ln ad V J R av cc maxL ret (QL rv D q dm kd ln ad V' J' R') 0 0) : CtL X l y ws rm D q dm kd ln ad V J R av rv V' J' R' := fun _ => met_of hy hw hlen body
theorem CtV_of (hy : plainName y.cls = true) (hw : ws = Cond.code y cc maxL ret :: ws') (hlen : (lg_sl av).length ≤ maxL) (body : bodyOf X l y ws rm D q dm kd ln ad V J R av cc maxL ret (QV D q dm kd ln ad V' J' R') 0 0) : CtV X l y ws rm D q dm kd ln ad V J R av V' J' R' := fun _ => met_of hy hw hlen body
theorem CtQ_of {o : Option Nat} (hy : plainName y.cls = true) (hw : ws = Cond.code y cc maxL ret :: ws') (hlen : (lg_sl av).length ≤ maxL) (body : bodyOf X l y ws rm D q dm kd ln ad V J R av cc maxL ret (QQ o D q dm kd ln ad V' J' R') 0 0) : CtQ X l y ws rm D q dm kd ln ad V J R av o V' J' R' := fun _ => met_of hy hw hlen body
variable {p : Program} {e : Env} {Rm : Room} {s : State} {m : MethodId} {args : Array Value} {below : List Frame} {meth : Method} {c : Code} {H : Heap} {locs : List Loc} {cells slots : Nat} {Q : State → Prop} {pc : Nat} {ls : Array Slot} {rest : List Value} {A : Nat → Prop}
theorem w_iret (hx : p.tables.exec = Jvm.exec) (hb : c.code = cc) (hr : meth.sig.returnType = some .int) (hlk : meth.locks = false) (hW : wok A D q dm kd ln ad V J R H) (hS : va_S A s.heap H locs) {v rv : Int32} (ev : v = rv) (eV : V = V') (eJ : J = J') (eR : R = R') (hdg : decode cc pc = .ok (.ireturn, 1)) : W p l e Rm s m args below meth c H locs cells slots (MQ below (QI rv D q dm kd ln ad V' J' R' A) args s cells slots A) (F0 m pc ls [.int v]) := by
  subst ev eV eJ eR
  exact W.iret hx hb hr (fun t ht _ => ⟨⟨v, (), rfl, rfl, by show va_P _ _ _ t.heap; rw [ht]; exact hW.1⟩, hS.F ht⟩) hS.2.2 hdg hlk
theorem w_zret (hx : p.tables.exec = Jvm.exec) (hb : c.code = cc) (hr : meth.sig.returnType = some .boolean) (hlk : meth.locks = false) (hW : wok A D q dm kd ln ad V J R H) (hS : va_S A s.heap H locs) {v rv : Int32} (hz : v = 0 ∨ v = 1) (ev : v = rv) (eV : V = V') (eJ : J = J') (eR : R = R') (hdg : decode cc pc = .ok (.ireturn, 1)) : W p l e Rm s m args below meth c H locs cells slots (MQ below (QI rv D q dm kd ln ad V' J' R' A) args s cells slots A) (F0 m pc ls [.int v]) := by
  subst ev eV eJ eR
  have hn : narrow .boolean (.int v) = .int v := by rcases hz with rfl | rfl <;> decide
  exact W.zret hx hb hr hn (fun t ht _ => ⟨⟨v, (), rfl, rfl, by show va_P _ _ _ t.heap; rw [ht]; exact hW.1⟩, hS.F ht⟩) hS.2.2 hdg hlk
theorem w_lret (hx : p.tables.exec = Jvm.exec) (hb : c.code = cc) (hr : meth.sig.returnType = some .long) (hlk : meth.locks = false) (hW : wok A D q dm kd ln ad V J R H) (hS : va_S A s.heap H locs) {v rv : Int64} (ev : v = rv) (eV : V = V') (eJ : J = J') (eR : R = R') (hdg : decode cc pc = .ok (.lreturn, 1)) : W p l e Rm s m args below meth c H locs cells slots (MQ below (QL rv D q dm kd ln ad V' J' R' A) args s cells slots A) (F0 m pc ls [.long v]) := by
  subst ev eV eJ eR
  exact W.lret hx hb hr (fun t ht _ => ⟨⟨v, (), rfl, rfl, by show va_P _ _ _ t.heap; rw [ht]; exact hW.1⟩, hS.F ht⟩) hS.2.2 hdg hlk
theorem w_vret (hx : p.tables.exec = Jvm.exec) (hb : c.code = cc) (hr : meth.sig.returnType = none) (hlk : meth.locks = false) (hW : wok A D q dm kd ln ad V J R H) (hS : va_S A s.heap H locs) (eV : V = V') (eJ : J = J') (eR : R = R') (hdg : decode cc pc = .ok (.return_, 1)) : W p l e Rm s m args below meth c H locs cells slots (MQ below (QV D q dm kd ln ad V' J' R' A) args s cells slots A) (F0 m pc ls []) := by
  subst eV eJ eR
  exact W.vret hx hb hr (fun t ht _ => ⟨⟨(), rfl, trivial, by show va_P _ _ _ t.heap; rw [ht]; exact hW.1⟩, hS.F ht⟩) hS.2.2 hdg hlk
theorem w_qret (hx : p.tables.exec = Jvm.exec) (hb : c.code = cc) {rt : FieldType} (hr : meth.sig.returnType = some rt) (hrt : (∃ n, rt = .object n) ∨ ∃ t, rt = .array t) (hlk : meth.locks = false) (hW : wok A D q dm kd ln ad V J R H) (hS : va_S A s.heap H locs) {v : Value} {o : Option Nat} (ev : v = va_rf (o.map ad)) (eV : V = V') (eJ : J = J') (eR : R = R') (hdg : decode cc pc = .ok (.areturn, 1)) : W p l e Rm s m args below meth c H locs cells slots (MQ below (QQ o D q dm kd ln ad V' J' R' A) args s cells slots A) (F0 m pc ls [v]) := by
  subst ev eV eJ eR
  exact W.aret hx hb hr hrt (va_rf_or _) (fun t ht _ => ⟨⟨o.map ad, (), rfl, rfl, by show va_P _ _ _ t.heap; rw [ht]; exact hW.1⟩, hS.F ht⟩) hS.2.2 hdg hlk
variable {bytes : ByteArray} {nL mc ms n index : Nat} {Ts : List Cond} {own C : String} {b : Nat} {As st0 : List Value} {Qc : (Nat → Prop) → Array Value → State → Outcome → State → Prop}
theorem w_rcv {k ci : Nat} {T : u_T} {N : Nat} (hK : va_K D vwCl (tyq q) s) (hW : wok A D q dm kd ln ad V J R H) (hk : k ∈ dm) (hd : kd k = ci) (hci : ci < 10) (hc : vwCl[ci]? = some (C, T, N)) : ∃ cell : Cell, H[ad k]? = some cell ∧ cell.vm.isStatics = false ∧ s.vm.findClass C = some cell.cls := by
  obtain ⟨i, h1, h2⟩ := wl_at (q := q) (kd := kd) (ln := ln) (ad := ad) V J R hk
  rw [ce_o hd hci] at h2
  exact va_recv hK hW.1 hc h2
theorem preX_blind (hxo : xok X) {sz : Nat} : FrameBlind (va_Pc av (PreX X D q dm kd ln ad V J R sz)) := by
  intro a U g mk h
  obtain ⟨h1, h2, h3, h4, h5⟩ := h
  exact ⟨h1, h2, h3, va_K.moved (u := U) (U := U.calling g mk a) (Vm.Alike.refl U.vm) h4, hxo.1 _ _ _ _ _ h5⟩
theorem w_free (hW : wok A D q dm kd ln ad V J R H) (hS : va_S A s.heap H locs) (hA : ∀ q, s.heap.size ≤ q → A q) : ∀ a, va_A (wl q dm kd ln ad V J R) H.size a → A a := by
  intro a h
  rcases h with ⟨k, x, h⟩ | h
  · exact hW.2.2 k (a, x) h
  · exact hA a (Nat.le_trans hS.1 h)
theorem preX_at (hxo : xok X) (hK : va_K D vwCl (tyq q) s) (hW : wok A D q dm kd ln ad V J R H) (hS : va_S A s.heap H locs) (hA : ∀ q, s.heap.size ≤ q → A q) (hXs : X A s) (U : State) (hU : U.heap = H) (hWm : s.WarmedH U.vm) : va_Pc av (PreX X D q dm kd ln ad V J R H.size) av.toArray U := by
  refine ⟨rfl, by rw [hU], by rw [hU]; exact ⟨hW.1, hW.2.weaken (fun _ _ _ _ => trivial)⟩, va_K.moved hWm.alike hK, ?_⟩
  exact hxo.2 A _ s U (w_free hW hS hA) hWm (by rw [hU]; exact hS.1) (fun a h1 h2 => by rw [hU]; exact hS.2.1 a h1 h2) hXs
theorem w_runV (S : CallFix p m c cc nL s args Ts own) (hM : ∀ sz : Nat, Met l y ws rm (va_Pc (.ref b :: As) (PreX X D q dm kd ln ad V J R sz)) (Qc (va_A (wl q dm kd ln ad V J R) sz)) mc ms (va_A (wl q dm kd ln ad V J R) sz)) (hxo : xok X) (cw : CallW Rm s args own C index y bytes maxL ret ws rm mc ms n) (hK : va_K D vwCl (tyq q) s) (hW : wok A D q dm kd ln ad V J R H) (hS : va_S A s.heap H locs) (hA : ∀ q, s.heap.size ≤ q → A q) (hXs : X A s) (hrc : ∃ cell : Cell, H[b]? = some cell ∧ cell.vm.isStatics = false ∧ s.vm.findClass C = some cell.cls)
    (hn : As.length = n) (hsize : ls.size = nL) (hst : st0 = As.reverse ++ .ref b :: rest) (h8 : (rest.map fun v => v.category).sum ≤ 8) (hdg : decode cc pc = .ok (.invokevirtual index, 3)) (hf : cells + mc ≤ Rm.cells ∧ slots + ms ≤ Rm.slots) :
    va_Run p l e Rm s m args below meth c H locs cells slots mc ms (F0 m pc ls st0) rest (Qc (va_A (wl q dm kd ln ad V J R) H.size) (Value.ref b :: As).toArray) (va_A (wl q dm kd ln ad V J R) H.size) :=
  va_runV S (hM H.size) cw ⟨preX_blind hxo, hrc, fun U hU hWm => preX_at hxo hK hW hS hA hXs U hU hWm⟩ rfl hn hsize hst (lv_room h8) hdg hf
theorem w_runS (S : CallFix p m c cc nL s args Ts own) (hM : ∀ sz : Nat, Met l y ws rm (va_Pc As (PreX X D q dm kd ln ad V J R sz)) (Qc (va_A (wl q dm kd ln ad V J R) sz)) mc ms (va_A (wl q dm kd ln ad V J R) sz)) (hxo : xok X) (cw : CallB Rm s args own index y bytes maxL ret ws rm mc ms n ∧ (Cond.static y).before args s = true) (hK : va_K D vwCl (tyq q) s) (hW : wok A D q dm kd ln ad V J R H) (hS : va_S A s.heap H locs) (hA : ∀ q, s.heap.size ≤ q → A q) (hXs : X A s)
    (hn : As.length = n) (hsize : ls.size = nL) (hst : st0 = As.reverse ++ rest) (h8 : (rest.map fun v => v.category).sum ≤ 8) (hdg : decode cc pc = .ok (.invokestatic index, 3)) (hf : cells + mc ≤ Rm.cells ∧ slots + ms ≤ Rm.slots) :
    va_Run p l e Rm s m args below meth c H locs cells slots mc ms (F0 m pc ls st0) rest (Qc (va_A (wl q dm kd ln ad V J R) H.size) As.toArray) (va_A (wl q dm kd ln ad V J R) H.size) :=
  va_runS S (hM H.size) cw ⟨preX_blind hxo, fun U hU hWm => preX_at hxo hK hW hS hA hXs U hU hWm⟩ rfl hn hsize hst (lv_room h8) hdg hf
variable {a : Array Value}
theorem w_ci {rv : Int32} (hr : va_Run p l e Rm s m args below meth c H locs cells slots 0 0 (F0 m pc ls st0) rest (QI rv D q dm kd ln ad V' J' R' (va_A (wl q dm kd ln ad V J R) H.size) a) (va_A (wl q dm kd ln ad V J R) H.size)) (hW : wok A D q dm kd ln ad V J R H) (hS : va_S A s.heap H locs) (hA : ∀ q, s.heap.size ≤ q → A q)
    (kk : ∀ (H1 : Heap) (locs1 : List Loc), wok A D q dm kd ln ad V' J' R' H1 → va_S A s.heap H1 locs1 → W p l e Rm s m args below meth c H1 locs1 cells slots Q (F0 m (pc + 3) ls (.int rv :: rest))) : W p l e Rm s m args below meth c H locs cells slots Q (F0 m pc ls st0) := by
  refine va_calli hr hS (fun a _ h => w_free hW hS hA a h) (w_free hW hS hA) (fun r u t H1 locs1 ht hvm hp hB hz hk1 hS1 => ?_)
  subst hp
  exact kk H1 locs1 ⟨by rw [← ht]; exact hB, wl_D hW.2⟩ hS1
theorem w_cl {rv : Int64} (hr : va_Run p l e Rm s m args below meth c H locs cells slots 0 0 (F0 m pc ls st0) rest (QL rv D q dm kd ln ad V' J' R' (va_A (wl q dm kd ln ad V J R) H.size) a) (va_A (wl q dm kd ln ad V J R) H.size)) (hW : wok A D q dm kd ln ad V J R H) (hS : va_S A s.heap H locs) (hA : ∀ q, s.heap.size ≤ q → A q)
    (kk : ∀ (H1 : Heap) (locs1 : List Loc), wok A D q dm kd ln ad V' J' R' H1 → va_S A s.heap H1 locs1 → W p l e Rm s m args below meth c H1 locs1 cells slots Q (F0 m (pc + 3) ls (.long rv :: rest))) : W p l e Rm s m args below meth c H locs cells slots Q (F0 m pc ls st0) := by
  refine va_calll hr hS (fun a _ h => w_free hW hS hA a h) (w_free hW hS hA) (fun r u t H1 locs1 ht hvm hp hB hz hk1 hS1 => ?_)
  subst hp
  exact kk H1 locs1 ⟨by rw [← ht]; exact hB, wl_D hW.2⟩ hS1
theorem w_cv (hr : va_Run p l e Rm s m args below meth c H locs cells slots 0 0 (F0 m pc ls st0) rest (QV D q dm kd ln ad V' J' R' (va_A (wl q dm kd ln ad V J R) H.size) a) (va_A (wl q dm kd ln ad V J R) H.size)) (hW : wok A D q dm kd ln ad V J R H) (hS : va_S A s.heap H locs) (hA : ∀ q, s.heap.size ≤ q → A q)
    (kk : ∀ (H1 : Heap) (locs1 : List Loc), wok A D q dm kd ln ad V' J' R' H1 → va_S A s.heap H1 locs1 → W p l e Rm s m args below meth c H1 locs1 cells slots Q (F0 m (pc + 3) ls rest)) : W p l e Rm s m args below meth c H locs cells slots Q (F0 m pc ls st0) := by
  refine va_callv hr hS (fun a _ h => w_free hW hS hA a h) (w_free hW hS hA) (fun u t H1 locs1 ht hvm hp hB hz hk1 hS1 => ?_)
  exact kk H1 locs1 ⟨by rw [← ht]; exact hB, wl_D hW.2⟩ hS1
theorem w_cq {o : Option Nat} (hr : va_Run p l e Rm s m args below meth c H locs cells slots 0 0 (F0 m pc ls st0) rest (QQ o D q dm kd ln ad V' J' R' (va_A (wl q dm kd ln ad V J R) H.size) a) (va_A (wl q dm kd ln ad V J R) H.size)) (hW : wok A D q dm kd ln ad V J R H) (hS : va_S A s.heap H locs) (hA : ∀ q, s.heap.size ≤ q → A q)
    (kk : ∀ (H1 : Heap) (locs1 : List Loc), wok A D q dm kd ln ad V' J' R' H1 → va_S A s.heap H1 locs1 → W p l e Rm s m args below meth c H1 locs1 cells slots Q (F0 m (pc + 3) ls (va_rf (o.map ad) :: rest))) : W p l e Rm s m args below meth c H locs cells slots Q (F0 m pc ls st0) := by
  refine va_callq hr hS (fun a _ h => w_free hW hS hA a h) (w_free hW hS hA) (fun r u t H1 locs1 ht hvm hp hB hz hk1 hS1 => ?_)
  subst hp
  exact kk H1 locs1 ⟨by rw [← ht]; exact hB, wl_D hW.2⟩ hS1
end Ends
