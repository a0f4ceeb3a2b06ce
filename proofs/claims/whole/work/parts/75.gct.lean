/-! ===== contracts of methods that make cells ===== -/
abbrev QGv (nw : Nat → Prop) (ad : Nat → Nat) (D : va_G) (q : Cq) (dm : List Nat) (kd ln : Nat → Nat) (V : Mv) (J : Mj) (R : Mr) : (Nat → Prop) → Array Value → State → Outcome → State → Prop := fun A => va_Qv (fun (ad' : Nat → Nat) => ∀ k, ¬ nw k → ad' k = ad k) (fun ad' t => va_P D vwCl (wl q dm kd ln ad' V J R) t.heap ∧ va_D A (wl q dm kd ln ad' V J R)) A
abbrev QGi (rv : Int32) (nw : Nat → Prop) (ad : Nat → Nat) (D : va_G) (q : Cq) (dm : List Nat) (kd ln : Nat → Nat) (V : Mv) (J : Mj) (R : Mr) : (Nat → Prop) → Array Value → State → Outcome → State → Prop := fun A => va_Qi (fun (r : Int32) (ad' : Nat → Nat) => r = rv ∧ ∀ k, ¬ nw k → ad' k = ad k) (fun ad' t => va_P D vwCl (wl q dm kd ln ad' V J R) t.heap ∧ va_D A (wl q dm kd ln ad' V J R)) A
abbrev QGq (o : Option Nat) (nw : Nat → Prop) (ad : Nat → Nat) (D : va_G) (q : Cq) (dm : List Nat) (kd ln : Nat → Nat) (V : Mv) (J : Mj) (R : Mr) : (Nat → Prop) → Array Value → State → Outcome → State → Prop := fun A => va_Qq (fun (r : Option Nat) (ad' : Nat → Nat) => r = o.map ad' ∧ ∀ k, ¬ nw k → ad' k = ad k) (fun ad' t => va_P D vwCl (wl q dm kd ln ad' V J R) t.heap ∧ va_D A (wl q dm kd ln ad' V J R)) A
def CtX (X : (Nat → Prop) → State → Prop) (l : Launch) (y : MethodName) (ws : List Cond) (rm : Room) (D : va_G) (q : Cq) (dm : List Nat) (kd ln ad : Nat → Nat) (V : Mv) (J : Mj) (R : Mr) (av : List Value) (Qc : (Nat → Prop) → Array Value → State → Outcome → State → Prop) (mc ms : Nat) : Prop :=
  ∀ sz : Nat, Met l y ws rm (va_Pc av (PreX X D q dm kd ln ad V J R sz)) (Qc (va_A (wl q dm kd ln ad V J R) sz)) mc ms (va_A (wl q dm kd ln ad V J R) sz)
def bodyG (X : (Nat → Prop) → State → Prop) (l : Launch) (y : MethodName) (ws : List Cond) (rm : Room) (D : va_G) (q : Cq) (dm : List Nat) (kd ln ad : Nat → Nat) (V : Mv) (J : Mj) (R : Mr) (av : List Value) (cc : ByteArray) (maxL : Nat) (ret : Option FieldType) (Qc : (Nat → Prop) → Array Value → State → Outcome → State → Prop) (mc ms : Nat) : Prop :=
  ∀ (p : Program) (e : Env) (s : State) (m : MethodId) (args : Array Value) (below : List Frame) (meth : Method) (c : Code) (A : Nat → Prop), p.tables.exec = Jvm.exec → c.code = cc → meth.sig.returnType = ret → c.maxLocals = maxL → (∀ w ∈ ws, w.before args s = true) → s.vm.findClass y.cls = some m.cls → meth.locks = false → meth.name = y.name → va_K D vwCl (tyq q) s → wok A D q dm kd ln ad V J R s.heap → (∀ q, s.heap.size ≤ q → A q) → X A s →
  ∀ ls : Array Slot, lv_has ls maxL (lv_args 0 av) → W p l e rm s m args below meth c s.heap [] 0 0 (MQ below (Qc A) args s mc ms A) (F0 m 0 ls [])
theorem CtX_of {X : (Nat → Prop) → State → Prop} {l : Launch} {y : MethodName} {ws ws' : List Cond} {rm : Room} {D : va_G} {q : Cq} {dm : List Nat} {kd ln ad : Nat → Nat} {V : Mv} {J : Mj} {R : Mr} {av : List Value} {cc : ByteArray} {maxL : Nat} {ret : Option FieldType} {Qc : (Nat → Prop) → Array Value → State → Outcome → State → Prop} {mc ms : Nat}
    (hy : plainName y.cls = true) (hw : ws = Cond.code y cc maxL ret :: ws') (hlen : (lg_sl av).length ≤ maxL) (body : bodyG X l y ws rm D q dm kd ln ad V J R av cc maxL ret Qc mc ms) : CtX X l y ws rm D q dm kd ln ad V J R av Qc mc ms := by
  intro sz
  refine Met.ofW (cc := cc) (maxL := maxL) (ret := ret) hy hw ?_
  intro p e s m args below meth c s₁ B hml hv
  obtain ⟨rfl, hsz, hW, hK, hXs⟩ := hv
  subst hsz
  have hl := lv_entry av (n := maxL) hlen
  rw [lg_entry_eq]
  exact body p e s m _ below meth c _ B.exec B.bytes B.returns hml (atoms_spec (ws := ws) B.pre) (findClass_of_methodNamed B.named) B.notSynchronized (name_of_methodNamed B.named B.method).1 hK ⟨hW.1, hW.2.self⟩ (fun q h => Or.inr h) hXs _ hl
section GE
variable {X : (Nat → Prop) → State → Prop} {l : Launch} {y : MethodName} {ws ws' : List Cond} {rm : Room} {D : va_G} {q : Cq} {dm dm' : List Nat} {kd ln ln' ad ad' : Nat → Nat} {V V' : Mv} {J J' : Mj} {R R' : Mr} {cc : ByteArray} {maxL : Nat} {ret : Option FieldType} {nw : Nat → Prop}
variable {p : Program} {e : Env} {Rm : Room} {s : State} {m : MethodId} {args : Array Value} {below : List Frame} {meth : Method} {c : Code} {H : Heap} {locs : List Loc} {cells slots : Nat} {Q : State → Prop} {pc : Nat} {ls : Array Slot} {rest : List Value} {A : Nat → Prop}
theorem w_vretG (hx : p.tables.exec = Jvm.exec) (hb : c.code = cc) (hr : meth.sig.returnType = none) (hlk : meth.locks = false) (hW : wok A D q dm kd ln ad' V J R H) (hS : va_S A s.heap H locs) (hq : ∀ k, ¬ nw k → ad' k = ad k) (hdg : decode cc pc = .ok (.return_, 1)) : W p l e Rm s m args below meth c H locs cells slots (MQ below (QGv nw ad D q dm kd ln V J R A) args s cells slots A) (F0 m pc ls []) :=
  W.vret hx hb hr (fun t ht _ => ⟨⟨ad', rfl, hq, by show va_P _ _ _ t.heap ∧ _; rw [ht]; exact hW⟩, hS.F ht⟩) hS.2.2 hdg hlk
theorem w_iretG (hx : p.tables.exec = Jvm.exec) (hb : c.code = cc) (hr : meth.sig.returnType = some .int) (hlk : meth.locks = false) (hW : wok A D q dm kd ln ad' V J R H) (hS : va_S A s.heap H locs) {v rv : Int32} (ev : v = rv) (hq : ∀ k, ¬ nw k → ad' k = ad k) (hdg : decode cc pc = .ok (.ireturn, 1)) : W p l e Rm s m args below meth c H locs cells slots (MQ below (QGi rv nw ad D q dm kd ln V J R A) args s cells slots A) (F0 m pc ls [.int v]) :=
  W.iret hx hb hr (fun t ht _ => ⟨⟨v, ad', rfl, ⟨ev, hq⟩, by show va_P _ _ _ t.heap ∧ _; rw [ht]; exact hW⟩, hS.F ht⟩) hS.2.2 hdg hlk
theorem w_zretG (hx : p.tables.exec = Jvm.exec) (hb : c.code = cc) (hr : meth.sig.returnType = some .boolean) (hlk : meth.locks = false) (hW : wok A D q dm kd ln ad' V J R H) (hS : va_S A s.heap H locs) (hq : ∀ k, ¬ nw k → ad' k = ad k) (hdg : decode cc pc = .ok (.ireturn, 1)) : W p l e Rm s m args below meth c H locs cells slots (MQ below (QGi 1 nw ad D q dm kd ln V J R A) args s cells slots A) (F0 m pc ls [.int 1]) :=
  W.zret hx hb hr (by decide) (fun t ht _ => ⟨⟨1, ad', rfl, ⟨rfl, hq⟩, by show va_P _ _ _ t.heap ∧ _; rw [ht]; exact hW⟩, hS.F ht⟩) hS.2.2 hdg hlk
theorem w_qretG (hx : p.tables.exec = Jvm.exec) (hb : c.code = cc) {rt : FieldType} (hr : meth.sig.returnType = some rt) (hrt : (∃ n, rt = .object n) ∨ ∃ t, rt = .array t) (hlk : meth.locks = false) (hW : wok A D q dm kd ln ad' V J R H) (hS : va_S A s.heap H locs) {v : Value} {o : Option Nat} (ev : v = va_rf (o.map ad')) (hq : ∀ k, ¬ nw k → ad' k = ad k) (hdg : decode cc pc = .ok (.areturn, 1)) : W p l e Rm s m args below meth c H locs cells slots (MQ below (QGq o nw ad D q dm kd ln V J R A) args s cells slots A) (F0 m pc ls [v]) := by
  subst ev
  exact W.aret hx hb hr hrt (va_rf_or _) (fun t ht _ => ⟨⟨o.map ad', ad', rfl, ⟨rfl, hq⟩, by show va_P _ _ _ t.heap ∧ _; rw [ht]; exact hW⟩, hS.F ht⟩) hS.2.2 hdg hlk
theorem w_obj (hx : p.tables.exec = Jvm.exec) (hb : c.code = cc) {own : String} (hown : s.vm.findClass own = some m.cls) {idx : Nat} (hlink : (Cond.methodLink own idx Lib.objectInit).before args s = true) (hinst : (Cond.instanceMethod Lib.objectInit).before args s = true) (hcode : (Cond.code Lib.objectInit ⟨#[0xb1]⟩ 1 none).before args s = true) (hsize : ls.size = c.maxLocals) {a : Nat} (hd : decode cc pc = .ok (.invokespecial idx, 3)) (hframes : 1 ≤ Rm.frames) (hlocals : (rest.map fun v => v.category).sum + 12 ≤ Rm.locals)
    (kk : W p l e Rm s m args below meth c H locs cells slots Q (F0 m (pc + 3) ls rest)) : W p l e Rm s m args below meth c H locs cells slots Q (F0 m pc ls (.ref a :: rest)) :=
  W.objInit hx hb hown hlink hinst hcode (g := F0 m pc ls (.ref a :: rest)) rfl hsize rfl hd hframes (by show 2 * 0 + _ + 12 ≤ _; omega) kk
variable {bytes : ByteArray} {nL mc ms n index : Nat} {Ts : List Cond} {own C : String} {b : Nat} {As st0 : List Value} {Qc : (Nat → Prop) → Array Value → State → Outcome → State → Prop}
theorem w_runI (S : CallFix p m c cc nL s args Ts own) (hM : ∀ sz : Nat, Met l y ws rm (va_Pc (.ref b :: As) (PreX X D q dm kd ln ad V J R sz)) (Qc (va_A (wl q dm kd ln ad V J R) sz)) mc ms (va_A (wl q dm kd ln ad V J R) sz)) (hxo : xok X) (cw : CallB Rm s args own index y bytes maxL none ws rm mc ms n ∧ y.name = "<init>" ∧ (Cond.instanceMethod y).before args s = true) (hK : va_K D vwCl (tyq q) s) (hW : wok A D q dm kd ln ad V J R H) (hS : va_S A s.heap H locs) (hA : ∀ q, s.heap.size ≤ q → A q) (hXs : X A s)
    (hn : As.length = n) (hsize : ls.size = nL) (hst : st0 = As.reverse ++ .ref b :: rest) (h8 : (rest.map fun v => v.category).sum ≤ 8) (hdg : decode cc pc = .ok (.invokespecial index, 3)) (hf : cells + mc ≤ Rm.cells ∧ slots + ms ≤ Rm.slots) :
    va_Run p l e Rm s m args below meth c H locs cells slots mc ms (F0 m pc ls st0) rest (Qc (va_A (wl q dm kd ln ad V J R) H.size) (Value.ref b :: As).toArray) (va_A (wl q dm kd ln ad V J R) H.size) :=
  va_runI S (hM H.size) cw ⟨preX_blind hxo, fun U hU hWm => preX_at hxo hK hW hS hA hXs U hU hWm⟩ rfl hn hsize hst (lv_room h8) hdg hf
theorem w_runIN {host : String} (S : CallFix p m c cc nL s args Ts own) (hM : ∀ sz : Nat, Met l y ws rm (va_Pc (.ref b :: As) (PreX X D q dm kd ln ad V J R sz)) (Qc (va_A (wl q dm kd ln ad V J R) sz)) mc ms (va_A (wl q dm kd ln ad V J R) sz)) (hxo : xok X) (cw : va_CN Rm s args own index y host bytes maxL none ws rm mc ms n ∧ y.name = "<init>" ∧ (Cond.instanceMethod y).before args s = true) (hK : va_K D vwCl (tyq q) s) (hW : wok A D q dm kd ln ad V J R H) (hS : va_S A s.heap H locs) (hA : ∀ q, s.heap.size ≤ q → A q) (hXs : X A s)
    (hn : As.length = n) (hsize : ls.size = nL) (hst : st0 = As.reverse ++ .ref b :: rest) (h8 : (rest.map fun v => v.category).sum ≤ 8) (hdg : decode cc pc = .ok (.invokespecial index, 3)) (hf : cells + mc ≤ Rm.cells ∧ slots + ms ≤ Rm.slots) :
    va_Run p l e Rm s m args below meth c H locs cells slots mc ms (F0 m pc ls st0) rest (Qc (va_A (wl q dm kd ln ad V J R) H.size) (Value.ref b :: As).toArray) (va_A (wl q dm kd ln ad V J R) H.size) :=
  va_runIN S (hM H.size) cw ⟨preX_blind hxo, fun U hU hWm => preX_at hxo hK hW hS hA hXs U hU hWm⟩ rfl hn hsize hst (lv_room h8) hdg hf
variable {a : Array Value}
theorem w_cgv (hr : va_Run p l e Rm s m args below meth c H locs cells slots mc ms (F0 m pc ls st0) rest (QGv nw ad D q dm' kd ln' V' J' R' (va_A (wl q dm kd ln ad V J R) H.size) a) (va_A (wl q dm kd ln ad V J R) H.size)) (hW : wok A D q dm kd ln ad V J R H) (hS : va_S A s.heap H locs) (hA : ∀ q, s.heap.size ≤ q → A q)
    (kk : ∀ (ad' : Nat → Nat) (H1 : Heap) (locs1 : List Loc), (∀ k, ¬ nw k → ad' k = ad k) → wok A D q dm' kd ln' ad' V' J' R' H1 → va_S A s.heap H1 locs1 → W p l e Rm s m args below meth c H1 locs1 (cells + mc) (slots + ms) Q (F0 m (pc + 3) ls rest)) : W p l e Rm s m args below meth c H locs cells slots Q (F0 m pc ls st0) := by
  refine va_callv hr hS (fun a _ h => w_free hW hS hA a h) (w_free hW hS hA) (fun u t H1 locs1 ht hvm hp hB hz hk1 hS1 => ?_)
  exact kk u H1 locs1 hp ⟨by rw [← ht]; exact hB.1, hB.2.weaken (fun _ _ _ h => w_free hW hS hA _ h)⟩ hS1
theorem w_cgi {rv : Int32} (hr : va_Run p l e Rm s m args below meth c H locs cells slots mc ms (F0 m pc ls st0) rest (QGi rv nw ad D q dm' kd ln' V' J' R' (va_A (wl q dm kd ln ad V J R) H.size) a) (va_A (wl q dm kd ln ad V J R) H.size)) (hW : wok A D q dm kd ln ad V J R H) (hS : va_S A s.heap H locs) (hA : ∀ q, s.heap.size ≤ q → A q)
    (kk : ∀ (ad' : Nat → Nat) (H1 : Heap) (locs1 : List Loc), (∀ k, ¬ nw k → ad' k = ad k) → wok A D q dm' kd ln' ad' V' J' R' H1 → va_S A s.heap H1 locs1 → W p l e Rm s m args below meth c H1 locs1 (cells + mc) (slots + ms) Q (F0 m (pc + 3) ls (.int rv :: rest))) : W p l e Rm s m args below meth c H locs cells slots Q (F0 m pc ls st0) := by
  refine va_calli hr hS (fun a _ h => w_free hW hS hA a h) (w_free hW hS hA) (fun r u t H1 locs1 ht hvm hp hB hz hk1 hS1 => ?_)
  rw [hp.1]
  exact kk u H1 locs1 hp.2 ⟨by rw [← ht]; exact hB.1, hB.2.weaken (fun _ _ _ h => w_free hW hS hA _ h)⟩ hS1
theorem w_cgq {o : Option Nat} (hr : va_Run p l e Rm s m args below meth c H locs cells slots mc ms (F0 m pc ls st0) rest (QGq o nw ad D q dm' kd ln' V' J' R' (va_A (wl q dm kd ln ad V J R) H.size) a) (va_A (wl q dm kd ln ad V J R) H.size)) (hW : wok A D q dm kd ln ad V J R H) (hS : va_S A s.heap H locs) (hA : ∀ q, s.heap.size ≤ q → A q)
    (kk : ∀ (ad' : Nat → Nat) (H1 : Heap) (locs1 : List Loc), (∀ k, ¬ nw k → ad' k = ad k) → wok A D q dm' kd ln' ad' V' J' R' H1 → va_S A s.heap H1 locs1 → W p l e Rm s m args below meth c H1 locs1 (cells + mc) (slots + ms) Q (F0 m (pc + 3) ls (va_rf (o.map ad') :: rest))) : W p l e Rm s m args below meth c H locs cells slots Q (F0 m pc ls st0) := by
  refine va_callq hr hS (fun a _ h => w_free hW hS hA a h) (w_free hW hS hA) (fun r u t H1 locs1 ht hvm hp hB hz hk1 hS1 => ?_)
  rw [hp.1]
  exact kk u H1 locs1 hp.2 ⟨by rw [← ht]; exact hB.1, hB.2.weaken (fun _ _ _ h => w_free hW hS hA _ h)⟩ hS1
end GE
/-- the order in which the labels are made: the reading (10) ahead of its tape (8) and the tape's bytes (9) -/
def iv_rk (k : Nat) : Nat := if k = 10 then 8 else if k = 8 then 9 else if k = 9 then 10 else k
/-- what stands while the objects are made: nothing but references is set, labels in order -/
def iv (dm : List Nat) (V : Mv) (J : Mj) (R : Mr) (B : Nat) : Prop := V = (fun _ _ => 0) ∧ J = (fun _ _ => 0) ∧ (∀ k ∈ dm, iv_rk k ≤ iv_rk B) ∧ (∀ k, iv_rk B < iv_rk k → R k = (fun _ => none)) ∧ rcl dm R
theorem iv_new {dm : List Nat} {V : Mv} {J : Mj} {R : Mr} {B a : Nat} (h : iv dm V J R B) (hB : iv_rk B < iv_rk a) (h18 : a ≠ 18) : a ∉ dm ∧ (∀ k' ∈ dm, ∀ j, R k' j ≠ some a) ∧ zat V J R a ∧ iv (dm ++ [a]) V J R a := by
  obtain ⟨h1, h2, h3, h4, h5⟩ := h
  have hn : a ∉ dm := fun q => by
    have := h3 a q
    omega
  refine ⟨hn, rcl_rf h5 hn h18, ⟨by rw [h1], by rw [h2], h4 a hB⟩, h1, h2, fun k hk => ?_, fun k hk => h4 k (by omega), rcl_new h5 (h4 a hB)⟩
  rcases List.mem_append.mp hk with q | q
  · have := h3 k q
    omega
  · exact Nat.le_of_eq (congrArg iv_rk (List.mem_singleton.mp q))
theorem iv_put {dm : List Nat} {V : Mv} {J : Mj} {R : Mr} {B k j : Nat} {o : Option Nat} (h : iv dm V J R B) (hk : iv_rk k ≤ iv_rk B) (ho : ∀ t, o = some t → t ∈ dm ∨ t = 18) : iv dm V J (u2 R k j o) B := by
  obtain ⟨h1, h2, h3, h4, h5⟩ := h
  exact ⟨h1, h2, h3, fun k' hk' => by rw [u2_ne (fun e => by rw [e] at hk'; omega)]; exact h4 k' hk', rcl_put h5 ho⟩
theorem iv_rk_b {k : Nat} (h : iv_rk 1000 < iv_rk k) : 1000 < k := by
  have e : iv_rk 1000 = 1000 := rfl
  rw [e] at h
  unfold iv_rk at h
  split at h
  · omega
  · split at h
    · omega
    · split at h
      · omega
      · exact h
theorem iv_up {dm : List Nat} {V : Mv} {J : Mj} {R : Mr} {B B' : Nat} (h : iv dm V J R B) (hB : iv_rk B ≤ iv_rk B') : iv dm V J R B' := by
  obtain ⟨h1, h2, h3, h4, h5⟩ := h
  exact ⟨h1, h2, fun k hk => Nat.le_trans (h3 k hk) hB, fun k hk => h4 k (by omega), h5⟩
theorem ho_r {dm : List Nat} {a : Nat} : ∀ t, some a = some t → t ∈ dm ++ [a] ∨ t = 18 := fun t ht => by
  cases ht
  exact Or.inl mem_r
theorem ho_m {dm : List Nat} {a : Nat} (h : a ∈ dm) : ∀ t, some a = some t → t ∈ dm ∨ t = 18 := fun t ht => by
  cases ht
  exact Or.inl h
