/-! ===== the law: its context, and what holds between two calls ===== -/
theorem lg_self (x : Int64) : lg_cmp x x = 0 := by
  have h1 : ¬ lg_cmp x x < 0 := fun h => absurd ((lg_lt0 x x).mp h) Int64.lt_irrefl
  have h2 : ¬ 0 < lg_cmp x x := fun h => absurd ((lg_gt0 x x).mp h) Int64.lt_irrefl
  exact Int32.le_antisymm (Int32.not_lt.mp h2) (Int32.not_lt.mp h1)
def LC (p : Program) (s : State) (m : MethodId) (args : Array Value) (c : Code) (b L : Nat) (xs : Nat → Int32) (A : Nat → Prop) (D : va_G) (q : Cq) (ad0 : Nat → Nat) (mi : Nat) : Prop :=
  p.tables.exec = Jvm.exec ∧ c.code = cL_law ∧ c.maxLocals = 4 ∧ s.vm.findClass RL = some m.cls ∧ (∀ w ∈ wsL_law, w.before args s = true) ∧ va_X b L xs s s.heap ∧ b < s.heap.size ∧ ¬ A b ∧ va_K D vwCl (tyq q) s ∧ (∀ q, s.heap.size ≤ q → A q) ∧ lawX ad0 mi A s ∧ L ≤ 2048
def LI (ad0 : Nat → Nat) (A : Nat → Prop) (D : va_G) (q : Cq) (cn : Nat) (H : Heap) (dm : List Nat) (ln ad : Nat → Nat) (V : Mv) (J : Mj) (R : Mr) (nP nD : Nat) : Prop :=
  wok A D q dm kdG ln ad V J R H ∧ okX dm kdG ln R nP nD ∧ okM dm kdG ln R ∧ okS dm ln R nP nD ∧ rl cn nP nD V V J J R ∧ ∀ k, (k = 18 ∨ (50 ≤ k ∧ k < 70)) → ad k = ad0 k
theorem glue1 {c nP nD : Nat} {V V1 : Mv} {J J1 : Mj} {R : Mr} (h : rl c nP nD V V J J R) (hx : ∀ k, 1000 ≤ k → V1 k = V k) (hxj : J1 1000 = J 1000) : rl c nP nD V V1 J J1 R := rl_in (fun _ _ => rfl) (fun k hk => hx k (by omega)) rfl hxj (fun _ _ => rfl) h
theorem glue2 {c c' nP nD : Nat} {V1 V2 : Mv} {J1 J2 : Mj} {R : Mr} (h : rl c' nP nD V1 V2 J1 J2 R) (hm : ∀ k, k < 1000 → V2 k = V1 k) (hmj : J2 3 = J1 3) (hc : c' ≤ c + 1) : rl (c + 1) nP nD V2 V2 J2 J2 R := by
  have h30 := h.1.1
  have h40 := h.1.2.1
  exact rl_up hc (rl_in (fun k hk => hm k (by omega)) (fun _ _ => rfl) hmj rfl (fun _ _ => rfl) h)
theorem st_ag {ad0 ad : Nat → Nat} {mi : Nat} (h : ∀ k, (k = 18 ∨ (50 ≤ k ∧ k < 70)) → ad k = ad0 k) : ∀ (A : Nat → Prop) (U : State), lawX ad0 mi A U → strX ad A U := fun A U hX => strX_ag (h 18 (by omega)) (fun i hi => h _ (by omega)) (fun i hi => h _ (by omega)) hX.1
section Sc
variable {p : Program} {l : Launch} {e : Env} {Rm : Room} {s : State} {m : MethodId} {args : Array Value} {below : List Frame} {meth : Method} {c : Code} {H H0 : Heap} {locs : List Loc} {cells slots : Nat} {Q : State → Prop} {cc : ByteArray} {pc : Nat} {ls : Array Slot} {rest : List Value} {A : Nat → Prop}
theorem w_sc (hx : p.tables.exec = Jvm.exec) (hb : c.code = cc) {b L : Nat} {xs : Nat → Int32} (hX : va_X b L xs s H0) (hbl : b < H0.size) (hbA : ¬ A b) (hS : va_S A H0 H locs) {t : Nat} (ht : t < L) (hL : L ≤ 2048) (hdg : decode cc pc = .ok (.iaload, 1))
    (kk : W p l e Rm s m args below meth c H locs cells slots Q (F0 m (pc + 1) ls (.int (xs t) :: rest))) : W p l e Rm s m args below meth c H locs cells slots Q (F0 m pc ls (.int (nI t) :: .ref b :: rest)) := by
  refine va_sld hx hb hX hbl hbA hS (i := nI t) (vp_in_nI ht (by omega)) hdg ?_
  rw [nI_clamp (by omega)]
  exact kk
end Sc
