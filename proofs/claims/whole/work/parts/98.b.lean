/-! ===== the start: classes, statics, texts ===== -/
set_option maxRecDepth 100000 in
theorem st_K {s : State} {args : Array Value} (hts : ∀ w ∈ lw_tbl, w.before args s = true) : ∃ (D : va_G) (q : Cq), va_K D vwCl (tyq q) s := by
  obtain ⟨c0, i0, k0⟩ := u_known (C := RJx4a65c) (T := TJx4a65c) (N := 3) (n := 3) hts inJx4a65c (hts (.instantiable RJx4a65c 3) (by decide +kernel))
  obtain ⟨c1, i1, k1⟩ := u_known (C := RX0) (T := TX0) (N := 12) (n := 12) hts inX0 (hts (.instantiable RX0 12) (by decide +kernel))
  obtain ⟨c2, i2, k2⟩ := u_known (C := RX1) (T := TX1) (N := 4) (n := 4) hts inX1 (hts (.instantiable RX1 4) (by decide +kernel))
  obtain ⟨c3, i3, k3⟩ := u_known (C := RX2) (T := TX2) (N := 5) (n := 5) hts inX2 (hts (.instantiable RX2 5) (by decide +kernel))
  obtain ⟨c4, i4, k4⟩ := u_known (C := RX3) (T := TX3) (N := 6) (n := 6) hts inX3 (hts (.instantiable RX3 6) (by decide +kernel))
  obtain ⟨c5, i5, k5⟩ := u_known (C := RX4) (T := TX4) (N := 7) (n := 7) hts inX4 (hts (.instantiable RX4 7) (by decide +kernel))
  obtain ⟨c6, i6, k6⟩ := u_known (C := RX5) (T := TX5) (N := 5) (n := 5) hts inX5 (hts (.instantiable RX5 5) (by decide +kernel))
  obtain ⟨c7, i7, k7⟩ := u_known (C := RX6) (T := TX6) (N := 2) (n := 2) hts inX6 (hts (.instantiable RX6 2) (by decide +kernel))
  obtain ⟨c8, i8, k8⟩ := u_known (C := RX7) (T := TX7) (N := 8) (n := 8) hts inX7 (hts (.instantiable RX7 8) (by decide +kernel))
  obtain ⟨c9, i9, k9⟩ := u_known (C := RX8) (T := TX8) (N := 48) (n := 48) hts inX8 (hts (.instantiable RX8 48) (by decide +kernel))
  obtain ⟨a1, a2, a3, a4, a5, a6⟩ := Cond.arrayClass_spec (type := .int) (hts (.arrayClass .int) (by decide +kernel))
  obtain ⟨b1, b2, b3, b4, b5, b6⟩ := Cond.arrayClass_spec (type := .byte) (hts (.arrayClass .byte) (by decide +kernel))
  obtain ⟨z1, z2, z3, z4, z5, z6⟩ := Cond.arrayClass_spec (type := .boolean) (hts (.arrayClass .boolean) (by decide +kernel))
  obtain ⟨o1, o2, o3, o4, -, o6, o7, o8⟩ := Cond.arrayOver_spec (n := "java/lang/Object") (hts (.arrayOver (.object "java/lang/Object")) (by decide +kernel))
  refine ⟨(fun k => if k = 0 then c0 else if k = 1 then c1 else if k = 2 then c2 else if k = 3 then c3 else if k = 4 then c4 else if k = 5 then c5 else if k = 6 then c6 else if k = 7 then c7 else if k = 8 then c8 else c9, fun k => if k = 0 then i0 else if k = 1 then i1 else if k = 2 then i2 else if k = 3 then i3 else if k = 4 then i4 else if k = 5 then i5 else if k = 6 then i6 else if k = 7 then i7 else if k = 8 then i8 else i9), (a1, b1, z1, o2), ?_, ?_⟩
  · intro k r hr
    match k, hr with
    | 0, hr => cases hr; exact k0
    | 1, hr => cases hr; exact k1
    | 2, hr => cases hr; exact k2
    | 3, hr => cases hr; exact k3
    | 4, hr => cases hr; exact k4
    | 5, hr => cases hr; exact k5
    | 6, hr => cases hr; exact k6
    | 7, hr => cases hr; exact k7
    | 8, hr => cases hr; exact k8
    | 9, hr => cases hr; exact k9
    | k + 10, hr => simp [vwCl] at hr
  · intro k r hr
    match k, hr with
    | 0, hr => cases hr; exact ⟨fun n z => ⟨fun k h => (by cases h), a2, a5, a3, a6⟩, a4⟩
    | 1, hr => cases hr; exact ⟨fun n z => ⟨fun k h => (by cases h), b2, b5, b3, b6⟩, b4⟩
    | 2, hr => cases hr; exact ⟨fun n z => ⟨fun k h => (by cases h), z2, z5, z3, z6⟩, z4⟩
    | 3, hr => cases hr; exact ⟨fun n z => ⟨fun k h => (by cases h), o3, o6, o1, o7⟩, o3, o1, o6, o7, o4, o8⟩
    | k + 4, hr => simp [tyq] at hr
/-- where the texts stand in the class's constants -/
def tx_k (i : Nat) : Nat := [51, 75, 77, 79].getD i 0
def tx_t (i : Nat) : Term := .string "TownClocks$Reading" (tx_k i)
set_option maxRecDepth 100000 in
theorem st_X {s : State} {args : Array Value} (hts : ∀ w ∈ lw_tbl, w.before args s = true) (hgv : (Jvm.Cond.and given_1 narrow_1).before args s = true) : ∃ (ad0 : Nat → Nat) (mi : Nat), lawX ad0 mi (fun q : Nat => s.heap.size ≤ q) s := by
  have hs := flat_of_before _ hgv
  have hA : ∀ a : Nat, a < s.heap.size → ¬ (fun q : Nat => s.heap.size ≤ q) a := fun a h => Nat.not_le.mpr h
  obtain ⟨adK, adV, hS, hev⟩ := vk_Sof (args := args) (s := s) (N := 4) (tm := tx_t) (len := s_lens) (byt := s_byts) (A := fun q : Nat => s.heap.size ≤ q) (fun i hi => by rcases (show i = 0 ∨ i = 1 ∨ i = 2 ∨ i = 3 by omega) with rfl | rfl | rfl | rfl <;> decide) (fun i hi => by rcases (show i = 0 ∨ i = 1 ∨ i = 2 ∨ i = 3 by omega) with rfl | rfl | rfl | rfl <;> exact hs _ (by decide +kernel)) (fun i hi => by rcases (show i = 0 ∨ i = 1 ∨ i = 2 ∨ i = 3 by omega) with rfl | rfl | rfl | rfl <;> exact hs _ (by decide +kernel)) (fun i hi => by rcases (show i = 0 ∨ i = 1 ∨ i = 2 ∨ i = 3 by omega) with rfl | rfl | rfl | rfl <;> exact hs _ (by decide +kernel)) (fun i hi => by rcases (show i = 0 ∨ i = 1 ∨ i = 2 ∨ i = 3 by omega) with rfl | rfl | rfl | rfl <;> exact hs _ (by decide +kernel))
    (fun i hi j hj => by
      rcases (show i = 0 ∨ i = 1 ∨ i = 2 ∨ i = 3 by omega) with rfl | rfl | rfl | rfl
      · have hj : j < 4 := hj
        rcases (show j = 0 ∨ j = 1 ∨ j = 2 ∨ j = 3 by omega) with rfl | rfl | rfl | rfl <;> exact hs _ (by decide +kernel)
      · have hj : j < 4 := hj
        rcases (show j = 0 ∨ j = 1 ∨ j = 2 ∨ j = 3 by omega) with rfl | rfl | rfl | rfl <;> exact hs _ (by decide +kernel)
      · have hj : j < 5 := hj
        rcases (show j = 0 ∨ j = 1 ∨ j = 2 ∨ j = 3 ∨ j = 4 by omega) with rfl | rfl | rfl | rfl | rfl <;> exact hs _ (by decide +kernel)
      · have hj : j < 4 := hj
        rcases (show j = 0 ∨ j = 1 ∨ j = 2 ∨ j = 3 by omega) with rfl | rfl | rfl | rfl <;> exact hs _ (by decide +kernel))
    (fun i j hi hj hij => by
      rcases (show i = 0 ∨ i = 1 ∨ i = 2 ∨ i = 3 by omega) with rfl | rfl | rfl | rfl <;> rcases (show j = 0 ∨ j = 1 ∨ j = 2 ∨ j = 3 by omega) with rfl | rfl | rfl | rfl <;> first | exact absurd rfl hij | exact Or.inl (hs _ (by decide +kernel)) | exact Or.inr (hs _ (by decide +kernel))) hA
  obtain ⟨t18, ht, hT⟩ := va_Tof (args := args) (s := s) (tm := .static "java/util/ArrayList" "DEFAULTCAPACITY_EMPTY_ELEMENTDATA" "[Ljava/lang/Object;") (ty := .object "java/lang/Object") (N := 0) (f := fun _ => .null) (A := fun q : Nat => s.heap.size ≤ q) (by decide) (hs _ (by decide +kernel)) (va_eqt (hs _ (by decide +kernel))) (fun j hj => absurd hj (by omega)) hA
  obtain ⟨mi, hmi⟩ := va_Mi.of (C := "[Ljava/lang/Object;") (hs (.isRef (.mirror "[Ljava/lang/Object;")) (by decide +kernel))
  have e5 : ∀ i, i < 4 → (fun k : Nat => if k = 18 then t18 else if k < 60 then adK (k - 50) else adV (k - 60)) (50 + i) = adK i := fun i hi => by
    show (if 50 + i = 18 then t18 else if 50 + i < 60 then adK (50 + i - 50) else adV (50 + i - 60)) = adK i
    rw [if_neg (by omega), if_pos (by omega), Nat.add_sub_cancel_left]
  have e6 : ∀ i, i < 4 → (fun k : Nat => if k = 18 then t18 else if k < 60 then adK (k - 50) else adV (k - 60)) (60 + i) = adV i := fun i hi => by
    show (if 60 + i = 18 then t18 else if 60 + i < 60 then adK (60 + i - 50) else adV (60 + i - 60)) = adV i
    rw [if_neg (by omega), if_neg (by omega), Nat.add_sub_cancel_left]
  have e18 : (fun k : Nat => if k = 18 then t18 else if k < 60 then adK (k - 50) else adV (k - 60)) 18 = t18 := rfl
  generalize (fun k : Nat => if k = 18 then t18 else if k < 60 then adK (k - 50) else adV (k - 60)) = ad0 at e5 e6 e18
  refine ⟨ad0, mi, ⟨⟨fun i hi => ?_, fun i j hi hj e => ?_⟩, va_Zof (hts (.laysStatic "java/lang/String" "COMPACT_STRINGS" "Z") (by decide +kernel)) (hts (.initialized "java/lang/String") (by decide +kernel)) (va_eqt (hs _ (by decide +kernel))) hA, va_Zqof (hts (.laysStatic "jdk/internal/util/Preconditions" "SIOOBE_FORMATTER" "Ljava/util/function/BiFunction;") (by decide +kernel)) (hts (.initialized "jdk/internal/util/Preconditions") (by decide +kernel)) (hs _ (by decide +kernel)) hA, ?_, ⟨?_, ?_, ?_, ?_⟩, by rw [e18]; exact hT⟩, ⟨va_AO.of (hts (.arrayOver (.object "java/lang/Object")) (by decide +kernel)), hmi, va_Dc.of (hts (.declares ⟨"java/lang/Object", "getClass", "()Ljava/lang/Class;"⟩) (by decide +kernel)), va_Nw.of rfl (hts (.castable RX3 "java/lang/Object") (by decide +kernel)), va_Nw.of rfl (hts (.castable RX0 "java/lang/Object") (by decide +kernel))⟩, ⟨va_Nw.of rfl (hts (.methodLinkNest RX7 21 yX2_init "TownClocks") (by decide +kernel)), va_Nw.of rfl (hts (.methodLinkNest RX7 28 yX1_init "TownClocks") (by decide +kernel)), va_Nw.of rfl (hts (.methodLinkNest RX7 35 yX4_init "TownClocks") (by decide +kernel)), va_Nw.of rfl (hts (.methodLinkNest RX7 47 yX6_init "TownClocks") (by decide +kernel)), va_Nw.of rfl (hts (.methodLinkNest RX4 11 yX5_init "TownClocks") (by decide +kernel))⟩⟩
  · have q := hS.1 i hi
    dsimp only
    rw [e5 i hi, e6 i hi]
    exact q
  · dsimp only at e
    rw [e5 i hi, e5 j hj] at e
    exact hS.2 i j hi hj e
  · rw [e18]
    exact va_Zref (hts (.laysStatic "java/util/ArrayList" "DEFAULTCAPACITY_EMPTY_ELEMENTDATA" "[Ljava/lang/Object;") (by decide +kernel)) (hts (.initialized "java/util/ArrayList") (by decide +kernel)) ht hA
  · have q := e5 0 (by decide)
    rw [show (50 : Nat) + 0 = 50 from rfl] at q
    rw [q]
    exact vk_R.of (hts (.stringRef "TownClocks$Reading" 51 "dial") (by decide +kernel)) (hev 0 (by decide))
  · have q : ad0 51 = adK 1 := e5 1 (by decide)
    rw [q]
    exact vk_R.of (hts (.stringRef "TownClocks$Reading" 75 "flat") (by decide +kernel)) (hev 1 (by decide))
  · have q : ad0 52 = adK 2 := e5 2 (by decide)
    rw [q]
    exact vk_R.of (hts (.stringRef "TownClocks$Reading" 77 "right") (by decide +kernel)) (hev 2 (by decide))
  · have q : ad0 53 = adK 3 := e5 3 (by decide)
    rw [q]
    exact vk_R.of (hts (.stringRef "TownClocks$Reading" 79 "less") (by decide +kernel)) (hev 3 (by decide))
