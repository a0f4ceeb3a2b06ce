theorem clr {A : Nat → Prop} {D : va_G} {q : Cq} {dm : List Nat} {ln ln1 ad : Nat → Nat} {V : Mv} {J : Mj} {R : Mr} {H : Heap} {nP nD cn : Nat} (hlk : ∀ k ∈ dm, ln1 k = ln k) (hW : wok A D q dm kdG ln ad V J R H) (oX : okX dm kdG ln R nP nD) (oM : okM dm kdG ln R) (oS : okS dm ln R nP nD) (hr : rl cn nP nD V V J J R) : ∃ (V1 : Mv) (J1 : Mj) (R1 : Mr), (∀ k, k ∉ dm → zat V1 J1 R1 k) ∧ wok A D q dm kdG ln1 ad V1 J1 R1 H ∧ okX dm kdG ln1 R1 nP nD ∧ okM dm kdG ln1 R1 ∧ okS dm ln1 R1 nP nD ∧ rl cn nP nD V1 V1 J1 J1 R1 := by
  have hcl : ∀ k ∈ dm, ln1 k = ln k ∧ fz none dm R k = R k := fun k hk => ⟨hlk k hk, fz_in hk⟩
  have mx : ∀ k, (k < 16 ∨ (100 ≤ k ∧ k < 100 + nP) ∨ (200 ≤ k ∧ k < 200 + nD)) → k ∈ dm := fun k hk => by
    rcases hk with z | z | z
    · exact (oX.1 k z).1
    · have := (oX.2.2.1 (k - 100) (by omega)).1
      rw [show 100 + (k - 100) = k by omega] at this
      exact this
    · have := (oX.2.2.2.1 (k - 200) (by omega)).1
      rw [show 200 + (k - 200) = k by omega] at this
      exact this
  have mrow : ∀ j, j ∈ mrw → 1000 + j ∈ dm := fun j hj => (oM.2 j hj).1
  have mm : ∀ k, (k = 1000 ∨ (1002 ≤ k ∧ k ≤ 1006) ∨ (1008 ≤ k ∧ k ≤ 1020) ∨ k = 1031 ∨ k = 1046) → k ∈ dm := fun k hk => by
    have key : ∀ j, j < 47 → (1000 + j = 1000 ∨ (1002 ≤ 1000 + j ∧ 1000 + j ≤ 1006) ∨ (1008 ≤ 1000 + j ∧ 1000 + j ≤ 1020) ∨ 1000 + j = 1031 ∨ 1000 + j = 1046) → j = 0 ∨ j ∈ mrw := by decide
    have h0 : 1000 + (k - 1000) = k := by omega
    rcases key (k - 1000) (by omega) (by rw [h0]; exact hk) with z | z
    · rw [show k = 1000 by omega]
      exact oM.1.1
    · have := mrow (k - 1000) z
      rw [h0] at this
      exact this
  refine ⟨fz 0 dm V, fz 0 dm J, fz none dm R, fun k hk => fz_zat hk, wok_ag (fun k hk => ⟨hlk k hk, fz_in hk, fz_in hk, fz_in hk⟩) hW, okX_ag hcl oX, okM_ag hcl oM, okS_ag hcl oX oS, ?_⟩
  exact rl_in (fun k hk => fz_in (mx k hk)) (fun k hk => fz_in (mm k hk)) (fz_in (mx 3 (by omega))) (fz_in oM.1.1) (fun k hk => fz_in (mx k (by omega))) hr
set_option maxHeartbeats 4000000 in
set_option maxRecDepth 100000 in
theorem lc_pipe {p : Program} {l : Launch} {e : Env} {s : State} {m : MethodId} {args : Array Value} {below : List Frame} {meth : Method} {c : Code} {b L : Nat} {xs : Nat → Int32} {A : Nat → Prop} {D : va_G} {q : Cq} {ad0 : Nat → Nat} {mi : Nat} {Q : State → Prop} {H : Heap} {locs : List Loc} {cells slots : Nat} {ls : Array Slot} {dm : List Nat} {ln ad : Nat → Nat} {V : Mv} {J : Mj} {R : Mr} {nP nD i cn : Nat} (C : LC p s m args c b L xs A D q ad0 mi) (hi : i + 4 ≤ L) (hcn : cn ≤ 1000) (hI : LI ad0 A D q cn H dm ln ad V J R nP nD) (hS : va_S A s.heap H locs) (hce : cells + 2 ≤ 600000) (hsl : slots + 112 ≤ 7302250) (hl : lv_has ls 4 [(0, .ref b), (1, .ref (ad 0)), (2, .ref (ad 1000)), (3, .int (nI i))]) (kk : ∀ (dm' : List Nat) (ln' ad' : Nat → Nat) (V' : Mv) (J' : Mj) (R' : Mr) (nP' nD' : Nat) (H' : Heap) (locs' : List Loc) (ls' : Array Slot), LI ad0 A D q (cn + 1) H' dm' ln' ad' V' J' R' nP' nD' → va_S A s.heap H' locs' → lv_has ls' 4 [(0, .ref b), (1, .ref (ad' 0)), (2, .ref (ad' 1000)), (3, .int (nI i))] → W p l e room_1 s m args below meth c H' locs' (cells + 2) (slots + 112) Q (F0 m 862 ls' [])) : W p l e room_1 s m args below meth c H locs cells slots Q (F0 m 152 ls []) := by
  obtain ⟨hx, hb, hml, hown, hts, hX, hbl, hbA, hK, hA, hXs, hL⟩ := C
  obtain ⟨hW, oX, oM, oS, hr, hag⟩ := hI
  have h30 := hr.1.1
  have h40 := hr.1.2.1
  have hp : V 1 2 = nI nP := hr.1.2.2.1
  have hq : V 2 2 = nI nD := hr.1.2.2.2.1
  refine lv_aload_n hx hb dL_law_152 rfl (lv_at hl 1 rfl) ?_
  refine lv_aload_n hx hb dL_law_153 rfl (lv_at hl 0 rfl) ?_
  refine lv_iload_n hx hb dL_law_154 rfl (lv_at hl 3 rfl) ?_
  refine lv_iconst (v := 1) hx hb dL_law_155 (by decide) ?_
  refine lv_iadd hx hb dL_law_156 ?_
  refine w_i (show nI i + 1 = nI (i + 1) from nI_add i 1) ?_
  refine w_sc (t := i + 1) hx hb hX hbl hbA hS (by omega) hL dL_law_157 ?_
  refine lv_aload_n hx hb dL_law_158 rfl (lv_at hl 0 rfl) ?_
  refine lv_iload_n hx hb dL_law_159 rfl (lv_at hl 3 rfl) ?_
  refine lv_iconst (v := 2) hx hb dL_law_160 (by decide) ?_
  refine lv_iadd hx hb dL_law_161 ?_
  refine w_i (show nI i + 2 = nI (i + 2) from nI_add i 2) ?_
  refine w_sc (t := i + 2) hx hb hX hbl hbA hS (by omega) hL dL_law_162 ?_
  refine lv_aload_n hx hb dL_law_163 rfl (lv_at hl 0 rfl) ?_
  refine lv_iload_n hx hb dL_law_164 rfl (lv_at hl 3 rfl) ?_
  refine lv_iconst (v := 3) hx hb dL_law_165 (by decide) ?_
  refine lv_iadd hx hb dL_law_166 ?_
  refine w_i (show nI i + 3 = nI (i + 3) from nI_add i 3) ?_
  refine w_sc (t := i + 3) hx hb hX hbl hbA hS (by omega) hL dL_law_167 ?_
  by_cases hacc : ((xs (i + 1)) = -1000000 ∨ inx nP (xs (i + 1))) ∧ (0 ≤ (xs (i + 2)) ∧ (xs (i + 2)) ≤ 50) ∧ (0 ≤ (xs (i + 3)) ∧ (xs (i + 3)) ≤ 20) ∧ nP < 30
  · obtain ⟨hxx, hlo, hla, hnn⟩ := hacc
    have hn19 : 19 ∉ dm := fun z => by rcases oS.2.1 19 z with y | y | y | y | y | y <;> omega
    have hkn : 100 + nP ∉ dm := fun z => by rcases oS.2.1 _ z with y | y | y | y | y | y <;> omega
    have hb0 : nP = 0 → 16 ∉ dm := fun h0 z => by rcases oS.2.1 16 z with y | y | y | y | y | y <;> omega
    obtain ⟨ln1, hln1⟩ : ∃ f : Nat → Nat, f = va_up (if 0 < nP then ln else va_up ln 16 10) 19 (nP + nP / 2) := ⟨_, rfl⟩
    have l19 : ln1 19 = nP + nP / 2 := by rw [hln1, va_up_self]
    have lb0 : nP = 0 → ln1 16 = 10 := fun z => by rw [hln1, va_up_ne _ _ (by decide), if_neg (by omega), va_up_self]
    have lk : ∀ k ∈ dm, ln1 k = ln k := fun k hk => by
      have hk19 : k ≠ 19 := fun z => hn19 (by rw [← z]; exact hk)
      rw [hln1, va_up_ne _ _ hk19]
      by_cases z : 0 < nP
      · rw [if_pos z]
      · rw [if_neg z, va_up_ne _ _ (fun y : k = 16 => hb0 (by omega) (by rw [← y]; exact hk))]
    obtain ⟨V1, J1, R1, hz, hW, oX, oM, oS, hr⟩ := clr lk hW oX oM oS hr
    have hp : V1 1 2 = nI nP := hr.1.2.2.1
    have hq : V1 2 2 = nI nD := hr.1.2.2.2.1
    have hem : ∀ i, nP ≤ i → R1 16 i = none := fun i h => by
      by_cases z : 0 < nP
      · exact (oS.2.2.2.2.2.2.1 z).2 i h
      · rw [(hz 16 (hb0 (by omega))).2.2]
    have hel : ∀ i t, R1 16 i = some t → t ∈ dm ∧ kdG t = 4 := fun i t h => by
      by_cases z : i < nP
      · have y := oX.2.2.1 i z
        rw [y.2.2.1] at h
        cases h
        exact ⟨y.1, y.2.1⟩
      · rw [hem i (by omega)] at h
        cases h
    obtain ⟨e2, he2⟩ : ∃ e2, R1 1 1 = some e2 := by
      by_cases z : nP = 0
      · exact ⟨18, oS.2.2.2.2.1 z⟩
      · exact ⟨16, (oX.2.2.2.2.1 (by omega)).2.2.2.2⟩
    have hl1 : ln1 16 < 1000 := by
      by_cases z : nP = 0
      · rw [lb0 z]
        decide
      · have := (oX.2.2.2.2.1 (by omega)).2.2.2.1
        omega
    have hal : ∀ (A : Nat → Prop) (U : State), lawX ad0 mi A U → alX mi U := fun _ _ h => h.2.1
    rcases hxx with hxn | hxn
    · skip
      obtain ⟨dm2, ln2, R2, ha⟩ := ast_ex (dm := dm) (ln := ln1) (R := R1) (lst := 1) (b := 16) (n := nP) (t := 100 + nP) (jj := 1) (o := none) (by omega) (by omega) (fun z => ⟨hb0 z, oS.2.2.2.2.1 z, lb0 z⟩) (fun z => ⟨(oX.2.2.2.2.1 z).1, (oX.2.2.2.2.1 z).2.2.2.2, (oX.2.2.2.2.1 z).2.2.1, (oS.2.2.2.2.2.2.1 z).1⟩)
      have g := grown_p oX oM oS hnn (hz _ hkn).2.2 (fun z => (hz 16 z).2.2) (Or.inl rfl) ha
      obtain ⟨V2, hV2⟩ : ∃ v : Mv, v = u2 (u2 (u2 (u2 (u2 (u2 V1 (100 + nP) 0 (nI nP)) (100 + nP) 2 ((xs (i + 2)) + 0)) (100 + nP) 3 ((xs (i + 3)) + 0)) (100 + nP) 4 (((1 : Int32) <<< (nI nP &&& 31)) ||| 0)) 1 0 ((u2 (u2 (u2 (u2 V1 (100 + nP) 0 (nI nP)) (100 + nP) 2 ((xs (i + 2)) + 0)) (100 + nP) 3 ((xs (i + 3)) + 0)) (100 + nP) 4 (((1 : Int32) <<< (nI nP &&& 31)) ||| 0)) 1 0 + 1)) 1 2 (nI nP + 1) := ⟨_, rfl⟩
      refine w_cgi (w_runV ⟨hx, hb, hml, hown, hts⟩ (c_pipeN (lawX_ok ad0 mi) l D q V1 J1 R1 nP nD e2 mi (xs (i + 1)) (xs (i + 2)) (xs (i + 3)) dm2 ln2 R2 oX hp hq hxn hlo hla hnn hkn (hz _ hkn) (kdG_p (by omega)) oS.1 hn19 (hz 19 hn19) (kdG_r (by decide) (by decide)) l19 (kdG_r (by decide) (by decide)) (hz 16) oS.2.2.1 hem hel he2 hl1 (st_ag hag) hal ha) (lawX_ok ad0 mi) (cwV 3 hts gL_law_X7_pipe rfl rfl rfl (by decide +kernel) ⟨Nat.le_of_ble_eq_true rfl, Nat.le_of_ble_eq_true rfl⟩) hK hW hS hA hXs (w_rcv hK hW (oX.1 0 (by decide)).1 (show kdG 0 = 8 from (oX.1 0 (by decide)).2.1) (by decide) rfl) rfl hl.1 rfl (Nat.le_of_ble_eq_true rfl) dL_law_168 ⟨by show cells + 2 ≤ 600000; omega, by show slots + 106 ≤ 7302250; omega⟩) hW hS hA (fun ad2 H locs hq2 hW hS => ?_)
      rw [← hV2] at hW
      have hl : lv_has ls 4 [(0, .ref b), (1, .ref (ad2 0)), (2, .ref (ad2 1000)), (3, .int (nI i))] := by rw [hq2 0 (show ¬ (0 = 100 + nP ∨ 0 = 16 ∨ 0 = 19) by omega), hq2 1000 (show ¬ (1000 = 100 + nP ∨ 1000 = 16 ∨ 1000 = 19) by omega)]; exact hl
      have hag2 : ∀ k, (k = 18 ∨ (50 ≤ k ∧ k < 70)) → ad2 k = ad0 k := fun k hk => (hq2 k (show ¬ (k = 100 + nP ∨ k = 16 ∨ k = 19) by omega)).trans (hag k hk)
      have hU : ∀ k, k ≠ 100 + nP → k ≠ 1 → V2 k = V1 k := fun k k1 k2 => by rw [hV2, u2_ne k2, u2_ne k2, u2_ne k1, u2_ne k1, u2_ne k1, u2_ne k1]
      have hU1 : V2 1 2 = nI nP + 1 := by rw [hV2, u2_ss]
      have h1 : rl cn nP nD V1 V2 J1 J1 R1 := glue1 hr (fun k hk => hU k (by omega) (by omega)) rfl
      have n0 : V2 (100 + nP) 0 = nI nP := by rw [hV2, u2_ne (by omega), u2_ne (by omega), u2_sn (by decide), u2_sn (by decide), u2_sn (by decide), u2_ss]
      have n5 : V2 (100 + nP) 5 = 0 := by rw [hV2, u2_ne (by omega), u2_ne (by omega), u2_sn (by decide), u2_sn (by decide), u2_sn (by decide), u2_sn (by decide), (hz _ hkn).1]
      have n2 : V2 (100 + nP) 2 = (xs (i + 2)) + 0 := by rw [hV2, u2_ne (by omega), u2_ne (by omega), u2_sn (by decide), u2_sn (by decide), u2_ss]
      have n3 : V2 (100 + nP) 3 = (xs (i + 3)) + 0 := by rw [hV2, u2_ne (by omega), u2_ne (by omega), u2_sn (by decide), u2_ss]
      have n4 : V2 (100 + nP) 4 = ((1 : Int32) <<< (nI nP &&& 31)) ||| 0 := by rw [hV2, u2_ne (by omega), u2_ne (by omega), u2_ss]
      refine lv_aload_n hx hb dL_law_171 rfl (lv_at hl 2 rfl) ?_
      refine lv_aload_n hx hb dL_law_172 rfl (lv_at hl 0 rfl) ?_
      refine lv_iload_n hx hb dL_law_173 rfl (lv_at hl 3 rfl) ?_
      refine lv_iconst (v := 1) hx hb dL_law_174 (by decide) ?_
      refine lv_iadd hx hb dL_law_175 ?_
      refine w_i (show nI i + 1 = nI (i + 1) from nI_add i 1) ?_
      refine w_sc (t := i + 1) hx hb hX hbl hbA hS (by omega) hL dL_law_176 ?_
      refine lv_aload_n hx hb dL_law_177 rfl (lv_at hl 0 rfl) ?_
      refine lv_iload_n hx hb dL_law_178 rfl (lv_at hl 3 rfl) ?_
      refine lv_iconst (v := 2) hx hb dL_law_179 (by decide) ?_
      refine lv_iadd hx hb dL_law_180 ?_
      refine w_i (show nI i + 2 = nI (i + 2) from nI_add i 2) ?_
      refine w_sc (t := i + 2) hx hb hX hbl hbA hS (by omega) hL dL_law_181 ?_
      refine lv_aload_n hx hb dL_law_182 rfl (lv_at hl 0 rfl) ?_
      refine lv_iload_n hx hb dL_law_183 rfl (lv_at hl 3 rfl) ?_
      refine lv_iconst (v := 3) hx hb dL_law_184 (by decide) ?_
      refine lv_iadd hx hb dL_law_185 ?_
      refine w_i (show nI i + 3 = nI (i + 3) from nI_add i 3) ?_
      refine w_sc (t := i + 3) hx hb hX hbl hbA hS (by omega) hL dL_law_186 ?_
      refine w_ci (w_runV ⟨hx, hb, hml, hown, hts⟩ (c_X8_pipe (lawX_ok ad0 mi) l D q V2 J1 _ nP nD (xs (i + 1)) (xs (i + 2)) (xs (i + 3)) g.2.1 h1.1.2.2.2.2.1 h30 h1.1.2.2.2.2.2 h40) (lawX_ok ad0 mi) (cwV 3 hts gL_law_X8_pipe rfl rfl rfl (by decide +kernel) ⟨Nat.le_of_ble_eq_true rfl, Nat.le_of_ble_eq_true rfl⟩) hK hW hS hA hXs (w_rcv hK hW g.2.1.1.1 g.2.1.1.2 (by decide) rfl) rfl hl.1 rfl (Nat.le_of_ble_eq_true rfl) dL_law_187 ⟨by show cells + 2 + 0 ≤ 600000; omega, by show slots + 106 + 0 ≤ 7302250; omega⟩) hW hS hA (fun H locs hW hS => ?_)
      obtain ⟨he, h2⟩ := e_pipeA (U := V1) (U' := V2) h1 (xs (i + 1)) (xs (i + 2)) (xs (i + 3)) hlo hla hnn hU hU1 g.2.2.2.1 n0 n5 (Or.inl ⟨hxn, g.2.2.2.2, n2, n3, n4⟩)
      refine lv_icmp_eq (tgt := 862) hx hb dL_law_190 (by decide) (fun _ => ?_) (fun z => absurd he.symm z)
      refine W.widen (k := cells + 2) (n := slots + 112) (by omega) (by omega) ?_
      exact kk dm2 ln2 ad2 _ _ _ (nP + 1) nD H locs ls ⟨hW, g.1, g.2.1, g.2.2.1, glue2 h2 (mf_pipe) rfl (by omega), hag2⟩ hS hl
    · skip
      obtain ⟨dm2, ln2, R2, ha⟩ := ast_ex (dm := dm) (ln := ln1) (R := R1) (lst := 1) (b := 16) (n := nP) (t := 100 + nP) (jj := 1) (o := some (100 + (xs (i + 1)).toNatClampNeg)) (by omega) (by omega) (fun z => ⟨hb0 z, oS.2.2.2.2.1 z, lb0 z⟩) (fun z => ⟨(oX.2.2.2.2.1 z).1, (oX.2.2.2.2.1 z).2.2.2.2, (oX.2.2.2.2.1 z).2.2.1, (oS.2.2.2.2.2.2.1 z).1⟩)
      have g := grown_p oX oM oS hnn (hz _ hkn).2.2 (fun z => (hz 16 z).2.2) (Or.inr ⟨_, (inx_c hxn).1, rfl⟩) ha
      obtain ⟨V2, hV2⟩ : ∃ v : Mv, v = u2 (u2 (u2 (u2 (u2 (u2 V1 (100 + nP) 0 (nI nP)) (100 + nP) 2 ((xs (i + 2)) + V1 (100 + (xs (i + 1)).toNatClampNeg) 2)) (100 + nP) 3 ((xs (i + 3)) + V1 (100 + (xs (i + 1)).toNatClampNeg) 3)) (100 + nP) 4 (((1 : Int32) <<< (nI nP &&& 31)) ||| V1 (100 + (xs (i + 1)).toNatClampNeg) 4)) 1 0 ((u2 (u2 (u2 (u2 V1 (100 + nP) 0 (nI nP)) (100 + nP) 2 ((xs (i + 2)) + V1 (100 + (xs (i + 1)).toNatClampNeg) 2)) (100 + nP) 3 ((xs (i + 3)) + V1 (100 + (xs (i + 1)).toNatClampNeg) 3)) (100 + nP) 4 (((1 : Int32) <<< (nI nP &&& 31)) ||| V1 (100 + (xs (i + 1)).toNatClampNeg) 4)) 1 0 + 1)) 1 2 (nI nP + 1) := ⟨_, rfl⟩
      refine w_cgi (w_runV ⟨hx, hb, hml, hown, hts⟩ (c_pipeP (lawX_ok ad0 mi) l D q V1 J1 R1 nP nD e2 mi (xs (i + 1)) (xs (i + 2)) (xs (i + 3)) dm2 ln2 R2 oX hp hq hxn hlo hla hnn hkn (hz _ hkn) (kdG_p (by omega)) oS.1 hn19 (hz 19 hn19) (kdG_r (by decide) (by decide)) l19 (kdG_r (by decide) (by decide)) (hz 16) oS.2.2.1 hem hel he2 hl1 (st_ag hag) hal ha) (lawX_ok ad0 mi) (cwV 3 hts gL_law_X7_pipe rfl rfl rfl (by decide +kernel) ⟨Nat.le_of_ble_eq_true rfl, Nat.le_of_ble_eq_true rfl⟩) hK hW hS hA hXs (w_rcv hK hW (oX.1 0 (by decide)).1 (show kdG 0 = 8 from (oX.1 0 (by decide)).2.1) (by decide) rfl) rfl hl.1 rfl (Nat.le_of_ble_eq_true rfl) dL_law_168 ⟨by show cells + 2 ≤ 600000; omega, by show slots + 106 ≤ 7302250; omega⟩) hW hS hA (fun ad2 H locs hq2 hW hS => ?_)
      rw [← hV2] at hW
      have hl : lv_has ls 4 [(0, .ref b), (1, .ref (ad2 0)), (2, .ref (ad2 1000)), (3, .int (nI i))] := by rw [hq2 0 (show ¬ (0 = 100 + nP ∨ 0 = 16 ∨ 0 = 19) by omega), hq2 1000 (show ¬ (1000 = 100 + nP ∨ 1000 = 16 ∨ 1000 = 19) by omega)]; exact hl
      have hag2 : ∀ k, (k = 18 ∨ (50 ≤ k ∧ k < 70)) → ad2 k = ad0 k := fun k hk => (hq2 k (show ¬ (k = 100 + nP ∨ k = 16 ∨ k = 19) by omega)).trans (hag k hk)
      have hU : ∀ k, k ≠ 100 + nP → k ≠ 1 → V2 k = V1 k := fun k k1 k2 => by rw [hV2, u2_ne k2, u2_ne k2, u2_ne k1, u2_ne k1, u2_ne k1, u2_ne k1]
      have hU1 : V2 1 2 = nI nP + 1 := by rw [hV2, u2_ss]
      have h1 : rl cn nP nD V1 V2 J1 J1 R1 := glue1 hr (fun k hk => hU k (by omega) (by omega)) rfl
      have n0 : V2 (100 + nP) 0 = nI nP := by rw [hV2, u2_ne (by omega), u2_ne (by omega), u2_sn (by decide), u2_sn (by decide), u2_sn (by decide), u2_ss]
      have n5 : V2 (100 + nP) 5 = 0 := by rw [hV2, u2_ne (by omega), u2_ne (by omega), u2_sn (by decide), u2_sn (by decide), u2_sn (by decide), u2_sn (by decide), (hz _ hkn).1]
      have n2 : V2 (100 + nP) 2 = (xs (i + 2)) + V1 (100 + (xs (i + 1)).toNatClampNeg) 2 := by rw [hV2, u2_ne (by omega), u2_ne (by omega), u2_sn (by decide), u2_sn (by decide), u2_ss]
      have n3 : V2 (100 + nP) 3 = (xs (i + 3)) + V1 (100 + (xs (i + 1)).toNatClampNeg) 3 := by rw [hV2, u2_ne (by omega), u2_ne (by omega), u2_sn (by decide), u2_ss]
      have n4 : V2 (100 + nP) 4 = ((1 : Int32) <<< (nI nP &&& 31)) ||| V1 (100 + (xs (i + 1)).toNatClampNeg) 4 := by rw [hV2, u2_ne (by omega), u2_ne (by omega), u2_ss]
      refine lv_aload_n hx hb dL_law_171 rfl (lv_at hl 2 rfl) ?_
      refine lv_aload_n hx hb dL_law_172 rfl (lv_at hl 0 rfl) ?_
      refine lv_iload_n hx hb dL_law_173 rfl (lv_at hl 3 rfl) ?_
      refine lv_iconst (v := 1) hx hb dL_law_174 (by decide) ?_
      refine lv_iadd hx hb dL_law_175 ?_
      refine w_i (show nI i + 1 = nI (i + 1) from nI_add i 1) ?_
      refine w_sc (t := i + 1) hx hb hX hbl hbA hS (by omega) hL dL_law_176 ?_
      refine lv_aload_n hx hb dL_law_177 rfl (lv_at hl 0 rfl) ?_
      refine lv_iload_n hx hb dL_law_178 rfl (lv_at hl 3 rfl) ?_
      refine lv_iconst (v := 2) hx hb dL_law_179 (by decide) ?_
      refine lv_iadd hx hb dL_law_180 ?_
      refine w_i (show nI i + 2 = nI (i + 2) from nI_add i 2) ?_
      refine w_sc (t := i + 2) hx hb hX hbl hbA hS (by omega) hL dL_law_181 ?_
      refine lv_aload_n hx hb dL_law_182 rfl (lv_at hl 0 rfl) ?_
      refine lv_iload_n hx hb dL_law_183 rfl (lv_at hl 3 rfl) ?_
      refine lv_iconst (v := 3) hx hb dL_law_184 (by decide) ?_
      refine lv_iadd hx hb dL_law_185 ?_
      refine w_i (show nI i + 3 = nI (i + 3) from nI_add i 3) ?_
      refine w_sc (t := i + 3) hx hb hX hbl hbA hS (by omega) hL dL_law_186 ?_
      refine w_ci (w_runV ⟨hx, hb, hml, hown, hts⟩ (c_X8_pipe (lawX_ok ad0 mi) l D q V2 J1 _ nP nD (xs (i + 1)) (xs (i + 2)) (xs (i + 3)) g.2.1 h1.1.2.2.2.2.1 h30 h1.1.2.2.2.2.2 h40) (lawX_ok ad0 mi) (cwV 3 hts gL_law_X8_pipe rfl rfl rfl (by decide +kernel) ⟨Nat.le_of_ble_eq_true rfl, Nat.le_of_ble_eq_true rfl⟩) hK hW hS hA hXs (w_rcv hK hW g.2.1.1.1 g.2.1.1.2 (by decide) rfl) rfl hl.1 rfl (Nat.le_of_ble_eq_true rfl) dL_law_187 ⟨by show cells + 2 + 0 ≤ 600000; omega, by show slots + 106 + 0 ≤ 7302250; omega⟩) hW hS hA (fun H locs hW hS => ?_)
      obtain ⟨he, h2⟩ := e_pipeA (U := V1) (U' := V2) h1 (xs (i + 1)) (xs (i + 2)) (xs (i + 3)) hlo hla hnn hU hU1 g.2.2.2.1 n0 n5 (Or.inr ⟨hxn, g.2.2.2.2, n2, n3, n4⟩)
      refine lv_icmp_eq (tgt := 862) hx hb dL_law_190 (by decide) (fun _ => ?_) (fun z => absurd he.symm z)
      refine W.widen (k := cells + 2) (n := slots + 112) (by omega) (by omega) ?_
      exact kk dm2 ln2 ad2 _ _ _ (nP + 1) nD H locs ls ⟨hW, g.1, g.2.1, g.2.2.1, glue2 h2 (mf_pipe) rfl (by omega), hag2⟩ hS hl
  · skip
    refine w_ci (w_runV ⟨hx, hb, hml, hown, hts⟩ (c_pipeB (lawX_ok ad0 mi) l D q V J R nP nD (xs (i + 1)) (xs (i + 2)) (xs (i + 3)) oX hp hq hacc) (lawX_ok ad0 mi) (cwV 3 hts gL_law_X7_pipe rfl rfl rfl (by decide +kernel) ⟨Nat.le_of_ble_eq_true rfl, Nat.le_of_ble_eq_true rfl⟩) hK hW hS hA hXs (w_rcv hK hW (oX.1 0 (by decide)).1 (show kdG 0 = 8 from (oX.1 0 (by decide)).2.1) (by decide) rfl) rfl hl.1 rfl (Nat.le_of_ble_eq_true rfl) dL_law_168 ⟨by show cells + 0 ≤ 600000; omega, by show slots + 0 ≤ 7302250; omega⟩) hW hS hA (fun H locs hW hS => ?_)
    obtain ⟨he, hV⟩ := e_pipeB hr (xs (i + 1)) (xs (i + 2)) (xs (i + 3)) hacc
    refine lv_aload_n hx hb dL_law_171 rfl (lv_at hl 2 rfl) ?_
    refine lv_aload_n hx hb dL_law_172 rfl (lv_at hl 0 rfl) ?_
    refine lv_iload_n hx hb dL_law_173 rfl (lv_at hl 3 rfl) ?_
    refine lv_iconst (v := 1) hx hb dL_law_174 (by decide) ?_
    refine lv_iadd hx hb dL_law_175 ?_
    refine w_i (show nI i + 1 = nI (i + 1) from nI_add i 1) ?_
    refine w_sc (t := i + 1) hx hb hX hbl hbA hS (by omega) hL dL_law_176 ?_
    refine lv_aload_n hx hb dL_law_177 rfl (lv_at hl 0 rfl) ?_
    refine lv_iload_n hx hb dL_law_178 rfl (lv_at hl 3 rfl) ?_
    refine lv_iconst (v := 2) hx hb dL_law_179 (by decide) ?_
    refine lv_iadd hx hb dL_law_180 ?_
    refine w_i (show nI i + 2 = nI (i + 2) from nI_add i 2) ?_
    refine w_sc (t := i + 2) hx hb hX hbl hbA hS (by omega) hL dL_law_181 ?_
    refine lv_aload_n hx hb dL_law_182 rfl (lv_at hl 0 rfl) ?_
    refine lv_iload_n hx hb dL_law_183 rfl (lv_at hl 3 rfl) ?_
    refine lv_iconst (v := 3) hx hb dL_law_184 (by decide) ?_
    refine lv_iadd hx hb dL_law_185 ?_
    refine w_i (show nI i + 3 = nI (i + 3) from nI_add i 3) ?_
    refine w_sc (t := i + 3) hx hb hX hbl hbA hS (by omega) hL dL_law_186 ?_
    refine w_ci (w_runV ⟨hx, hb, hml, hown, hts⟩ (c_X8_pipe (lawX_ok ad0 mi) l D q V J R nP nD (xs (i + 1)) (xs (i + 2)) (xs (i + 3)) oM hr.1.2.2.2.2.1 h30 hr.1.2.2.2.2.2 h40) (lawX_ok ad0 mi) (cwV 3 hts gL_law_X8_pipe rfl rfl rfl (by decide +kernel) ⟨Nat.le_of_ble_eq_true rfl, Nat.le_of_ble_eq_true rfl⟩) hK hW hS hA hXs (w_rcv hK hW oM.1.1 oM.1.2 (by decide) rfl) rfl hl.1 rfl (Nat.le_of_ble_eq_true rfl) dL_law_187 ⟨by show cells + 0 ≤ 600000; omega, by show slots + 0 ≤ 7302250; omega⟩) hW hS hA (fun H locs hW hS => ?_)
    refine lv_icmp_eq (tgt := 862) hx hb dL_law_190 (by decide) (fun _ => ?_) (fun z => absurd he z)
    refine W.widen (k := cells + 2) (n := slots + 112) (by omega) (by omega) ?_
    rw [hV] at hW
    exact kk dm ln ad _ _ R nP nD H locs ls ⟨hW, oX, oM, oS, glue2 (rl_0 (x := 0) hr) u0_lo rfl (by omega), hag⟩ hS hl
set_option maxHeartbeats 4000000 in
set_option maxRecDepth 100000 in
theorem lc_dial {p : Program} {l : Launch} {e : Env} {s : State} {m : MethodId} {args : Array Value} {below : List Frame} {meth : Method} {c : Code} {b L : Nat} {xs : Nat → Int32} {A : Nat → Prop} {D : va_G} {q : Cq} {ad0 : Nat → Nat} {mi : Nat} {Q : State → Prop} {H : Heap} {locs : List Loc} {cells slots : Nat} {ls : Array Slot} {dm : List Nat} {ln ad : Nat → Nat} {V : Mv} {J : Mj} {R : Mr} {nP nD i cn : Nat} (C : LC p s m args c b L xs A D q ad0 mi) (hi : i + 4 ≤ L) (hcn : cn ≤ 1000) (hI : LI ad0 A D q cn H dm ln ad V J R nP nD) (hS : va_S A s.heap H locs) (hce : cells + 2 ≤ 600000) (hsl : slots + 112 ≤ 7302250) (hl : lv_has ls 4 [(0, .ref b), (1, .ref (ad 0)), (2, .ref (ad 1000)), (3, .int (nI i))]) (kk : ∀ (dm' : List Nat) (ln' ad' : Nat → Nat) (V' : Mv) (J' : Mj) (R' : Mr) (nP' nD' : Nat) (H' : Heap) (locs' : List Loc) (ls' : Array Slot), LI ad0 A D q (cn + 1) H' dm' ln' ad' V' J' R' nP' nD' → va_S A s.heap H' locs' → lv_has ls' 4 [(0, .ref b), (1, .ref (ad' 0)), (2, .ref (ad' 1000)), (3, .int (nI i))] → W p l e room_1 s m args below meth c H' locs' (cells + 2) (slots + 112) Q (F0 m 862 ls' [])) : W p l e room_1 s m args below meth c H locs cells slots Q (F0 m 261 ls []) := by
  obtain ⟨hx, hb, hml, hown, hts, hX, hbl, hbA, hK, hA, hXs, hL⟩ := C
  obtain ⟨hW, oX, oM, oS, hr, hag⟩ := hI
  have h30 := hr.1.1
  have h40 := hr.1.2.1
  have hp : V 1 2 = nI nP := hr.1.2.2.1
  have hq : V 2 2 = nI nD := hr.1.2.2.2.1
  refine lv_aload_n hx hb dL_law_261 rfl (lv_at hl 1 rfl) ?_
  refine lv_aload_n hx hb dL_law_262 rfl (lv_at hl 0 rfl) ?_
  refine lv_iload_n hx hb dL_law_263 rfl (lv_at hl 3 rfl) ?_
  refine lv_iconst (v := 1) hx hb dL_law_264 (by decide) ?_
  refine lv_iadd hx hb dL_law_265 ?_
  refine w_i (show nI i + 1 = nI (i + 1) from nI_add i 1) ?_
  refine w_sc (t := i + 1) hx hb hX hbl hbA hS (by omega) hL dL_law_266 ?_
  refine lv_aload_n hx hb dL_law_267 rfl (lv_at hl 0 rfl) ?_
  refine lv_iload_n hx hb dL_law_268 rfl (lv_at hl 3 rfl) ?_
  refine lv_iconst (v := 2) hx hb dL_law_269 (by decide) ?_
  refine lv_iadd hx hb dL_law_270 ?_
  refine w_i (show nI i + 2 = nI (i + 2) from nI_add i 2) ?_
  refine w_sc (t := i + 2) hx hb hX hbl hbA hS (by omega) hL dL_law_271 ?_
  refine lv_aload_n hx hb dL_law_272 rfl (lv_at hl 0 rfl) ?_
  refine lv_iload_n hx hb dL_law_273 rfl (lv_at hl 3 rfl) ?_
  refine lv_iconst (v := 3) hx hb dL_law_274 (by decide) ?_
  refine lv_iadd hx hb dL_law_275 ?_
  refine w_i (show nI i + 3 = nI (i + 3) from nI_add i 3) ?_
  refine w_sc (t := i + 3) hx hb hX hbl hbA hS (by omega) hL dL_law_276 ?_
  by_cases hacc : inx nP (xs (i + 1)) ∧ (1 ≤ (xs (i + 2)) ∧ (xs (i + 2)) ≤ 100) ∧ (0 ≤ (xs (i + 3)) ∧ (xs (i + 3)) ≤ 2) ∧ nD < 40
  · obtain ⟨hxx, hlo, hla, hnn⟩ := hacc
    have hn19 : 19 ∉ dm := fun z => by rcases oS.2.1 19 z with y | y | y | y | y | y <;> omega
    have hkn : 200 + nD ∉ dm := fun z => by rcases oS.2.1 _ z with y | y | y | y | y | y <;> omega
    have hb0 : nD = 0 → 17 ∉ dm := fun h0 z => by rcases oS.2.1 17 z with y | y | y | y | y | y <;> omega
    obtain ⟨ln1, hln1⟩ : ∃ f : Nat → Nat, f = va_up (if 0 < nD then ln else va_up ln 17 10) 19 (nD + nD / 2) := ⟨_, rfl⟩
    have l19 : ln1 19 = nD + nD / 2 := by rw [hln1, va_up_self]
    have lb0 : nD = 0 → ln1 17 = 10 := fun z => by rw [hln1, va_up_ne _ _ (by decide), if_neg (by omega), va_up_self]
    have lk : ∀ k ∈ dm, ln1 k = ln k := fun k hk => by
      have hk19 : k ≠ 19 := fun z => hn19 (by rw [← z]; exact hk)
      rw [hln1, va_up_ne _ _ hk19]
      by_cases z : 0 < nD
      · rw [if_pos z]
      · rw [if_neg z, va_up_ne _ _ (fun y : k = 17 => hb0 (by omega) (by rw [← y]; exact hk))]
    obtain ⟨V1, J1, R1, hz, hW, oX, oM, oS, hr⟩ := clr lk hW oX oM oS hr
    have hp : V1 1 2 = nI nP := hr.1.2.2.1
    have hq : V1 2 2 = nI nD := hr.1.2.2.2.1
    have hem : ∀ i, nD ≤ i → R1 17 i = none := fun i h => by
      by_cases z : 0 < nD
      · exact (oS.2.2.2.2.2.2.2 z).2 i h
      · rw [(hz 17 (hb0 (by omega))).2.2]
    have hel : ∀ i t, R1 17 i = some t → t ∈ dm ∧ kdG t = 1 := fun i t h => by
      by_cases z : i < nD
      · have y := oX.2.2.2.1 i z
        rw [y.2.2.1] at h
        cases h
        exact ⟨y.1, y.2.1⟩
      · rw [hem i (by omega)] at h
        cases h
    obtain ⟨e2, he2⟩ : ∃ e2, R1 2 1 = some e2 := by
      by_cases z : nD = 0
      · exact ⟨18, oS.2.2.2.2.2.1 z⟩
      · exact ⟨17, (oX.2.2.2.2.2 (by omega)).2.2.2.2⟩
    have hl1 : ln1 17 < 1000 := by
      by_cases z : nD = 0
      · rw [lb0 z]
        decide
      · have := (oX.2.2.2.2.2 (by omega)).2.2.2.1
        omega
    have hal : ∀ (A : Nat → Prop) (U : State), lawX ad0 mi A U → alX mi U := fun _ _ h => h.2.1
    have hxn := hxx
    obtain ⟨dm2, ln2, R2, ha⟩ := ast_ex (dm := dm) (ln := ln1) (R := R1) (lst := 2) (b := 17) (n := nD) (t := 200 + nD) (jj := 0) (o := some (100 + (xs (i + 1)).toNatClampNeg)) (by omega) (by omega) (fun z => ⟨hb0 z, oS.2.2.2.2.2.1 z, lb0 z⟩) (fun z => ⟨(oX.2.2.2.2.2 z).1, (oX.2.2.2.2.2 z).2.2.2.2, (oX.2.2.2.2.2 z).2.2.1, (oS.2.2.2.2.2.2.2 z).1⟩)
    have g := grown_d oX oM oS hnn (hz _ hkn).2.2 (fun z => (hz 17 z).2.2) (inx_c hxn).1 ha
    obtain ⟨V2, hV2⟩ : ∃ v : Mv, v = u2 (u2 (u2 (u2 V1 (200 + nD) 1 (xs (i + 2))) (200 + nD) 2 (xs (i + 3))) 2 0 ((u2 (u2 V1 (200 + nD) 1 (xs (i + 2))) (200 + nD) 2 (xs (i + 3))) 2 0 + 1)) 2 2 (nI nD + 1) := ⟨_, rfl⟩
    refine w_cgi (w_runV ⟨hx, hb, hml, hown, hts⟩ (c_dialA (lawX_ok ad0 mi) l D q V1 J1 R1 nP nD e2 mi (xs (i + 1)) (xs (i + 2)) (xs (i + 3)) dm2 ln2 R2 oX hp hq hxn hlo hla hnn hkn (hz _ hkn) (kdG_d (by omega)) oS.1 hn19 (hz 19 hn19) (kdG_r (by decide) (by decide)) l19 (kdG_r (by decide) (by decide)) (hz 17) oS.2.2.2.1 hem hel he2 hl1 (st_ag hag) hal ha) (lawX_ok ad0 mi) (cwV 3 hts gL_law_X7_dial rfl rfl rfl (by decide +kernel) ⟨Nat.le_of_ble_eq_true rfl, Nat.le_of_ble_eq_true rfl⟩) hK hW hS hA hXs (w_rcv hK hW (oX.1 0 (by decide)).1 (show kdG 0 = 8 from (oX.1 0 (by decide)).2.1) (by decide) rfl) rfl hl.1 rfl (Nat.le_of_ble_eq_true rfl) dL_law_277 ⟨by show cells + 2 ≤ 600000; omega, by show slots + 112 ≤ 7302250; omega⟩) hW hS hA (fun ad2 H locs hq2 hW hS => ?_)
    rw [← hV2] at hW
    have hl : lv_has ls 4 [(0, .ref b), (1, .ref (ad2 0)), (2, .ref (ad2 1000)), (3, .int (nI i))] := by rw [hq2 0 (show ¬ (0 = 200 + nD ∨ 0 = 17 ∨ 0 = 19) by omega), hq2 1000 (show ¬ (1000 = 200 + nD ∨ 1000 = 17 ∨ 1000 = 19) by omega)]; exact hl
    have hag2 : ∀ k, (k = 18 ∨ (50 ≤ k ∧ k < 70)) → ad2 k = ad0 k := fun k hk => (hq2 k (show ¬ (k = 200 + nD ∨ k = 17 ∨ k = 19) by omega)).trans (hag k hk)
    have hU : ∀ k, k ≠ 200 + nD → k ≠ 2 → V2 k = V1 k := fun k k1 k2 => by rw [hV2, u2_ne k2, u2_ne k2, u2_ne k1, u2_ne k1]
    have hU1 : V2 2 2 = nI nD + 1 := by rw [hV2, u2_ss]
    have h1 : rl cn nP nD V1 V2 J1 J1 R1 := glue1 hr (fun k hk => hU k (by omega) (by omega)) rfl
    have n1 : V2 (200 + nD) 1 = (xs (i + 2)) := by rw [hV2, u2_ne (by omega), u2_ne (by omega), u2_sn (by decide), u2_ss]
    have n2 : V2 (200 + nD) 2 = (xs (i + 3)) := by rw [hV2, u2_ne (by omega), u2_ne (by omega), u2_ss]
    have nz : ∀ j, j ≠ 1 → j ≠ 2 → V2 (200 + nD) j = 0 := fun j j1 j2 => by rw [hV2, u2_ne (by omega), u2_ne (by omega), u2_sn j2, u2_sn j1, (hz _ hkn).1]
    refine lv_aload_n hx hb dL_law_280 rfl (lv_at hl 2 rfl) ?_
    refine lv_aload_n hx hb dL_law_281 rfl (lv_at hl 0 rfl) ?_
    refine lv_iload_n hx hb dL_law_282 rfl (lv_at hl 3 rfl) ?_
    refine lv_iconst (v := 1) hx hb dL_law_283 (by decide) ?_
    refine lv_iadd hx hb dL_law_284 ?_
    refine w_i (show nI i + 1 = nI (i + 1) from nI_add i 1) ?_
    refine w_sc (t := i + 1) hx hb hX hbl hbA hS (by omega) hL dL_law_285 ?_
    refine lv_aload_n hx hb dL_law_286 rfl (lv_at hl 0 rfl) ?_
    refine lv_iload_n hx hb dL_law_287 rfl (lv_at hl 3 rfl) ?_
    refine lv_iconst (v := 2) hx hb dL_law_288 (by decide) ?_
    refine lv_iadd hx hb dL_law_289 ?_
    refine w_i (show nI i + 2 = nI (i + 2) from nI_add i 2) ?_
    refine w_sc (t := i + 2) hx hb hX hbl hbA hS (by omega) hL dL_law_290 ?_
    refine lv_aload_n hx hb dL_law_291 rfl (lv_at hl 0 rfl) ?_
    refine lv_iload_n hx hb dL_law_292 rfl (lv_at hl 3 rfl) ?_
    refine lv_iconst (v := 3) hx hb dL_law_293 (by decide) ?_
    refine lv_iadd hx hb dL_law_294 ?_
    refine w_i (show nI i + 3 = nI (i + 3) from nI_add i 3) ?_
    refine w_sc (t := i + 3) hx hb hX hbl hbA hS (by omega) hL dL_law_295 ?_
    refine w_ci (w_runV ⟨hx, hb, hml, hown, hts⟩ (c_X8_dial (lawX_ok ad0 mi) l D q V2 J1 _ nP nD (xs (i + 1)) (xs (i + 2)) (xs (i + 3)) g.2.1 h1.1.2.2.2.2.1 h30 h1.1.2.2.2.2.2 h40) (lawX_ok ad0 mi) (cwV 3 hts gL_law_X8_dial rfl rfl rfl (by decide +kernel) ⟨Nat.le_of_ble_eq_true rfl, Nat.le_of_ble_eq_true rfl⟩) hK hW hS hA hXs (w_rcv hK hW g.2.1.1.1 g.2.1.1.2 (by decide) rfl) rfl hl.1 rfl (Nat.le_of_ble_eq_true rfl) dL_law_296 ⟨by show cells + 2 + 0 ≤ 600000; omega, by show slots + 112 + 0 ≤ 7302250; omega⟩) hW hS hA (fun H locs hW hS => ?_)
    obtain ⟨he, h2⟩ := e_dialA (U := V1) (U' := V2) h1 (xs (i + 1)) (xs (i + 2)) (xs (i + 3)) hxn hlo hla hnn hU hU1 g.2.2.2.1 g.2.2.2.2 n1 n2 nz
    refine lv_icmp_eq (tgt := 862) hx hb dL_law_299 (by decide) (fun _ => ?_) (fun z => absurd he.symm z)
    refine W.widen (k := cells + 2) (n := slots + 112) (by omega) (by omega) ?_
    exact kk dm2 ln2 ad2 _ _ _ nP (nD + 1) H locs ls ⟨hW, g.1, g.2.1, g.2.2.1, glue2 h2 (mf_dial) rfl (by omega), hag2⟩ hS hl
  · skip
    refine w_ci (w_runV ⟨hx, hb, hml, hown, hts⟩ (c_dialB (lawX_ok ad0 mi) l D q V J R nP nD (xs (i + 1)) (xs (i + 2)) (xs (i + 3)) oX hp hq hacc) (lawX_ok ad0 mi) (cwV 3 hts gL_law_X7_dial rfl rfl rfl (by decide +kernel) ⟨Nat.le_of_ble_eq_true rfl, Nat.le_of_ble_eq_true rfl⟩) hK hW hS hA hXs (w_rcv hK hW (oX.1 0 (by decide)).1 (show kdG 0 = 8 from (oX.1 0 (by decide)).2.1) (by decide) rfl) rfl hl.1 rfl (Nat.le_of_ble_eq_true rfl) dL_law_277 ⟨by show cells + 0 ≤ 600000; omega, by show slots + 0 ≤ 7302250; omega⟩) hW hS hA (fun H locs hW hS => ?_)
    obtain ⟨he, hV⟩ := e_dialB hr (xs (i + 1)) (xs (i + 2)) (xs (i + 3)) hacc
    refine lv_aload_n hx hb dL_law_280 rfl (lv_at hl 2 rfl) ?_
    refine lv_aload_n hx hb dL_law_281 rfl (lv_at hl 0 rfl) ?_
    refine lv_iload_n hx hb dL_law_282 rfl (lv_at hl 3 rfl) ?_
    refine lv_iconst (v := 1) hx hb dL_law_283 (by decide) ?_
    refine lv_iadd hx hb dL_law_284 ?_
    refine w_i (show nI i + 1 = nI (i + 1) from nI_add i 1) ?_
    refine w_sc (t := i + 1) hx hb hX hbl hbA hS (by omega) hL dL_law_285 ?_
    refine lv_aload_n hx hb dL_law_286 rfl (lv_at hl 0 rfl) ?_
    refine lv_iload_n hx hb dL_law_287 rfl (lv_at hl 3 rfl) ?_
    refine lv_iconst (v := 2) hx hb dL_law_288 (by decide) ?_
    refine lv_iadd hx hb dL_law_289 ?_
    refine w_i (show nI i + 2 = nI (i + 2) from nI_add i 2) ?_
    refine w_sc (t := i + 2) hx hb hX hbl hbA hS (by omega) hL dL_law_290 ?_
    refine lv_aload_n hx hb dL_law_291 rfl (lv_at hl 0 rfl) ?_
    refine lv_iload_n hx hb dL_law_292 rfl (lv_at hl 3 rfl) ?_
    refine lv_iconst (v := 3) hx hb dL_law_293 (by decide) ?_
    refine lv_iadd hx hb dL_law_294 ?_
    refine w_i (show nI i + 3 = nI (i + 3) from nI_add i 3) ?_
    refine w_sc (t := i + 3) hx hb hX hbl hbA hS (by omega) hL dL_law_295 ?_
    refine w_ci (w_runV ⟨hx, hb, hml, hown, hts⟩ (c_X8_dial (lawX_ok ad0 mi) l D q V J R nP nD (xs (i + 1)) (xs (i + 2)) (xs (i + 3)) oM hr.1.2.2.2.2.1 h30 hr.1.2.2.2.2.2 h40) (lawX_ok ad0 mi) (cwV 3 hts gL_law_X8_dial rfl rfl rfl (by decide +kernel) ⟨Nat.le_of_ble_eq_true rfl, Nat.le_of_ble_eq_true rfl⟩) hK hW hS hA hXs (w_rcv hK hW oM.1.1 oM.1.2 (by decide) rfl) rfl hl.1 rfl (Nat.le_of_ble_eq_true rfl) dL_law_296 ⟨by show cells + 0 ≤ 600000; omega, by show slots + 0 ≤ 7302250; omega⟩) hW hS hA (fun H locs hW hS => ?_)
    refine lv_icmp_eq (tgt := 862) hx hb dL_law_299 (by decide) (fun _ => ?_) (fun z => absurd he z)
    refine W.widen (k := cells + 2) (n := slots + 112) (by omega) (by omega) ?_
    rw [hV] at hW
    exact kk dm ln ad _ _ R nP nD H locs ls ⟨hW, oX, oM, oS, glue2 (rl_0 (x := 0) hr) u0_lo rfl (by omega), hag⟩ hS hl
