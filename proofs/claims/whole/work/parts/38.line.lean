section
variable {X : Nat × (Nat → Int32)} {d : Nat} {I : Nat → Nat → Int32} {J : Nat → Nat → Int64}
/-! ===== promises 40, 41, class side ===== -/
def lnF (P : Pce) (o : Nat → Int) (h i : Nat) : Int := foldN (fun j a => a + (popN (hrS P o (h + j)) : Int) - (popN (hrS P (fun _ => 0 : Nat → Int) (h + j)) : Int)) 0 i
theorem lnF_s (P : Pce) (o : Nat → Int) (h i : Nat) : lnF P o h (i + 1) = lnF P o h i + (popN (hrS P o (h + i)) : Int) - (popN (hrS P (fun _ => 0 : Nat → Int) (h + i)) : Int) := rfl
def lnK (P : Pce) (h : Nat) : Nat := match fstN (fun i => isK (P.2.2.1 (h + (i + 1))) 3) (P.2.1 - h - 1) with
  | some i => i + 1
  | none => P.2.1 - h
theorem lnK_at {P : Pce} {h i : Nat} (h1 : 1 ≤ i) (h2 : i < P.2.1 - h) (h3 : isK (P.2.2.1 (h + i)) 3 = true) (h4 : ∀ j, 1 ≤ j → j < i → isK (P.2.2.1 (h + j)) 3 = false) : lnK P h = i := by
  obtain ⟨k, rfl⟩ : ∃ k, i = k + 1 := ⟨i - 1, by omega⟩
  unfold lnK
  rw [fstN_some (i := k) h3 (fun j hj => h4 (j + 1) (by omega) (by omega)) (by omega)]
theorem lnK_end {P : Pce} {h : Nat} (h4 : ∀ j, 1 ≤ j → j < P.2.1 - h → isK (P.2.2.1 (h + j)) 3 = false) : lnK P h = P.2.1 - h := by
  unfold lnK
  rw [fstN_none (fun j hj => h4 (j + 1) (by omega) (by omega))]
def S_line (P : Pce) (ds : List Deed) (tl : Int32) : Int32 × Int32 := if P.2.1 ≤ (evO P ds).1 then (-4, tl) else
  (if zI (lnF P (evO P ds).2.2.1 (evO P ds).1 (lnK P (evO P ds).1)) < 0 then 0 else zI (lnF P (evO P ds).2.2.1 (evO P ds).1 (lnK P (evO P ds).1)), nI (evO P ds).1 - nI (lastL P (evO P ds).1))
theorem S_line_k {P : Pce} {ds : List Deed} {tl : Int32} {k : Nat} (h : (evO P ds).1 < P.2.1) (hk : lnK P (evO P ds).1 = k) : S_line P ds tl = (if zI (lnF P (evO P ds).2.2.1 (evO P ds).1 k) < 0 then 0 else zI (lnF P (evO P ds).2.2.1 (evO P ds).1 k), nI (evO P ds).1 - nI (lastL P (evO P ds).1)) := by
  unfold S_line
  rw [if_neg (by omega), hk]
def dsN (x h : Nat) : Nat := if h < x then x - h else h - x
theorem dsN_le {x h : Nat} (hx : x ≤ 14) (hh : h ≤ 14) : dsN x h ≤ 14 := by unfold dsN; split <;> omega
theorem abs_d : ∀ x : Nat, x < 15 → ∀ h : Nat, h < 15 → (if 0 ≤ nI x - nI h then nI x - nI h else 0 - (nI x - nI h)) = nI (dsN x h) := by decide +kernel
def ltT (P : Pce) (h x : Nat) (a : Option (Nat × Nat)) : Option (Nat × Nat) := if isK (P.2.2.1 x) 3 then (match a with
  | none => some (cntK P 3 x, dsN x h)
  | some b => if dsN x h < b.2 then some (cntK P 3 x, dsN x h) else some b) else a
def ltF (P : Pce) (h x : Nat) : Option (Nat × Nat) := foldN (ltT P h) none x
theorem ltF_s (P : Pce) (h x : Nat) : ltF P h (x + 1) = ltT P h x (ltF P h x) := foldN_sg (ltT P h) none x
theorem cntK_s (P : Pce) (w x : Nat) : cntK P w (x + 1) = if isK (P.2.2.1 x) w then cntK P w x + 1 else cntK P w x := rfl
theorem cntK_m {P : Pce} {w x : Nat} : ∀ {y : Nat}, x ≤ y → cntK P w x ≤ cntK P w y
  | 0, h => by rw [show x = 0 by omega]; exact Nat.le_refl _
  | y + 1, h => by
    rcases Nat.lt_or_ge x (y + 1) with q | q
    · have := cntK_m (P := P) (w := w) (y := y) (show x ≤ y by omega)
      rw [cntK_s]
      split <;> omega
    · rw [show x = y + 1 by omega]; exact Nat.le_refl _
theorem ltF_c {P : Pce} {h x : Nat} : ∀ {y : Nat}, x ≤ y → cntK P 3 x = cntK P 3 y → ltF P h x = ltF P h y
  | 0, hx, _ => by rw [show x = 0 by omega]
  | y + 1, hx, he => by
    rcases Nat.lt_or_ge x (y + 1) with q | q
    · have m := cntK_m (P := P) (w := 3) (y := y) (show x ≤ y by omega)
      rw [cntK_s] at he
      cases hk : isK (P.2.2.1 y) 3 with
      | true => rw [hk] at he; exact absurd he (show ¬ cntK P 3 x = cntK P 3 y + 1 by omega)
      | false =>
        rw [hk] at he
        rw [ltF_c (y := y) (by omega) he, ltF_s]
        unfold ltT
        rw [hk]
        rfl
    · rw [show x = y + 1 by omega]
theorem ltF_c2 {P : Pce} {h x y : Nat} (he : cntK P 3 x = cntK P 3 y) : ltF P h x = ltF P h y := by
  rcases Nat.le_total x y with q | q
  · exact ltF_c q he
  · exact (ltF_c q he.symm).symm
theorem cntK_ex {P : Pce} {n : Nat} : ∀ {m : Nat}, n < cntK P 3 m → ∃ y, y < m ∧ isK (P.2.2.1 y) 3 = true ∧ cntK P 3 y = n
  | 0, h => absurd h (Nat.not_lt_zero n)
  | m + 1, h => by
    rcases Nat.lt_or_ge n (cntK P 3 m) with q | q
    · obtain ⟨y, h1, h2⟩ := cntK_ex q
      exact ⟨y, by omega, h2⟩
    · rw [cntK_s] at h
      cases hk : isK (P.2.2.1 m) 3 with
      | true => rw [hk] at h; exact ⟨m, by omega, hk, by have : n < cntK P 3 m + 1 := h; omega⟩
      | false => rw [hk] at h; exact absurd (show n < cntK P 3 m from h) (by omega)
theorem let_ex {P : Pce} {n : Nat} (h14 : P.2.1 ≤ 14) (h : n < cntK P 3 P.2.1) : ∃ y, letP P (nI n) = some y ∧ y < P.2.1 ∧ isK (P.2.2.1 y) 3 = true ∧ cntK P 3 y = n := by
  obtain ⟨y, h1, h2, h3⟩ := cntK_ex h
  have k1 : ∀ z, cntK P 3 z ≤ z := fun z => cntP_le _ z
  have k2 := k1 P.2.1
  cases hl : letP P (nI n) with
  | none =>
    have e : letB P (nI n) y = false := fstN_all hl y h1
    unfold letB at e
    rw [h2, h3, decide_eq_true rfl] at e
    cases e
  | some z =>
    obtain ⟨z1, z2⟩ := fstN_spec hl
    unfold letB at z2
    rw [Bool.and_eq_true] at z2
    have k3 := k1 z
    exact ⟨z, rfl, z1, z2.1, (nI_eq (by omega) (by omega)).mp (of_decide_eq_true z2.2)⟩
def ltA (o : Option (Nat × Nat)) : Int32 := match o with
  | none => -9
  | some b => nI b.1
def ltB (o : Option (Nat × Nat)) : Int32 := match o with
  | none => 15
  | some b => nI b.2
theorem lt_b {P : Pce} {h : Nat} (hh : h ≤ 14) : ∀ {x : Nat} {b : Nat × Nat}, x ≤ 15 → ltF P h x = some b → b.1 ≤ 14 ∧ b.2 ≤ 14
  | 0, b, _, q => by cases q
  | x + 1, b, hx, q => by
    have k1 : cntK P 3 x ≤ x := cntP_le _ x
    have k2 := dsN_le (show x ≤ 14 by omega) hh
    rw [ltF_s] at q
    unfold ltT at q
    split at q
    · cases hf : ltF P h x with
      | none => rw [hf] at q; cases q; exact ⟨by show cntK P 3 x ≤ 14; omega, k2⟩
      | some c =>
        rw [hf] at q
        dsimp only at q
        split at q
        · cases q; exact ⟨by show cntK P 3 x ≤ 14; omega, k2⟩
        · cases q; exact lt_b hh (by omega) hf
    · exact lt_b hh (by omega) q
theorem lt_yes {P : Pce} {h x : Nat} (hh : h ≤ 14) (hx : x ≤ 14) (hk : isK (P.2.2.1 x) 3 = true) (hl : nI (dsN x h) < ltB (ltF P h x)) : ltF P h (x + 1) = some (cntK P 3 x, dsN x h) := by
  have k2 := dsN_le hx hh
  rw [ltF_s]
  unfold ltT
  rw [if_pos hk]
  cases hf : ltF P h x with
  | none => rfl
  | some c =>
    have := lt_b hh (by omega) hf
    rw [hf] at hl
    exact if_pos ((nI_ltI (by omega) (by omega)).mp hl)
theorem lt_no {P : Pce} {h x : Nat} (hh : h ≤ 14) (hx : x ≤ 14) (hk : isK (P.2.2.1 x) 3 = true) (hl : ¬ nI (dsN x h) < ltB (ltF P h x)) : ltF P h (x + 1) = ltF P h x := by
  have k2 := dsN_le hx hh
  rw [ltF_s]
  unfold ltT
  rw [if_pos hk]
  cases hf : ltF P h x with
  | none => rw [hf] at hl; exact absurd (nI_lt (show dsN x h < 15 by omega) (by decide)) hl
  | some c =>
    have := lt_b hh (by omega) hf
    rw [hf] at hl
    exact if_neg (fun q => hl (nI_lt q (by omega)))
theorem lt_9 {P : Pce} {h x : Nat} (hh : h ≤ 14) (hx : x ≤ 14) : ltA (ltF P h x) = -9 ↔ ltF P h x = none := by
  constructor
  · intro q
    cases hf : ltF P h x with
    | none => rfl
    | some v =>
      have := lt_b hh (by omega) hf
      rw [hf] at q
      have e := congrArg Int32.toInt (show nI v.1 = -9 from q)
      rw [nI_toInt (by omega), show (-9 : Int32).toInt = -9 by decide] at e
      omega
  · intro q; rw [q]; rfl
def S_letter (P : Pce) (ds : List Deed) (tl : Int32) : Int32 × Int32 := if P.2.1 = 0 then (-4, tl) else match ltF P (evO P ds).1 P.2.1 with
  | none => (-9, tl)
  | some b => (nI b.1, nI b.2)
theorem pc_line {rw tx : Tab} {P : Pce} {ds : List Deed} {sh : Shf} {tl : Int32} {ch : Int64 × Int64} {fn : Fnd} (hA : AbsC rw tx P ds sh tl ch fn I J) (hO : StOK rw tx P ds sh) : Ct X (d + 4) 66 M_X10_line 66 [.ref 0] (I, J, rf0) (RI (fun y9 m => ∃ I', m = (I', J, rf0) ∧ FrC I I' ∧ y9 = (S_line P ds tl).1 ∧ AbsC rw tx P ds sh (S_line P ds tl).2 ch fn I' J)) := by
  have hP := hA.2.2.1
  have hQ := hO.2.2.1
  have h14 := hQ.2.1
  have h4 := hQ.1
  have hEv := hA.2.2.2.1
  have hD := hO.2.2.2.1
  have hE := hEv.2.2
  have hR : EvR (evO P ds) := EvR.e.run hQ hD.2
  have hr14 := hR.1
  show Go _ _ _ _ _ _ [_, _, _, _] _ _ _
  refine g_aload_n dX10_line_0 rfl ?_
  refine t_getR dX10_line_1 fl_X10_44 rfl (by decide) rfl (by decide) rfl ?_
  refine g_callVi dX10_line_4 ln_X10_187 ⟨_, rfl⟩ rfl (by decide) ⟨_, _, rfl⟩ rfl (Nat.le_of_ble_eq_true rfl) (Nat.le_of_ble_eq_true rfl) (ct_isOver hP hQ hE hR) rfl (fun r4 m4 h4 => ?_)
  obtain ⟨rfl, rfl⟩ := h4
  refine g_if_eq (tgt := 13) dX10_line_7 (by decide) (fun c7 => ?_) (fun c7 => ?_)
  · skip
    have hlt : (evO P ds).1 < P.2.1 := by have := of_decide_eq_false (bI_eq c7); omega
    refine g_aload_n dX10_line_13 rfl ?_
    refine t_getR dX10_line_14 fl_X10_44 rfl (by decide) rfl (by decide) rfl ?_
    refine t_getI dX10_line_17 fl_X10_194 rfl (by decide) rfl (by decide) ?_
    rw [hE.1]
    refine g_istore_n dX10_line_20 (by decide) ?_
    show Go _ _ _ _ _ _ [_, _, _, _] _ _ _
    refine g_iconst (v := 0) dX10_line_21 (by decide) ?_
    refine g_istore_n dX10_line_22 (by decide) ?_
    show Go _ _ _ _ _ _ [_, _, _, _] _ _ _
    refine g_iload_n dX10_line_23 rfl ?_
    refine g_istore_n dX10_line_24 (by decide) ?_
    show Go _ _ _ _ _ _ [_, _, _, _] _ _ _
    refine go_ix (P.2.1 - (evO P ds).1) (fun i => (∀ j, 1 ≤ j → j < i → isK (P.2.2.1 ((evO P ds).1 + j)) 3 = false) → Go X (d + 4) 66 M_X10_line 66 25 [.ref 0, .int (nI (evO P ds).1), .int (zI (lnF P (evO P ds).2.2.1 (evO P ds).1 (i))), .int (nI ((evO P ds).1 + i))] [] (I, J, rf0) (RI (fun y9 m => ∃ I', m = (I', J, rf0) ∧ FrC I I' ∧ y9 = (S_line P ds tl).1 ∧ AbsC rw tx P ds sh (S_line P ds tl).2 ch fn I' J))) (fun i hi kk hn => ?_) (fun hn => ?_) (fun j a b => by omega)
    · skip
      refine g_iload_n dX10_line_25 rfl ?_
      refine g_aload_n dX10_line_26 rfl ?_
      refine t_getR dX10_line_27 fl_X10_35 rfl (by decide) rfl (by decide) rfl ?_
      refine t_getI dX10_line_30 fl_X10_165 rfl (by decide) rfl (by decide) ?_
      rw [hP.2.1]
      refine g_icmp_ge (tgt := 94) dX10_line_33 (by decide) (fun c33 => ?_) (fun c33 => ?_)
      · exact absurd (nI_lt (show (evO P ds).1 + i < P.2.1 by omega) (by omega)) (Int32.not_lt.mpr c33)
      · skip
        refine g_iload_n dX10_line_36 rfl ?_
        refine g_iload_n dX10_line_37 rfl ?_
        refine g_icmp_eq (tgt := 53) dX10_line_38 (by decide) (fun c38 => ?_) (fun c38 => ?_)
        · skip
          refine g_iload_n dX10_line_53 rfl ?_
          refine g_aload_n dX10_line_54 rfl ?_
          refine t_getR dX10_line_55 fl_X10_35 rfl (by decide) rfl (by decide) rfl ?_
          refine g_iload_n dX10_line_58 rfl ?_
          refine g_aload_n dX10_line_59 rfl ?_
          refine t_getR dX10_line_60 fl_X10_44 rfl (by decide) rfl (by decide) rfl ?_
          refine t_getR dX10_line_63 fl_X10_221 rfl (by decide) rfl (by decide) rfl ?_
          refine g_callVi dX10_line_66 ln_X10_224 ⟨_, rfl⟩ rfl (by decide) ⟨_, _, rfl⟩ rfl (Nat.le_of_ble_eq_true rfl) (Nat.le_of_ble_eq_true rfl) (ct_heardOn (x := (evO P ds).1 + i) hP hQ (by omega) hR.2.2.1 (OA.of hE.2.2.1 rfl (by decide))) rfl (fun r66 m66 h66 => ?_)
          obtain ⟨rfl, rfl⟩ := h66
          refine g_callSi dX10_line_69 ln_X10_310 ⟨_, rfl⟩ rfl (Nat.le_of_ble_eq_true rfl) (Nat.le_of_ble_eq_true rfl) (ct_bitCount (hrS_lt hQ _ _)) rfl (fun r69 m69 h69 => ?_)
          obtain ⟨rfl, rfl⟩ := h69
          refine g_iadd dX10_line_72 ?_
          refine g_istore_n dX10_line_73 (by decide) ?_
          show Go _ _ _ _ _ _ [_, _, _, _] _ _ _
          refine g_iload_n dX10_line_74 rfl ?_
          refine g_aload_n dX10_line_75 rfl ?_
          refine t_getR dX10_line_76 fl_X10_35 rfl (by decide) rfl (by decide) rfl ?_
          refine g_iload_n dX10_line_79 rfl ?_
          refine g_callVi dX10_line_80 ln_X10_290 ⟨_, rfl⟩ rfl (by decide) ⟨_, _, rfl⟩ rfl (Nat.le_of_ble_eq_true rfl) (Nat.le_of_ble_eq_true rfl) (ct_heardPlainly (x := (evO P ds).1 + i) hP hQ (by omega)) rfl (fun r80 m80 h80 => ?_)
          obtain ⟨rfl, rfl⟩ := h80
          refine g_callSi dX10_line_83 ln_X10_310 ⟨_, rfl⟩ rfl (Nat.le_of_ble_eq_true rfl) (Nat.le_of_ble_eq_true rfl) (ct_bitCount (hrS_lt hQ _ _)) rfl (fun r83 m83 h83 => ?_)
          obtain ⟨rfl, rfl⟩ := h83
          refine g_isub dX10_line_86 ?_
          refine g_istore_n dX10_line_87 (by decide) ?_
          show Go _ _ _ _ _ _ [_, _, _, _] _ _ _
          refine g_iinc dX10_line_88 rfl (by decide) ?_
          show Go _ _ _ _ _ _ [_, _, _, _] _ _ _
          refine g_goto (tgt := 25) dX10_line_91 (by decide) ?_
          rw [nI_inc, nI_z (popN (hrS P (evO P ds).2.2.1 _)), nI_z (popN (hrS P (fun _ => 0) _)), z_add, z_sub]
          exact kk (fun j a b => by
            rcases Nat.lt_or_ge j i with q | q
            · exact hn j a q
            · rw [show j = i by omega]
              first
                | exact bI_eq c50
                | exact absurd ((nI_eq (by omega) (by omega)).mp c38) (by omega))
        · skip
          refine g_aload_n dX10_line_41 rfl ?_
          refine t_getR dX10_line_42 fl_X10_35 rfl (by decide) rfl (by decide) rfl ?_
          refine g_iload_n dX10_line_45 rfl ?_
          refine g_iconst (v := 3) dX10_line_46 (by decide) ?_
          refine g_callVi dX10_line_47 ln_X10_180 ⟨_, rfl⟩ rfl (by decide) ⟨_, _, rfl⟩ rfl (Nat.le_of_ble_eq_true rfl) (Nat.le_of_ble_eq_true rfl) (ct_isOf (x := (evO P ds).1 + i) (w := 3) hP hQ (by omega) (by decide)) rfl (fun r47 m47 h47 => ?_)
          obtain ⟨rfl, rfl⟩ := h47
          refine g_if_ne (tgt := 94) dX10_line_50 (by decide) (fun c50 => ?_) (fun c50 => ?_)
          · skip
            refine g_aload_n dX10_line_94 rfl ?_
            refine g_iload_n dX10_line_95 rfl ?_
            refine g_aload_n dX10_line_96 rfl ?_
            refine t_getR dX10_line_97 fl_X10_35 rfl (by decide) rfl (by decide) rfl ?_
            refine g_iload_n dX10_line_100 rfl ?_
            refine g_callVi dX10_line_101 ln_X10_315 ⟨_, rfl⟩ rfl (by decide) ⟨_, _, rfl⟩ rfl (Nat.le_of_ble_eq_true rfl) (Nat.le_of_ble_eq_true rfl) (ct_lastLetterTill (x := (evO P ds).1) hP hQ (by omega)) rfl (fun r101 m101 h101 => ?_)
            obtain ⟨rfl, rfl⟩ := h101
            refine g_isub dX10_line_104 ?_
            refine t_putI dX10_line_105 fl_X10_111 rfl (by decide) rfl (by decide) ?_
            refine g_iload_n dX10_line_108 rfl ?_
            refine g_iconst (v := 0) dX10_line_109 (by decide) ?_
            refine g_mmax dX10_line_110 mm_X10_318 (Nat.le_of_ble_eq_true rfl) ?_
            refine g_iret dX10_line_113 (fun ty h => by cases h; rfl) ?_
            first
              | (have hS := S_line_k (tl := tl) hlt (lnK_at (show 1 ≤ i from Nat.one_le_iff_ne_zero.mpr (fun q => c38 (by rw [q]; rfl))) hi (bI_ne c50) hn)
                 exact ⟨_, rfl, FrC.rf.up (by decide), by rw [hS], by rw [hS]; exact hA.told⟩)
              | (have hS := S_line_k (tl := tl) hlt (lnK_end hn)
                 exact ⟨_, rfl, FrC.rf.up (by decide), by rw [hS], by rw [hS]; exact hA.told⟩)
              | fail "no way"
          · skip
            refine g_iload_n dX10_line_53 rfl ?_
            refine g_aload_n dX10_line_54 rfl ?_
            refine t_getR dX10_line_55 fl_X10_35 rfl (by decide) rfl (by decide) rfl ?_
            refine g_iload_n dX10_line_58 rfl ?_
            refine g_aload_n dX10_line_59 rfl ?_
            refine t_getR dX10_line_60 fl_X10_44 rfl (by decide) rfl (by decide) rfl ?_
            refine t_getR dX10_line_63 fl_X10_221 rfl (by decide) rfl (by decide) rfl ?_
            refine g_callVi dX10_line_66 ln_X10_224 ⟨_, rfl⟩ rfl (by decide) ⟨_, _, rfl⟩ rfl (Nat.le_of_ble_eq_true rfl) (Nat.le_of_ble_eq_true rfl) (ct_heardOn (x := (evO P ds).1 + i) hP hQ (by omega) hR.2.2.1 (OA.of hE.2.2.1 rfl (by decide))) rfl (fun r66 m66 h66 => ?_)
            obtain ⟨rfl, rfl⟩ := h66
            refine g_callSi dX10_line_69 ln_X10_310 ⟨_, rfl⟩ rfl (Nat.le_of_ble_eq_true rfl) (Nat.le_of_ble_eq_true rfl) (ct_bitCount (hrS_lt hQ _ _)) rfl (fun r69 m69 h69 => ?_)
            obtain ⟨rfl, rfl⟩ := h69
            refine g_iadd dX10_line_72 ?_
            refine g_istore_n dX10_line_73 (by decide) ?_
            show Go _ _ _ _ _ _ [_, _, _, _] _ _ _
            refine g_iload_n dX10_line_74 rfl ?_
            refine g_aload_n dX10_line_75 rfl ?_
            refine t_getR dX10_line_76 fl_X10_35 rfl (by decide) rfl (by decide) rfl ?_
            refine g_iload_n dX10_line_79 rfl ?_
            refine g_callVi dX10_line_80 ln_X10_290 ⟨_, rfl⟩ rfl (by decide) ⟨_, _, rfl⟩ rfl (Nat.le_of_ble_eq_true rfl) (Nat.le_of_ble_eq_true rfl) (ct_heardPlainly (x := (evO P ds).1 + i) hP hQ (by omega)) rfl (fun r80 m80 h80 => ?_)
            obtain ⟨rfl, rfl⟩ := h80
            refine g_callSi dX10_line_83 ln_X10_310 ⟨_, rfl⟩ rfl (Nat.le_of_ble_eq_true rfl) (Nat.le_of_ble_eq_true rfl) (ct_bitCount (hrS_lt hQ _ _)) rfl (fun r83 m83 h83 => ?_)
            obtain ⟨rfl, rfl⟩ := h83
            refine g_isub dX10_line_86 ?_
            refine g_istore_n dX10_line_87 (by decide) ?_
            show Go _ _ _ _ _ _ [_, _, _, _] _ _ _
            refine g_iinc dX10_line_88 rfl (by decide) ?_
            show Go _ _ _ _ _ _ [_, _, _, _] _ _ _
            refine g_goto (tgt := 25) dX10_line_91 (by decide) ?_
            rw [nI_inc, nI_z (popN (hrS P (evO P ds).2.2.1 _)), nI_z (popN (hrS P (fun _ => 0) _)), z_add, z_sub]
            exact kk (fun j a b => by
              rcases Nat.lt_or_ge j i with q | q
              · exact hn j a q
              · rw [show j = i by omega]
                first
                  | exact bI_eq c50
                  | exact absurd ((nI_eq (by omega) (by omega)).mp c38) (by omega))
    · skip
      refine g_iload_n dX10_line_25 rfl ?_
      refine g_aload_n dX10_line_26 rfl ?_
      refine t_getR dX10_line_27 fl_X10_35 rfl (by decide) rfl (by decide) rfl ?_
      refine t_getI dX10_line_30 fl_X10_165 rfl (by decide) rfl (by decide) ?_
      rw [hP.2.1]
      refine g_icmp_ge (tgt := 94) dX10_line_33 (by decide) (fun c33 => ?_) (fun c33 => ?_)
      · skip
        refine g_aload_n dX10_line_94 rfl ?_
        refine g_iload_n dX10_line_95 rfl ?_
        refine g_aload_n dX10_line_96 rfl ?_
        refine t_getR dX10_line_97 fl_X10_35 rfl (by decide) rfl (by decide) rfl ?_
        refine g_iload_n dX10_line_100 rfl ?_
        refine g_callVi dX10_line_101 ln_X10_315 ⟨_, rfl⟩ rfl (by decide) ⟨_, _, rfl⟩ rfl (Nat.le_of_ble_eq_true rfl) (Nat.le_of_ble_eq_true rfl) (ct_lastLetterTill (x := (evO P ds).1) hP hQ (by omega)) rfl (fun r101 m101 h101 => ?_)
        obtain ⟨rfl, rfl⟩ := h101
        refine g_isub dX10_line_104 ?_
        refine t_putI dX10_line_105 fl_X10_111 rfl (by decide) rfl (by decide) ?_
        refine g_iload_n dX10_line_108 rfl ?_
        refine g_iconst (v := 0) dX10_line_109 (by decide) ?_
        refine g_mmax dX10_line_110 mm_X10_318 (Nat.le_of_ble_eq_true rfl) ?_
        refine g_iret dX10_line_113 (fun ty h => by cases h; rfl) ?_
        first
          | (have hS := S_line_k (tl := tl) hlt (lnK_at (show 1 ≤ i from Nat.one_le_iff_ne_zero.mpr (fun q => c38 (by rw [q]; rfl))) hi (bI_ne c50) hn)
             exact ⟨_, rfl, FrC.rf.up (by decide), by rw [hS], by rw [hS]; exact hA.told⟩)
          | (have hS := S_line_k (tl := tl) hlt (lnK_end hn)
             exact ⟨_, rfl, FrC.rf.up (by decide), by rw [hS], by rw [hS]; exact hA.told⟩)
          | fail "no way"
      · exact absurd (nI_le (show P.2.1 ≤ (evO P ds).1 + (P.2.1 - (evO P ds).1) by omega) (by omega)) c33
  · skip
    refine g_bipush (v := -4) dX10_line_10 (by decide) ?_
    refine g_iret dX10_line_12 (fun ty h => by cases h; rfl) ?_
    have hS : S_line P ds tl = (-4, tl) := by unfold S_line; rw [if_pos (of_decide_eq_true (bI_ne c7))]
    exact ⟨_, rfl, FrC.rf, by rw [hS], by rw [hS]; exact hA⟩
theorem pc_letter {rw tx : Tab} {P : Pce} {ds : List Deed} {sh : Shf} {tl : Int32} {ch : Int64 × Int64} {fn : Fnd} (hA : AbsC rw tx P ds sh tl ch fn I J) (hO : StOK rw tx P ds sh) : Ct X (d + 4) 66 M_X10_letter 66 [.ref 0] (I, J, rf0) (RI (fun y9 m => ∃ I', m = (I', J, rf0) ∧ FrC I I' ∧ y9 = (S_letter P ds tl).1 ∧ AbsC rw tx P ds sh (S_letter P ds tl).2 ch fn I' J)) := by
  have hP := hA.2.2.1
  have hQ := hO.2.2.1
  have h14 := hQ.2.1
  have h4 := hQ.1
  have hEv := hA.2.2.2.1
  have hD := hO.2.2.2.1
  have hE := hEv.2.2
  have hR : EvR (evO P ds) := EvR.e.run hQ hD.2
  have hr14 := hR.1
  show Go _ _ _ _ _ _ [_, _, _, _, _, _] _ _ _
  refine g_aload_n dX10_letter_0 rfl ?_
  refine t_getR dX10_letter_1 fl_X10_35 rfl (by decide) rfl (by decide) rfl ?_
  refine g_callVi dX10_letter_4 ln_X10_215 ⟨_, rfl⟩ rfl (by decide) ⟨_, _, rfl⟩ rfl (Nat.le_of_ble_eq_true rfl) (Nat.le_of_ble_eq_true rfl) (ct_isEmpty hP hQ) rfl (fun r4 m4 h4 => ?_)
  obtain ⟨rfl, rfl⟩ := h4
  refine g_if_eq (tgt := 13) dX10_letter_7 (by decide) (fun c7 => ?_) (fun c7 => ?_)
  · skip
    refine g_bipush (v := -9) dX10_letter_13 (by decide) ?_
    refine g_istore_n dX10_letter_15 (by decide) ?_
    show Go _ _ _ _ _ _ [_, _, _, _, _, _] _ _ _
    refine g_bipush (v := 15) dX10_letter_16 (by decide) ?_
    refine g_istore_n dX10_letter_18 (by decide) ?_
    show Go _ _ _ _ _ _ [_, _, _, _, _, _] _ _ _
    refine g_aload_n dX10_letter_19 rfl ?_
    refine t_getR dX10_letter_20 fl_X10_35 rfl (by decide) rfl (by decide) rfl ?_
    refine g_iconst (v := 3) dX10_letter_23 (by decide) ?_
    refine g_callVi dX10_letter_24 ln_X10_323 ⟨_, rfl⟩ rfl (by decide) ⟨_, _, rfl⟩ rfl (Nat.le_of_ble_eq_true rfl) (Nat.le_of_ble_eq_true rfl) (ct_countOf (w := 3) hP hQ (by decide)) rfl (fun r24 m24 h24 => ?_)
    obtain ⟨rfl, rfl⟩ := h24
    refine g_istore_n dX10_letter_27 (by decide) ?_
    show Go _ _ _ _ _ _ [_, _, _, _, _, _] _ _ _
    refine g_iconst (v := 0) dX10_letter_28 (by decide) ?_
    refine g_istore dX10_letter_29 (by decide) ?_
    show Go _ _ _ _ _ _ [_, _, _, _, _, _] _ _ _
    have hcl : cntK P 3 P.2.1 ≤ P.2.1 := cntP_le _ _
    refine go_ix (cntK P 3 P.2.1) (fun n => ∀ x, x ≤ P.2.1 → cntK P 3 x = n → Go X (d + 4) 66 M_X10_letter 66 31 [.ref 0, .int (ltA (ltF P (evO P ds).1 x)), .int (ltB (ltF P (evO P ds).1 x)), .int (nI (cntK P 3 P.2.1)), .int (nI n), .null] [] (I, J, rf0) (RI (fun y9 m => ∃ I', m = (I', J, rf0) ∧ FrC I I' ∧ y9 = (S_letter P ds tl).1 ∧ AbsC rw tx P ds sh (S_letter P ds tl).2 ch fn I' J))) (fun n hn kk x hx hxn => ?_) (fun x hx hxn => ?_) 0 (Nat.zero_le _) rfl
    · obtain ⟨y, hy, hy1, hy2, hy3⟩ := let_ex h14 hn
      rw [ltF_c2 (x := x) (y := y) (hxn.trans hy3.symm)]
      refine g_iload dX10_letter_31 rfl ?_
      refine g_iload_n dX10_letter_33 rfl ?_
      refine g_icmp_ge (tgt := 77) dX10_letter_34 (by decide) (fun c34 => ?_) (fun c34 => ?_)
      · exact absurd (nI_lt hn (by omega)) (Int32.not_lt.mpr c34)
      · skip
        refine g_aload_n dX10_letter_37 rfl ?_
        refine t_getR dX10_letter_38 fl_X10_35 rfl (by decide) rfl (by decide) rfl ?_
        refine g_iload dX10_letter_41 rfl ?_
        refine g_callVi dX10_letter_43 ln_X10_209 ⟨_, rfl⟩ rfl (by decide) ⟨_, _, rfl⟩ rfl (Nat.le_of_ble_eq_true rfl) (Nat.le_of_ble_eq_true rfl) (ct_placeOfLetter (l := nI n) hP hQ) rfl (fun r43 m43 h43 => ?_)
        obtain ⟨rfl, rfl⟩ := h43
        rw [hy, show oI (some y) = nI y from rfl]
        refine g_aload_n dX10_letter_46 rfl ?_
        refine t_getR dX10_letter_47 fl_X10_44 rfl (by decide) rfl (by decide) rfl ?_
        refine t_getI dX10_letter_50 fl_X10_194 rfl (by decide) rfl (by decide) ?_
        rw [hE.1]
        refine g_isub dX10_letter_53 ?_
        refine g_mabs dX10_letter_54 mm_X10_326 (Nat.le_of_ble_eq_true rfl) ?_
        rw [abs_d y (by omega) (evO P ds).1 (by omega)]
        refine g_istore dX10_letter_57 (by decide) ?_
        show Go _ _ _ _ _ _ [_, _, _, _, _, _] _ _ _
        refine g_iload dX10_letter_59 rfl ?_
        refine g_iload_n dX10_letter_61 rfl ?_
        refine g_icmp_ge (tgt := 71) dX10_letter_62 (by decide) (fun c62 => ?_) (fun c62 => ?_)
        · skip
          refine g_iinc dX10_letter_71 rfl (by decide) ?_
          show Go _ _ _ _ _ _ [_, _, _, _, _, _] _ _ _
          refine g_goto (tgt := 31) dX10_letter_74 (by decide) ?_
          refine g_forget 5 ?_
          show Go _ _ _ _ _ _ [_, _, _, _, _, _] _ _ _
          rw [nI_inc]
          have kk2 := kk (y + 1) (by omega) (by rw [cntK_s, if_pos hy2, hy3])
          first
            | (rw [lt_yes hr14 (by omega) hy2 (Int32.not_le.mp c62), hy3] at kk2
               exact kk2)
            | (rw [lt_no hr14 (by omega) hy2 (Int32.not_lt.mpr c62)] at kk2
               exact kk2)
            | fail "no way"
        · skip
          refine g_iload dX10_letter_65 rfl ?_
          refine g_istore_n dX10_letter_67 (by decide) ?_
          show Go _ _ _ _ _ _ [_, _, _, _, _, _] _ _ _
          refine g_iload dX10_letter_68 rfl ?_
          refine g_istore_n dX10_letter_70 (by decide) ?_
          show Go _ _ _ _ _ _ [_, _, _, _, _, _] _ _ _
          refine g_iinc dX10_letter_71 rfl (by decide) ?_
          show Go _ _ _ _ _ _ [_, _, _, _, _, _] _ _ _
          refine g_goto (tgt := 31) dX10_letter_74 (by decide) ?_
          refine g_forget 5 ?_
          show Go _ _ _ _ _ _ [_, _, _, _, _, _] _ _ _
          rw [nI_inc]
          have kk2 := kk (y + 1) (by omega) (by rw [cntK_s, if_pos hy2, hy3])
          first
            | (rw [lt_yes hr14 (by omega) hy2 (Int32.not_le.mp c62), hy3] at kk2
               exact kk2)
            | (rw [lt_no hr14 (by omega) hy2 (Int32.not_lt.mpr c62)] at kk2
               exact kk2)
            | fail "no way"
    · rw [ltF_c2 (x := x) (y := P.2.1) hxn]
      refine g_iload dX10_letter_31 rfl ?_
      refine g_iload_n dX10_letter_33 rfl ?_
      refine g_icmp_ge (tgt := 77) dX10_letter_34 (by decide) (fun c34 => ?_) (fun c34 => ?_)
      · skip
        refine g_iload_n dX10_letter_77 rfl ?_
        refine g_bipush (v := -9) dX10_letter_78 (by decide) ?_
        refine g_icmp_ne (tgt := 86) dX10_letter_80 (by decide) (fun c80 => ?_) (fun c80 => ?_)
        · skip
          refine g_aload_n dX10_letter_86 rfl ?_
          refine g_iload_n dX10_letter_87 rfl ?_
          refine t_putI dX10_letter_88 fl_X10_111 rfl (by decide) rfl (by decide) ?_
          refine g_iload_n dX10_letter_91 rfl ?_
          refine g_iret dX10_letter_92 (fun ty h => by cases h; rfl) ?_
          cases hw : ltF P (evO P ds).1 P.2.1 with
          | none => exact absurd ((lt_9 hr14 h14).mpr hw) c80
          | some b =>
            have hS : S_letter P ds tl = (nI b.1, nI b.2) := by unfold S_letter; rw [if_neg (of_decide_eq_false (bI_eq c7)), hw]
            exact ⟨_, rfl, FrC.rf.up (by decide), by rw [hS]; rfl, by rw [hS]; exact hA.told⟩
        · skip
          refine g_bipush (v := -9) dX10_letter_83 (by decide) ?_
          refine g_iret dX10_letter_85 (fun ty h => by cases h; rfl) ?_
          have hS : S_letter P ds tl = (-9, tl) := by unfold S_letter; rw [if_neg (of_decide_eq_false (bI_eq c7)), (lt_9 hr14 h14).mp c80]
          exact ⟨_, rfl, FrC.rf, by rw [hS], by rw [hS]; exact hA⟩
      · exact absurd (Int32.le_refl _) c34
  · skip
    refine g_bipush (v := -4) dX10_letter_10 (by decide) ?_
    refine g_iret dX10_letter_12 (fun ty h => by cases h; rfl) ?_
    have hS : S_letter P ds tl = (-4, tl) := by unfold S_letter; rw [if_pos (of_decide_eq_true (bI_ne c7))]
    exact ⟨_, rfl, FrC.rf, by rw [hS], by rw [hS]; exact hA⟩
end
