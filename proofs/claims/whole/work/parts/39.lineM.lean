section
variable {X : Nat × (Nat → Int32)} {d : Nat} {I : Nat → Nat → Int32} {J : Nat → Nat → Int64}
/-! ===== promises 40, 41, model side ===== -/
theorem go_dn (G : Nat → Prop) (hs : ∀ y, G y → G (y + 1)) (h0 : G 0) : ∀ y, G y
  | 0 => h0
  | y + 1 => hs y (go_dn G hs h0 y)
theorem isK3 {k : Nat} (hk : k < 6) : isK k 3 = true ↔ nI k = 3 := by
  rw [isK_iff hk (by decide), show (3 : Int32) = nI 3 from rfl, nI_eq (by omega) (by decide)]
  omega
theorem isK4 {k : Nat} (hk : k < 6) : isK k 4 = true ↔ nI k = 4 := by
  rw [isK_iff hk (by decide), show (4 : Int32) = nI 4 from rfl, nI_eq (by omega) (by decide)]
  omega
theorem isK3f {k : Nat} (hk : k < 6) (h : ¬ nI k = 3) : isK k 3 = false := isK_no (fun q => h ((isK3 hk).mp q))
theorem ds_1 : ∀ x : Nat, x < 15 → ∀ h : Nat, h < 15 → h < x → nI x - nI h = nI (dsN x h) := by decide +kernel
theorem ds_2 : ∀ x : Nat, x < 15 → ∀ h : Nat, h < 15 → x ≤ h → nI h - nI x = nI (dsN x h) := by decide +kernel
def ltD (o : Option (Nat × Nat)) : Int32 := match o with
  | none => 99
  | some b => nI b.2
theorem lt_yesM {P : Pce} {h x : Nat} (hh : h ≤ 14) (hx : x ≤ 14) (hk : isK (P.2.2.1 x) 3 = true) (hl : nI (dsN x h) < ltD (ltF P h x)) : ltF P h (x + 1) = some (cntK P 3 x, dsN x h) := by
  have k2 := dsN_le hx hh
  rw [ltF_s]
  unfold ltT
  rw [if_pos hk]
  cases hf : ltF P h x with
  | none => rfl
  | some c =>
    have := lt_b hh (by omega) hf
    rw [hf] at hl
    exact if_pos ((nI_ltI (by omega) (by omega)).mp hl)
theorem lt_noM {P : Pce} {h x : Nat} (hh : h ≤ 14) (hx : x ≤ 14) (hk : isK (P.2.2.1 x) 3 = true) (hl : ¬ nI (dsN x h) < ltD (ltF P h x)) : ltF P h (x + 1) = ltF P h x := by
  have k2 := dsN_le hx hh
  rw [ltF_s]
  unfold ltT
  rw [if_pos hk]
  cases hf : ltF P h x with
  | none => rw [hf] at hl; exact absurd (nI_lt (show dsN x h < 99 by omega) (by decide)) hl
  | some c =>
    have := lt_b hh (by omega) hf
    rw [hf] at hl
    exact if_neg (fun q => hl (nI_lt q (by omega)))
theorem lt_skip {P : Pce} {h x : Nat} (hk : isK (P.2.2.1 x) 3 = false) : ltF P h (x + 1) = ltF P h x := by
  rw [ltF_s]
  unfold ltT
  rw [hk]
  rfl
theorem pm_line {rw tx : Tab} {P : Pce} {ds : List Deed} {sh : Shf} {tl : Int32} {ch : Int64 × Int64} {fn : Fnd} (hA : AbsM rw tx P ds sh tl ch fn I J) (hO : StOK rw tx P ds sh) : Ct X (d + 6) 66 M_X11_line 66 [.ref 48] (I, J, rf0) (RI (fun y9 m => ∃ I', m = (I', J, rf0) ∧ FrM I I' ∧ y9 = (S_line P ds tl).1 ∧ AbsM rw tx P ds sh (S_line P ds tl).2 ch fn I' J)) := by
  have hP := hA.2.2.1
  have hQ := hO.2.2.1
  have h14 := hQ.2.1
  have h4 := hQ.1
  have hEv := hA.2.2.2.1
  have hD := hO.2.2.2.1
  have hE := hEv.2.2
  have hR : EvR (evO P ds) := EvR.e.run hQ hD.2
  have hr14 := hR.1
  have hkd := hQ.2.2.2.1
  show Go _ _ _ _ _ _ [_, _, _, _] _ _ _
  refine g_aload_n dX11_line_0 rfl ?_
  refine t_getI dX11_line_1 fl_X11_176 rfl (by decide) rfl (by decide) ?_
  rw [hE.1]
  refine g_aload_n dX11_line_4 rfl ?_
  refine t_getI dX11_line_5 fl_X11_119 rfl (by decide) rfl (by decide) ?_
  rw [hP.2.1]
  refine g_icmp_lt (tgt := 14) dX11_line_8 (by decide) (fun c8 => ?_) (fun c8 => ?_)
  · skip
    have hlt : (evO P ds).1 < P.2.1 := by
      rcases Nat.lt_or_ge (evO P ds).1 P.2.1 with q | q
      · exact q
      · exact absurd c8 (Int32.not_lt.mpr (nI_le q (by omega)))
    refine g_iconst (v := 0) dX11_line_14 (by decide) ?_
    refine g_istore_n dX11_line_15 (by decide) ?_
    show Go _ _ _ _ _ _ [_, _, _, _] _ _ _
    refine g_aload_n dX11_line_16 rfl ?_
    refine t_getI dX11_line_17 fl_X11_176 rfl (by decide) rfl (by decide) ?_
    rw [hE.1]
    refine g_istore_n dX11_line_20 (by decide) ?_
    show Go _ _ _ _ _ _ [_, _, _, _] _ _ _
    refine go_mem (fun i I2 => Fr [63] I I2 ∧ ∀ j, 1 ≤ j → j < i → isK (P.2.2.1 ((evO P ds).1 + j)) 3 = false) (P.2.1 - (evO P ds).1) (fun i I2 => Go X (d + 6) 66 M_X11_line 66 21 [.ref 48, .int (zI (lnF P (evO P ds).2.2.1 (evO P ds).1 (i))), .int (nI ((evO P ds).1 + i)), .null] [] (I2, J, rf0) (RI (fun y9 m => ∃ I', m = (I', J, rf0) ∧ FrM I I' ∧ y9 = (S_line P ds tl).1 ∧ AbsM rw tx P ds sh (S_line P ds tl).2 ch fn I' J))) (fun i I2 hi h9b kk => ?_) (fun I2 h9b => ?_) _ ⟨Fr.rf, fun j a b => by omega⟩
    · obtain ⟨h9, hn⟩ := h9b
      refine g_iload_n dX11_line_21 rfl ?_
      refine g_aload_n dX11_line_22 rfl ?_
      refine t_getI dX11_line_23 fl_X11_119 rfl (by decide) rfl (by decide) ?_
      rw [h9 48 (by decide), hP.2.1]
      refine g_icmp_ge (tgt := 79) dX11_line_26 (by decide) (fun c26 => ?_) (fun c26 => ?_)
      · exact absurd (nI_lt (show (evO P ds).1 + i < P.2.1 by omega) (by omega)) (Int32.not_lt.mpr c26)
      · skip
        refine g_iload_n dX11_line_29 rfl ?_
        refine g_aload_n dX11_line_30 rfl ?_
        refine t_getI dX11_line_31 fl_X11_176 rfl (by decide) rfl (by decide) ?_
        rw [h9 48 (by decide), hE.1]
        refine g_icmp_eq (tgt := 47) dX11_line_34 (by decide) (fun c34 => ?_) (fun c34 => ?_)
        · skip
          refine g_iload_n dX11_line_47 rfl ?_
          refine g_aload_n dX11_line_48 rfl ?_
          refine g_iload_n dX11_line_49 rfl ?_
          refine g_callVi dX11_line_50 ln_X11_146 ⟨_, rfl⟩ rfl (by decide) ⟨_, _, rfl⟩ rfl (Nat.le_of_ble_eq_true rfl) (Nat.le_of_ble_eq_true rfl) (ct_plain (x := (evO P ds).1 + i) (hP.scr h9) hQ (by omega)) rfl (fun r50 m50 h50 => ?_)
          obtain ⟨rfl, g, rfl, -⟩ := h50
          refine g_callSi dX11_line_53 ln_X11_173 ⟨_, rfl⟩ rfl (Nat.le_of_ble_eq_true rfl) (Nat.le_of_ble_eq_true rfl) (ct_bits (by have := hrS_lt hQ (fun _ => 0) ((evO P ds).1 + i); omega)) rfl (fun r53 m53 h53 => ?_)
          obtain ⟨rfl, rfl⟩ := h53
          refine g_isub dX11_line_56 ?_
          refine g_istore_n dX11_line_57 (by decide) ?_
          show Go _ _ _ _ _ _ [_, _, _, _] _ _ _
          refine g_aload_n dX11_line_58 rfl ?_
          refine g_callVv dX11_line_59 ln_X11_189 rfl rfl (by decide) ⟨_, _, rfl⟩ rfl (Nat.le_of_ble_eq_true rfl) (Nat.le_of_ble_eq_true rfl) ct_asOut rfl (fun m59 h59 => ?_)
          obtain ⟨g2, rfl, hg2⟩ := h59
          rw [up_up]
          have h95 : Fr [63] I (upR I2 63 g2) := h9.up (by decide)
          have ho5 : OuV 63 (evO P ds).2.2.1 (upR I2 63 g2) := fun p hp => by rw [upR_s, hg2 p hp, upR_n (by decide), h9 60 (by decide)]; exact hE.2.2.2.1 p hp
          refine g_iload_n dX11_line_62 rfl ?_
          refine g_aload_n dX11_line_63 rfl ?_
          refine g_iload_n dX11_line_64 rfl ?_
          refine g_callVi dX11_line_65 ln_X11_143 ⟨_, rfl⟩ rfl (by decide) ⟨_, _, rfl⟩ rfl (Nat.le_of_ble_eq_true rfl) (Nat.le_of_ble_eq_true rfl) (ct_hears (x := (evO P ds).1 + i) (o := (evO P ds).2.2.1) (hP.scr h95) hQ (by omega) hR.2.2.1 ho5) rfl (fun r65 m65 h65 => ?_)
          obtain ⟨rfl, rfl⟩ := h65
          refine g_callSi dX11_line_68 ln_X11_173 ⟨_, rfl⟩ rfl (Nat.le_of_ble_eq_true rfl) (Nat.le_of_ble_eq_true rfl) (ct_bits (by have := hrS_lt hQ (evO P ds).2.2.1 ((evO P ds).1 + i); omega)) rfl (fun r68 m68 h68 => ?_)
          obtain ⟨rfl, rfl⟩ := h68
          refine g_iadd dX11_line_71 ?_
          refine g_istore_n dX11_line_72 (by decide) ?_
          show Go _ _ _ _ _ _ [_, _, _, _] _ _ _
          refine g_iinc dX11_line_73 rfl (by decide) ?_
          show Go _ _ _ _ _ _ [_, _, _, _] _ _ _
          refine g_goto (tgt := 21) dX11_line_76 (by decide) ?_
          rw [nI_inc, nI_z (popN (hrS P (evO P ds).2.2.1 _)), nI_z (popN (hrS P (fun _ => 0) _)), z_sub, z_add]
          rw [show lnF P (evO P ds).2.2.1 (evO P ds).1 (i) - (popN (hrS P (fun _ => 0) ((evO P ds).1 + i)) : Int) + (popN (hrS P (evO P ds).2.2.1 ((evO P ds).1 + i)) : Int) = lnF P (evO P ds).2.2.1 (evO P ds).1 (i + 1) by rw [lnF_s]; omega]
          exact kk _ ⟨h95, fun j a b => by
            rcases Nat.lt_or_ge j i with q | q
            · exact hn j a q
            · rw [show j = i by omega]
              first
                | exact isK3f (hkd _) c44
                | exact absurd ((nI_eq (by omega) (by omega)).mp c34) (by omega)⟩
        · skip
          refine g_aload_n dX11_line_37 rfl ?_
          refine t_getR dX11_line_38 fl_X11_26 rfl (by decide) rfl (by decide) rfl ?_
          refine g_iload_n dX11_line_41 rfl ?_
          refine t_iald dX11_line_42 rfl (by decide) (in_nI (by omega) (by decide)) ?_
          rw [cl_nI (by omega), h9 54 (by decide), hP.2.2.1 _ (by omega)]
          refine g_iconst (v := 3) dX11_line_43 (by decide) ?_
          refine g_icmp_eq (tgt := 79) dX11_line_44 (by decide) (fun c44 => ?_) (fun c44 => ?_)
          · skip
            first
              | rw [← lnK_at (show 1 ≤ i from Nat.one_le_iff_ne_zero.mpr (fun q => c34 (by rw [q]; rfl))) hi ((isK3 (hkd _)).mpr c44) hn]
              | rw [← lnK_end hn]
              | fail "no way"
            refine g_forget 2 ?_
            show Go _ _ _ _ _ _ [_, _, _, _] _ _ _
            refine g_aload_n dX11_line_79 rfl ?_
            refine t_getI dX11_line_80 fl_X11_176 rfl (by decide) rfl (by decide) ?_
            rw [h9 48 (by decide), hE.1]
            refine g_istore_n dX11_line_83 (by decide) ?_
            show Go _ _ _ _ _ _ [_, _, _, _] _ _ _
            refine go_dn (fun y => y ≤ (evO P ds).1 → lastL P (evO P ds).1 = lastL P y → Go X (d + 6) 66 M_X11_line 66 84 [.ref 48, .int (zI (lnF P (evO P ds).2.2.1 (evO P ds).1 (lnK P (evO P ds).1))), .null, .int (nI y)] [] (I2, J, rf0) (RI (fun y9 m => ∃ I', m = (I', J, rf0) ∧ FrM I I' ∧ y9 = (S_line P ds tl).1 ∧ AbsM rw tx P ds sh (S_line P ds tl).2 ch fn I' J))) (fun y kk3 hy he => ?_) (fun hy he => ?_) (evO P ds).1 (Nat.le_refl _) rfl
            · skip
              refine g_iload_n dX11_line_84 rfl ?_
              refine g_if_le (tgt := 104) dX11_line_85 (by decide) (fun c85 => ?_) (fun c85 => ?_)
              · exact absurd (nI_lt (show 0 < y + 1 by omega) (by omega)) (Int32.not_lt.mpr c85)
              · skip
                refine g_aload_n dX11_line_88 rfl ?_
                refine t_getR dX11_line_89 fl_X11_26 rfl (by decide) rfl (by decide) rfl ?_
                refine g_iload_n dX11_line_92 rfl ?_
                refine t_iald dX11_line_93 rfl (by decide) (in_nI (by omega) (by decide)) ?_
                rw [cl_nI (by omega), h9 54 (by decide), hP.2.2.1 _ (by omega)]
                refine g_iconst (v := 3) dX11_line_94 (by decide) ?_
                refine g_icmp_eq (tgt := 104) dX11_line_95 (by decide) (fun c95 => ?_) (fun c95 => ?_)
                · skip
                  refine g_aload_n dX11_line_104 rfl ?_
                  refine g_aload_n dX11_line_105 rfl ?_
                  refine t_getI dX11_line_106 fl_X11_176 rfl (by decide) rfl (by decide) ?_
                  rw [h9 48 (by decide), hE.1]
                  refine g_iload_n dX11_line_109 rfl ?_
                  refine g_isub dX11_line_110 ?_
                  refine g_iload_n dX11_line_111 rfl ?_
                  refine g_if_ge (tgt := 119) dX11_line_112 (by decide) (fun c112 => ?_) (fun c112 => ?_)
                  · skip
                    refine g_iload_n dX11_line_119 rfl ?_
                    refine g_callVi dX11_line_120 ln_X11_84 ⟨_, rfl⟩ rfl (by decide) ⟨_, _, rfl⟩ rfl (Nat.le_of_ble_eq_true rfl) (Nat.le_of_ble_eq_true rfl) ct_asks rfl (fun r120 m120 h120 => ?_)
                    obtain ⟨rfl, rfl⟩ := h120
                    refine g_iret dX11_line_123 (fun ty h => by cases h; rfl) ?_
                    have hS := S_line_k (ds := ds) (tl := tl) hlt rfl
                    refine ⟨_, rfl, (FrM.of h9 (by decide)).up (by decide), ?_, ?_⟩
                    · rw [hS]
                      first
                        | exact (if_neg (Int32.not_lt.mpr c112)).symm
                        | exact (if_pos (Int32.not_le.mp c112)).symm
                        | fail "no way"
                    · rw [hS]
                      first
                        | (rw [he, show lastL P (y + 1) = y + 1 by rw [show lastL P (y + 1) = if isK (P.2.2.1 (y + 1)) 3 then y + 1 else lastL P y from rfl, (isK3 (hkd _)).mpr c95]; rfl]
                           exact (hA.s63 h9).told)
                        | (rw [show lastL P (evO P ds).1 = 0 from he]
                           exact (hA.s63 h9).told)
                        | fail "no way"
                  · skip
                    refine g_iconst (v := 0) dX11_line_115 (by decide) ?_
                    refine g_goto (tgt := 120) dX11_line_116 (by decide) ?_
                    refine g_callVi dX11_line_120 ln_X11_84 ⟨_, rfl⟩ rfl (by decide) ⟨_, _, rfl⟩ rfl (Nat.le_of_ble_eq_true rfl) (Nat.le_of_ble_eq_true rfl) ct_asks rfl (fun r120 m120 h120 => ?_)
                    obtain ⟨rfl, rfl⟩ := h120
                    refine g_iret dX11_line_123 (fun ty h => by cases h; rfl) ?_
                    have hS := S_line_k (ds := ds) (tl := tl) hlt rfl
                    refine ⟨_, rfl, (FrM.of h9 (by decide)).up (by decide), ?_, ?_⟩
                    · rw [hS]
                      first
                        | exact (if_neg (Int32.not_lt.mpr c112)).symm
                        | exact (if_pos (Int32.not_le.mp c112)).symm
                        | fail "no way"
                    · rw [hS]
                      first
                        | (rw [he, show lastL P (y + 1) = y + 1 by rw [show lastL P (y + 1) = if isK (P.2.2.1 (y + 1)) 3 then y + 1 else lastL P y from rfl, (isK3 (hkd _)).mpr c95]; rfl]
                           exact (hA.s63 h9).told)
                        | (rw [show lastL P (evO P ds).1 = 0 from he]
                           exact (hA.s63 h9).told)
                        | fail "no way"
                · skip
                  refine g_iinc dX11_line_98 rfl (by decide) ?_
                  show Go _ _ _ _ _ _ [_, _, _, _] _ _ _
                  refine g_goto (tgt := 84) dX11_line_101 (by decide) ?_
                  rw [show nI (y + 1) + Int32.ofInt (-1) = nI y from pk_m1 y]
                  exact kk3 (by omega) (by rw [he, show lastL P (y + 1) = if isK (P.2.2.1 (y + 1)) 3 then y + 1 else lastL P y from rfl, isK3f (hkd _) c95]; rfl)
            · skip
              refine g_iload_n dX11_line_84 rfl ?_
              refine g_if_le (tgt := 104) dX11_line_85 (by decide) (fun c85 => ?_) (fun c85 => ?_)
              · skip
                refine g_aload_n dX11_line_104 rfl ?_
                refine g_aload_n dX11_line_105 rfl ?_
                refine t_getI dX11_line_106 fl_X11_176 rfl (by decide) rfl (by decide) ?_
                rw [h9 48 (by decide), hE.1]
                refine g_iload_n dX11_line_109 rfl ?_
                refine g_isub dX11_line_110 ?_
                refine g_iload_n dX11_line_111 rfl ?_
                refine g_if_ge (tgt := 119) dX11_line_112 (by decide) (fun c112 => ?_) (fun c112 => ?_)
                · skip
                  refine g_iload_n dX11_line_119 rfl ?_
                  refine g_callVi dX11_line_120 ln_X11_84 ⟨_, rfl⟩ rfl (by decide) ⟨_, _, rfl⟩ rfl (Nat.le_of_ble_eq_true rfl) (Nat.le_of_ble_eq_true rfl) ct_asks rfl (fun r120 m120 h120 => ?_)
                  obtain ⟨rfl, rfl⟩ := h120
                  refine g_iret dX11_line_123 (fun ty h => by cases h; rfl) ?_
                  have hS := S_line_k (ds := ds) (tl := tl) hlt rfl
                  refine ⟨_, rfl, (FrM.of h9 (by decide)).up (by decide), ?_, ?_⟩
                  · rw [hS]
                    first
                      | exact (if_neg (Int32.not_lt.mpr c112)).symm
                      | exact (if_pos (Int32.not_le.mp c112)).symm
                      | fail "no way"
                  · rw [hS]
                    first
                      | (rw [he, show lastL P (y + 1) = y + 1 by rw [show lastL P (y + 1) = if isK (P.2.2.1 (y + 1)) 3 then y + 1 else lastL P y from rfl, (isK3 (hkd _)).mpr c95]; rfl]
                         exact (hA.s63 h9).told)
                      | (rw [show lastL P (evO P ds).1 = 0 from he]
                         exact (hA.s63 h9).told)
                      | fail "no way"
                · skip
                  refine g_iconst (v := 0) dX11_line_115 (by decide) ?_
                  refine g_goto (tgt := 120) dX11_line_116 (by decide) ?_
                  refine g_callVi dX11_line_120 ln_X11_84 ⟨_, rfl⟩ rfl (by decide) ⟨_, _, rfl⟩ rfl (Nat.le_of_ble_eq_true rfl) (Nat.le_of_ble_eq_true rfl) ct_asks rfl (fun r120 m120 h120 => ?_)
                  obtain ⟨rfl, rfl⟩ := h120
                  refine g_iret dX11_line_123 (fun ty h => by cases h; rfl) ?_
                  have hS := S_line_k (ds := ds) (tl := tl) hlt rfl
                  refine ⟨_, rfl, (FrM.of h9 (by decide)).up (by decide), ?_, ?_⟩
                  · rw [hS]
                    first
                      | exact (if_neg (Int32.not_lt.mpr c112)).symm
                      | exact (if_pos (Int32.not_le.mp c112)).symm
                      | fail "no way"
                  · rw [hS]
                    first
                      | (rw [he, show lastL P (y + 1) = y + 1 by rw [show lastL P (y + 1) = if isK (P.2.2.1 (y + 1)) 3 then y + 1 else lastL P y from rfl, (isK3 (hkd _)).mpr c95]; rfl]
                         exact (hA.s63 h9).told)
                      | (rw [show lastL P (evO P ds).1 = 0 from he]
                         exact (hA.s63 h9).told)
                      | fail "no way"
              · exact absurd (Int32.le_refl _) c85
          · skip
            refine g_iload_n dX11_line_47 rfl ?_
            refine g_aload_n dX11_line_48 rfl ?_
            refine g_iload_n dX11_line_49 rfl ?_
            refine g_callVi dX11_line_50 ln_X11_146 ⟨_, rfl⟩ rfl (by decide) ⟨_, _, rfl⟩ rfl (Nat.le_of_ble_eq_true rfl) (Nat.le_of_ble_eq_true rfl) (ct_plain (x := (evO P ds).1 + i) (hP.scr h9) hQ (by omega)) rfl (fun r50 m50 h50 => ?_)
            obtain ⟨rfl, g, rfl, -⟩ := h50
            refine g_callSi dX11_line_53 ln_X11_173 ⟨_, rfl⟩ rfl (Nat.le_of_ble_eq_true rfl) (Nat.le_of_ble_eq_true rfl) (ct_bits (by have := hrS_lt hQ (fun _ => 0) ((evO P ds).1 + i); omega)) rfl (fun r53 m53 h53 => ?_)
            obtain ⟨rfl, rfl⟩ := h53
            refine g_isub dX11_line_56 ?_
            refine g_istore_n dX11_line_57 (by decide) ?_
            show Go _ _ _ _ _ _ [_, _, _, _] _ _ _
            refine g_aload_n dX11_line_58 rfl ?_
            refine g_callVv dX11_line_59 ln_X11_189 rfl rfl (by decide) ⟨_, _, rfl⟩ rfl (Nat.le_of_ble_eq_true rfl) (Nat.le_of_ble_eq_true rfl) ct_asOut rfl (fun m59 h59 => ?_)
            obtain ⟨g2, rfl, hg2⟩ := h59
            rw [up_up]
            have h95 : Fr [63] I (upR I2 63 g2) := h9.up (by decide)
            have ho5 : OuV 63 (evO P ds).2.2.1 (upR I2 63 g2) := fun p hp => by rw [upR_s, hg2 p hp, upR_n (by decide), h9 60 (by decide)]; exact hE.2.2.2.1 p hp
            refine g_iload_n dX11_line_62 rfl ?_
            refine g_aload_n dX11_line_63 rfl ?_
            refine g_iload_n dX11_line_64 rfl ?_
            refine g_callVi dX11_line_65 ln_X11_143 ⟨_, rfl⟩ rfl (by decide) ⟨_, _, rfl⟩ rfl (Nat.le_of_ble_eq_true rfl) (Nat.le_of_ble_eq_true rfl) (ct_hears (x := (evO P ds).1 + i) (o := (evO P ds).2.2.1) (hP.scr h95) hQ (by omega) hR.2.2.1 ho5) rfl (fun r65 m65 h65 => ?_)
            obtain ⟨rfl, rfl⟩ := h65
            refine g_callSi dX11_line_68 ln_X11_173 ⟨_, rfl⟩ rfl (Nat.le_of_ble_eq_true rfl) (Nat.le_of_ble_eq_true rfl) (ct_bits (by have := hrS_lt hQ (evO P ds).2.2.1 ((evO P ds).1 + i); omega)) rfl (fun r68 m68 h68 => ?_)
            obtain ⟨rfl, rfl⟩ := h68
            refine g_iadd dX11_line_71 ?_
            refine g_istore_n dX11_line_72 (by decide) ?_
            show Go _ _ _ _ _ _ [_, _, _, _] _ _ _
            refine g_iinc dX11_line_73 rfl (by decide) ?_
            show Go _ _ _ _ _ _ [_, _, _, _] _ _ _
            refine g_goto (tgt := 21) dX11_line_76 (by decide) ?_
            rw [nI_inc, nI_z (popN (hrS P (evO P ds).2.2.1 _)), nI_z (popN (hrS P (fun _ => 0) _)), z_sub, z_add]
            rw [show lnF P (evO P ds).2.2.1 (evO P ds).1 (i) - (popN (hrS P (fun _ => 0) ((evO P ds).1 + i)) : Int) + (popN (hrS P (evO P ds).2.2.1 ((evO P ds).1 + i)) : Int) = lnF P (evO P ds).2.2.1 (evO P ds).1 (i + 1) by rw [lnF_s]; omega]
            exact kk _ ⟨h95, fun j a b => by
              rcases Nat.lt_or_ge j i with q | q
              · exact hn j a q
              · rw [show j = i by omega]
                first
                  | exact isK3f (hkd _) c44
                  | exact absurd ((nI_eq (by omega) (by omega)).mp c34) (by omega)⟩
    · obtain ⟨h9, hn⟩ := h9b
      refine g_iload_n dX11_line_21 rfl ?_
      refine g_aload_n dX11_line_22 rfl ?_
      refine t_getI dX11_line_23 fl_X11_119 rfl (by decide) rfl (by decide) ?_
      rw [h9 48 (by decide), hP.2.1]
      refine g_icmp_ge (tgt := 79) dX11_line_26 (by decide) (fun c26 => ?_) (fun c26 => ?_)
      · skip
        first
          | rw [← lnK_at (show 1 ≤ i from Nat.one_le_iff_ne_zero.mpr (fun q => c34 (by rw [q]; rfl))) hi ((isK3 (hkd _)).mpr c44) hn]
          | rw [← lnK_end hn]
          | fail "no way"
        refine g_forget 2 ?_
        show Go _ _ _ _ _ _ [_, _, _, _] _ _ _
        refine g_aload_n dX11_line_79 rfl ?_
        refine t_getI dX11_line_80 fl_X11_176 rfl (by decide) rfl (by decide) ?_
        rw [h9 48 (by decide), hE.1]
        refine g_istore_n dX11_line_83 (by decide) ?_
        show Go _ _ _ _ _ _ [_, _, _, _] _ _ _
        refine go_dn (fun y => y ≤ (evO P ds).1 → lastL P (evO P ds).1 = lastL P y → Go X (d + 6) 66 M_X11_line 66 84 [.ref 48, .int (zI (lnF P (evO P ds).2.2.1 (evO P ds).1 (lnK P (evO P ds).1))), .null, .int (nI y)] [] (I2, J, rf0) (RI (fun y9 m => ∃ I', m = (I', J, rf0) ∧ FrM I I' ∧ y9 = (S_line P ds tl).1 ∧ AbsM rw tx P ds sh (S_line P ds tl).2 ch fn I' J))) (fun y kk3 hy he => ?_) (fun hy he => ?_) (evO P ds).1 (Nat.le_refl _) rfl
        · skip
          refine g_iload_n dX11_line_84 rfl ?_
          refine g_if_le (tgt := 104) dX11_line_85 (by decide) (fun c85 => ?_) (fun c85 => ?_)
          · exact absurd (nI_lt (show 0 < y + 1 by omega) (by omega)) (Int32.not_lt.mpr c85)
          · skip
            refine g_aload_n dX11_line_88 rfl ?_
            refine t_getR dX11_line_89 fl_X11_26 rfl (by decide) rfl (by decide) rfl ?_
            refine g_iload_n dX11_line_92 rfl ?_
            refine t_iald dX11_line_93 rfl (by decide) (in_nI (by omega) (by decide)) ?_
            rw [cl_nI (by omega), h9 54 (by decide), hP.2.2.1 _ (by omega)]
            refine g_iconst (v := 3) dX11_line_94 (by decide) ?_
            refine g_icmp_eq (tgt := 104) dX11_line_95 (by decide) (fun c95 => ?_) (fun c95 => ?_)
            · skip
              refine g_aload_n dX11_line_104 rfl ?_
              refine g_aload_n dX11_line_105 rfl ?_
              refine t_getI dX11_line_106 fl_X11_176 rfl (by decide) rfl (by decide) ?_
              rw [h9 48 (by decide), hE.1]
              refine g_iload_n dX11_line_109 rfl ?_
              refine g_isub dX11_line_110 ?_
              refine g_iload_n dX11_line_111 rfl ?_
              refine g_if_ge (tgt := 119) dX11_line_112 (by decide) (fun c112 => ?_) (fun c112 => ?_)
              · skip
                refine g_iload_n dX11_line_119 rfl ?_
                refine g_callVi dX11_line_120 ln_X11_84 ⟨_, rfl⟩ rfl (by decide) ⟨_, _, rfl⟩ rfl (Nat.le_of_ble_eq_true rfl) (Nat.le_of_ble_eq_true rfl) ct_asks rfl (fun r120 m120 h120 => ?_)
                obtain ⟨rfl, rfl⟩ := h120
                refine g_iret dX11_line_123 (fun ty h => by cases h; rfl) ?_
                have hS := S_line_k (ds := ds) (tl := tl) hlt rfl
                refine ⟨_, rfl, (FrM.of h9 (by decide)).up (by decide), ?_, ?_⟩
                · rw [hS]
                  first
                    | exact (if_neg (Int32.not_lt.mpr c112)).symm
                    | exact (if_pos (Int32.not_le.mp c112)).symm
                    | fail "no way"
                · rw [hS]
                  first
                    | (rw [he, show lastL P (y + 1) = y + 1 by rw [show lastL P (y + 1) = if isK (P.2.2.1 (y + 1)) 3 then y + 1 else lastL P y from rfl, (isK3 (hkd _)).mpr c95]; rfl]
                       exact (hA.s63 h9).told)
                    | (rw [show lastL P (evO P ds).1 = 0 from he]
                       exact (hA.s63 h9).told)
                    | fail "no way"
              · skip
                refine g_iconst (v := 0) dX11_line_115 (by decide) ?_
                refine g_goto (tgt := 120) dX11_line_116 (by decide) ?_
                refine g_callVi dX11_line_120 ln_X11_84 ⟨_, rfl⟩ rfl (by decide) ⟨_, _, rfl⟩ rfl (Nat.le_of_ble_eq_true rfl) (Nat.le_of_ble_eq_true rfl) ct_asks rfl (fun r120 m120 h120 => ?_)
                obtain ⟨rfl, rfl⟩ := h120
                refine g_iret dX11_line_123 (fun ty h => by cases h; rfl) ?_
                have hS := S_line_k (ds := ds) (tl := tl) hlt rfl
                refine ⟨_, rfl, (FrM.of h9 (by decide)).up (by decide), ?_, ?_⟩
                · rw [hS]
                  first
                    | exact (if_neg (Int32.not_lt.mpr c112)).symm
                    | exact (if_pos (Int32.not_le.mp c112)).symm
                    | fail "no way"
                · rw [hS]
                  first
                    | (rw [he, show lastL P (y + 1) = y + 1 by rw [show lastL P (y + 1) = if isK (P.2.2.1 (y + 1)) 3 then y + 1 else lastL P y from rfl, (isK3 (hkd _)).mpr c95]; rfl]
                       exact (hA.s63 h9).told)
                    | (rw [show lastL P (evO P ds).1 = 0 from he]
                       exact (hA.s63 h9).told)
                    | fail "no way"
            · skip
              refine g_iinc dX11_line_98 rfl (by decide) ?_
              show Go _ _ _ _ _ _ [_, _, _, _] _ _ _
              refine g_goto (tgt := 84) dX11_line_101 (by decide) ?_
              rw [show nI (y + 1) + Int32.ofInt (-1) = nI y from pk_m1 y]
              exact kk3 (by omega) (by rw [he, show lastL P (y + 1) = if isK (P.2.2.1 (y + 1)) 3 then y + 1 else lastL P y from rfl, isK3f (hkd _) c95]; rfl)
        · skip
          refine g_iload_n dX11_line_84 rfl ?_
          refine g_if_le (tgt := 104) dX11_line_85 (by decide) (fun c85 => ?_) (fun c85 => ?_)
          · skip
            refine g_aload_n dX11_line_104 rfl ?_
            refine g_aload_n dX11_line_105 rfl ?_
            refine t_getI dX11_line_106 fl_X11_176 rfl (by decide) rfl (by decide) ?_
            rw [h9 48 (by decide), hE.1]
            refine g_iload_n dX11_line_109 rfl ?_
            refine g_isub dX11_line_110 ?_
            refine g_iload_n dX11_line_111 rfl ?_
            refine g_if_ge (tgt := 119) dX11_line_112 (by decide) (fun c112 => ?_) (fun c112 => ?_)
            · skip
              refine g_iload_n dX11_line_119 rfl ?_
              refine g_callVi dX11_line_120 ln_X11_84 ⟨_, rfl⟩ rfl (by decide) ⟨_, _, rfl⟩ rfl (Nat.le_of_ble_eq_true rfl) (Nat.le_of_ble_eq_true rfl) ct_asks rfl (fun r120 m120 h120 => ?_)
              obtain ⟨rfl, rfl⟩ := h120
              refine g_iret dX11_line_123 (fun ty h => by cases h; rfl) ?_
              have hS := S_line_k (ds := ds) (tl := tl) hlt rfl
              refine ⟨_, rfl, (FrM.of h9 (by decide)).up (by decide), ?_, ?_⟩
              · rw [hS]
                first
                  | exact (if_neg (Int32.not_lt.mpr c112)).symm
                  | exact (if_pos (Int32.not_le.mp c112)).symm
                  | fail "no way"
              · rw [hS]
                first
                  | (rw [he, show lastL P (y + 1) = y + 1 by rw [show lastL P (y + 1) = if isK (P.2.2.1 (y + 1)) 3 then y + 1 else lastL P y from rfl, (isK3 (hkd _)).mpr c95]; rfl]
                     exact (hA.s63 h9).told)
                  | (rw [show lastL P (evO P ds).1 = 0 from he]
                     exact (hA.s63 h9).told)
                  | fail "no way"
            · skip
              refine g_iconst (v := 0) dX11_line_115 (by decide) ?_
              refine g_goto (tgt := 120) dX11_line_116 (by decide) ?_
              refine g_callVi dX11_line_120 ln_X11_84 ⟨_, rfl⟩ rfl (by decide) ⟨_, _, rfl⟩ rfl (Nat.le_of_ble_eq_true rfl) (Nat.le_of_ble_eq_true rfl) ct_asks rfl (fun r120 m120 h120 => ?_)
              obtain ⟨rfl, rfl⟩ := h120
              refine g_iret dX11_line_123 (fun ty h => by cases h; rfl) ?_
              have hS := S_line_k (ds := ds) (tl := tl) hlt rfl
              refine ⟨_, rfl, (FrM.of h9 (by decide)).up (by decide), ?_, ?_⟩
              · rw [hS]
                first
                  | exact (if_neg (Int32.not_lt.mpr c112)).symm
                  | exact (if_pos (Int32.not_le.mp c112)).symm
                  | fail "no way"
              · rw [hS]
                first
                  | (rw [he, show lastL P (y + 1) = y + 1 by rw [show lastL P (y + 1) = if isK (P.2.2.1 (y + 1)) 3 then y + 1 else lastL P y from rfl, (isK3 (hkd _)).mpr c95]; rfl]
                     exact (hA.s63 h9).told)
                  | (rw [show lastL P (evO P ds).1 = 0 from he]
                     exact (hA.s63 h9).told)
                  | fail "no way"
          · exact absurd (Int32.le_refl _) c85
      · exact absurd (nI_le (show P.2.1 ≤ (evO P ds).1 + (P.2.1 - (evO P ds).1) by omega) (by omega)) c26
  · skip
    refine g_bipush (v := -4) dX11_line_11 (by decide) ?_
    refine g_iret dX11_line_13 (fun ty h => by cases h; rfl) ?_
    have hS : S_line P ds tl = (-4, tl) := by unfold S_line; rw [if_pos (by
      rcases Nat.lt_or_ge (evO P ds).1 P.2.1 with q | q
      · exact absurd (nI_lt q (by omega)) c8
      · exact q)]
    exact ⟨_, rfl, FrM.rf, by rw [hS], by rw [hS]; exact hA⟩
theorem pm_letter {rw tx : Tab} {P : Pce} {ds : List Deed} {sh : Shf} {tl : Int32} {ch : Int64 × Int64} {fn : Fnd} (hA : AbsM rw tx P ds sh tl ch fn I J) (hO : StOK rw tx P ds sh) : Ct X (d + 1) 66 M_X11_letter 66 [.ref 48] (I, J, rf0) (RI (fun y9 m => ∃ I', m = (I', J, rf0) ∧ FrM I I' ∧ y9 = (S_letter P ds tl).1 ∧ AbsM rw tx P ds sh (S_letter P ds tl).2 ch fn I' J)) := by
  have hP := hA.2.2.1
  have hQ := hO.2.2.1
  have h14 := hQ.2.1
  have h4 := hQ.1
  have hEv := hA.2.2.2.1
  have hD := hO.2.2.2.1
  have hE := hEv.2.2
  have hR : EvR (evO P ds) := EvR.e.run hQ hD.2
  have hr14 := hR.1
  have hkd := hQ.2.2.2.1
  show Go _ _ _ _ _ _ [_, _, _, _, _] _ _ _
  refine g_aload_n dX11_letter_0 rfl ?_
  refine t_getI dX11_letter_1 fl_X11_119 rfl (by decide) rfl (by decide) ?_
  rw [hP.2.1]
  refine g_if_ne (tgt := 10) dX11_letter_4 (by decide) (fun c4 => ?_) (fun c4 => ?_)
  · skip
    refine g_bipush (v := -9) dX11_letter_10 (by decide) ?_
    refine g_istore_n dX11_letter_12 (by decide) ?_
    show Go _ _ _ _ _ _ [_, _, _, _, _] _ _ _
    refine g_bipush (v := 99) dX11_letter_13 (by decide) ?_
    refine g_istore_n dX11_letter_15 (by decide) ?_
    show Go _ _ _ _ _ _ [_, _, _, _, _] _ _ _
    refine g_iconst (v := 0) dX11_letter_16 (by decide) ?_
    refine g_istore_n dX11_letter_17 (by decide) ?_
    show Go _ _ _ _ _ _ [_, _, _, _, _] _ _ _
    refine go_ix P.2.1 (fun x => Go X (d + 1) 66 M_X11_letter 66 18 [.ref 48, .int (ltA (ltF P (evO P ds).1 x)), .int (ltD (ltF P (evO P ds).1 x)), .int (nI x), .null] [] (I, J, rf0) (RI (fun y9 m => ∃ I', m = (I', J, rf0) ∧ FrM I I' ∧ y9 = (S_letter P ds tl).1 ∧ AbsM rw tx P ds sh (S_letter P ds tl).2 ch fn I' J))) (fun x hx kk => ?_) ?_
    · skip
      refine g_iload_n dX11_letter_18 rfl ?_
      refine g_aload_n dX11_letter_19 rfl ?_
      refine t_getI dX11_letter_20 fl_X11_119 rfl (by decide) rfl (by decide) ?_
      rw [hP.2.1]
      refine g_icmp_ge (tgt := 82) dX11_letter_23 (by decide) (fun c23 => ?_) (fun c23 => ?_)
      · exact absurd (nI_lt hx (by omega)) (Int32.not_lt.mpr c23)
      · skip
        refine g_iload_n dX11_letter_26 rfl ?_
        refine g_aload_n dX11_letter_27 rfl ?_
        refine t_getI dX11_letter_28 fl_X11_176 rfl (by decide) rfl (by decide) ?_
        rw [hE.1]
        refine g_icmp_le (tgt := 43) dX11_letter_31 (by decide) (fun c31 => ?_) (fun c31 => ?_)
        · skip
          refine g_aload_n dX11_letter_43 rfl ?_
          refine t_getI dX11_letter_44 fl_X11_176 rfl (by decide) rfl (by decide) ?_
          rw [hE.1]
          refine g_iload_n dX11_letter_47 rfl ?_
          refine g_isub dX11_letter_48 ?_
          first
            | rw [ds_1 x (by omega) (evO P ds).1 (by omega) (Nat.lt_of_not_le (fun q => c31 (nI_le q (by omega))))]
            | rw [ds_2 x (by omega) (evO P ds).1 (by omega) ((nI_leI (by omega) (by omega)).mp c31)]
            | fail "no way"
          refine g_istore dX11_letter_49 (by decide) ?_
          show Go _ _ _ _ _ _ [_, _, _, _, _] _ _ _
          refine g_aload_n dX11_letter_51 rfl ?_
          refine t_getR dX11_letter_52 fl_X11_26 rfl (by decide) rfl (by decide) rfl ?_
          refine g_iload_n dX11_letter_55 rfl ?_
          refine t_iald dX11_letter_56 rfl (by decide) (in_nI (by omega) (by decide)) ?_
          rw [cl_nI (by omega), hP.2.2.1 x hx]
          refine g_iconst (v := 3) dX11_letter_57 (by decide) ?_
          refine g_icmp_ne (tgt := 76) dX11_letter_58 (by decide) (fun c58 => ?_) (fun c58 => ?_)
          · skip
            refine g_iinc dX11_letter_76 rfl (by decide) ?_
            show Go _ _ _ _ _ _ [_, _, _, _, _] _ _ _
            refine g_goto (tgt := 18) dX11_letter_79 (by decide) ?_
            refine g_forget 4 ?_
            show Go _ _ _ _ _ _ [_, _, _, _, _] _ _ _
            rw [nI_inc]
            first
              | (rw [lt_yesM hr14 (by omega) ((isK3 (hkd _)).mpr c58) (Int32.not_le.mp c64)] at kk
                 exact kk)
              | (rw [lt_noM hr14 (by omega) ((isK3 (hkd _)).mpr c58) (Int32.not_lt.mpr c64)] at kk
                 exact kk)
              | (rw [lt_skip (isK3f (hkd _) c58)] at kk
                 exact kk)
              | fail "no way"
          · skip
            refine g_iload dX11_letter_61 rfl ?_
            refine g_iload_n dX11_letter_63 rfl ?_
            refine g_icmp_ge (tgt := 76) dX11_letter_64 (by decide) (fun c64 => ?_) (fun c64 => ?_)
            · skip
              refine g_iinc dX11_letter_76 rfl (by decide) ?_
              show Go _ _ _ _ _ _ [_, _, _, _, _] _ _ _
              refine g_goto (tgt := 18) dX11_letter_79 (by decide) ?_
              refine g_forget 4 ?_
              show Go _ _ _ _ _ _ [_, _, _, _, _] _ _ _
              rw [nI_inc]
              first
                | (rw [lt_yesM hr14 (by omega) ((isK3 (hkd _)).mpr c58) (Int32.not_le.mp c64)] at kk
                   exact kk)
                | (rw [lt_noM hr14 (by omega) ((isK3 (hkd _)).mpr c58) (Int32.not_lt.mpr c64)] at kk
                   exact kk)
                | (rw [lt_skip (isK3f (hkd _) c58)] at kk
                   exact kk)
                | fail "no way"
            · skip
              refine g_aload_n dX11_letter_67 rfl ?_
              refine g_iload_n dX11_letter_68 rfl ?_
              refine g_callVi dX11_letter_69 ln_X11_167 ⟨_, rfl⟩ rfl (by decide) ⟨_, _, rfl⟩ rfl (Nat.le_of_ble_eq_true rfl) (Nat.le_of_ble_eq_true rfl) (ct_letters (x := x) hP hQ (by omega)) rfl (fun r69 m69 h69 => ?_)
              obtain ⟨rfl, rfl⟩ := h69
              refine g_istore_n dX11_letter_72 (by decide) ?_
              show Go _ _ _ _ _ _ [_, _, _, _, _] _ _ _
              refine g_iload dX11_letter_73 rfl ?_
              refine g_istore_n dX11_letter_75 (by decide) ?_
              show Go _ _ _ _ _ _ [_, _, _, _, _] _ _ _
              refine g_iinc dX11_letter_76 rfl (by decide) ?_
              show Go _ _ _ _ _ _ [_, _, _, _, _] _ _ _
              refine g_goto (tgt := 18) dX11_letter_79 (by decide) ?_
              refine g_forget 4 ?_
              show Go _ _ _ _ _ _ [_, _, _, _, _] _ _ _
              rw [nI_inc]
              first
                | (rw [lt_yesM hr14 (by omega) ((isK3 (hkd _)).mpr c58) (Int32.not_le.mp c64)] at kk
                   exact kk)
                | (rw [lt_noM hr14 (by omega) ((isK3 (hkd _)).mpr c58) (Int32.not_lt.mpr c64)] at kk
                   exact kk)
                | (rw [lt_skip (isK3f (hkd _) c58)] at kk
                   exact kk)
                | fail "no way"
        · skip
          refine g_iload_n dX11_letter_34 rfl ?_
          refine g_aload_n dX11_letter_35 rfl ?_
          refine t_getI dX11_letter_36 fl_X11_176 rfl (by decide) rfl (by decide) ?_
          rw [hE.1]
          refine g_isub dX11_letter_39 ?_
          refine g_goto (tgt := 49) dX11_letter_40 (by decide) ?_
          first
            | rw [ds_1 x (by omega) (evO P ds).1 (by omega) (Nat.lt_of_not_le (fun q => c31 (nI_le q (by omega))))]
            | rw [ds_2 x (by omega) (evO P ds).1 (by omega) ((nI_leI (by omega) (by omega)).mp c31)]
            | fail "no way"
          refine g_istore dX11_letter_49 (by decide) ?_
          show Go _ _ _ _ _ _ [_, _, _, _, _] _ _ _
          refine g_aload_n dX11_letter_51 rfl ?_
          refine t_getR dX11_letter_52 fl_X11_26 rfl (by decide) rfl (by decide) rfl ?_
          refine g_iload_n dX11_letter_55 rfl ?_
          refine t_iald dX11_letter_56 rfl (by decide) (in_nI (by omega) (by decide)) ?_
          rw [cl_nI (by omega), hP.2.2.1 x hx]
          refine g_iconst (v := 3) dX11_letter_57 (by decide) ?_
          refine g_icmp_ne (tgt := 76) dX11_letter_58 (by decide) (fun c58 => ?_) (fun c58 => ?_)
          · skip
            refine g_iinc dX11_letter_76 rfl (by decide) ?_
            show Go _ _ _ _ _ _ [_, _, _, _, _] _ _ _
            refine g_goto (tgt := 18) dX11_letter_79 (by decide) ?_
            refine g_forget 4 ?_
            show Go _ _ _ _ _ _ [_, _, _, _, _] _ _ _
            rw [nI_inc]
            first
              | (rw [lt_yesM hr14 (by omega) ((isK3 (hkd _)).mpr c58) (Int32.not_le.mp c64)] at kk
                 exact kk)
              | (rw [lt_noM hr14 (by omega) ((isK3 (hkd _)).mpr c58) (Int32.not_lt.mpr c64)] at kk
                 exact kk)
              | (rw [lt_skip (isK3f (hkd _) c58)] at kk
                 exact kk)
              | fail "no way"
          · skip
            refine g_iload dX11_letter_61 rfl ?_
            refine g_iload_n dX11_letter_63 rfl ?_
            refine g_icmp_ge (tgt := 76) dX11_letter_64 (by decide) (fun c64 => ?_) (fun c64 => ?_)
            · skip
              refine g_iinc dX11_letter_76 rfl (by decide) ?_
              show Go _ _ _ _ _ _ [_, _, _, _, _] _ _ _
              refine g_goto (tgt := 18) dX11_letter_79 (by decide) ?_
              refine g_forget 4 ?_
              show Go _ _ _ _ _ _ [_, _, _, _, _] _ _ _
              rw [nI_inc]
              first
                | (rw [lt_yesM hr14 (by omega) ((isK3 (hkd _)).mpr c58) (Int32.not_le.mp c64)] at kk
                   exact kk)
                | (rw [lt_noM hr14 (by omega) ((isK3 (hkd _)).mpr c58) (Int32.not_lt.mpr c64)] at kk
                   exact kk)
                | (rw [lt_skip (isK3f (hkd _) c58)] at kk
                   exact kk)
                | fail "no way"
            · skip
              refine g_aload_n dX11_letter_67 rfl ?_
              refine g_iload_n dX11_letter_68 rfl ?_
              refine g_callVi dX11_letter_69 ln_X11_167 ⟨_, rfl⟩ rfl (by decide) ⟨_, _, rfl⟩ rfl (Nat.le_of_ble_eq_true rfl) (Nat.le_of_ble_eq_true rfl) (ct_letters (x := x) hP hQ (by omega)) rfl (fun r69 m69 h69 => ?_)
              obtain ⟨rfl, rfl⟩ := h69
              refine g_istore_n dX11_letter_72 (by decide) ?_
              show Go _ _ _ _ _ _ [_, _, _, _, _] _ _ _
              refine g_iload dX11_letter_73 rfl ?_
              refine g_istore_n dX11_letter_75 (by decide) ?_
              show Go _ _ _ _ _ _ [_, _, _, _, _] _ _ _
              refine g_iinc dX11_letter_76 rfl (by decide) ?_
              show Go _ _ _ _ _ _ [_, _, _, _, _] _ _ _
              refine g_goto (tgt := 18) dX11_letter_79 (by decide) ?_
              refine g_forget 4 ?_
              show Go _ _ _ _ _ _ [_, _, _, _, _] _ _ _
              rw [nI_inc]
              first
                | (rw [lt_yesM hr14 (by omega) ((isK3 (hkd _)).mpr c58) (Int32.not_le.mp c64)] at kk
                   exact kk)
                | (rw [lt_noM hr14 (by omega) ((isK3 (hkd _)).mpr c58) (Int32.not_lt.mpr c64)] at kk
                   exact kk)
                | (rw [lt_skip (isK3f (hkd _) c58)] at kk
                   exact kk)
                | fail "no way"
    · skip
      refine g_iload_n dX11_letter_18 rfl ?_
      refine g_aload_n dX11_letter_19 rfl ?_
      refine t_getI dX11_letter_20 fl_X11_119 rfl (by decide) rfl (by decide) ?_
      rw [hP.2.1]
      refine g_icmp_ge (tgt := 82) dX11_letter_23 (by decide) (fun c23 => ?_) (fun c23 => ?_)
      · skip
        refine g_iload_n dX11_letter_82 rfl ?_
        refine g_if_ge (tgt := 91) dX11_letter_83 (by decide) (fun c83 => ?_) (fun c83 => ?_)
        · skip
          refine g_aload_n dX11_letter_91 rfl ?_
          refine g_iload_n dX11_letter_92 rfl ?_
          refine g_iload_n dX11_letter_93 rfl ?_
          refine g_callVi dX11_letter_94 ln_X11_84 ⟨_, rfl⟩ rfl (by decide) ⟨_, _, rfl⟩ rfl (Nat.le_of_ble_eq_true rfl) (Nat.le_of_ble_eq_true rfl) ct_asks rfl (fun r94 m94 h94 => ?_)
          obtain ⟨rfl, rfl⟩ := h94
          refine g_iret dX11_letter_97 (fun ty h => by cases h; rfl) ?_
          have hne : ¬ P.2.1 = 0 := (show ¬ P.2.1 = 0 from fun q => c4 (by rw [q]; rfl))
          cases hw : ltF P (evO P ds).1 P.2.1 with
          | none =>
            rw [hw] at c83
            first
              | exact absurd c83 (by decide)
              | (have hS : S_letter P ds tl = (-9, tl) := by unfold S_letter; rw [if_neg hne, hw]
                 exact ⟨_, rfl, FrM.rf, by rw [hS], by rw [hS]; exact hA⟩)
              | fail "no way"
          | some b =>
            have hb := lt_b hr14 (by omega) hw
            rw [hw] at c83
            first
              | exact absurd (show (0 : Int32) ≤ nI b.1 from nI_le (Nat.zero_le _) (by omega)) c83
              | (have hS : S_letter P ds tl = (nI b.1, nI b.2) := by unfold S_letter; rw [if_neg hne, hw]
                 exact ⟨_, rfl, FrM.rf.up (by decide), by rw [hS]; rfl, by rw [hS]; exact hA.told⟩)
              | fail "no way"
        · skip
          refine g_bipush (v := -9) dX11_letter_86 (by decide) ?_
          refine g_goto (tgt := 97) dX11_letter_88 (by decide) ?_
          refine g_iret dX11_letter_97 (fun ty h => by cases h; rfl) ?_
          have hne : ¬ P.2.1 = 0 := (show ¬ P.2.1 = 0 from fun q => c4 (by rw [q]; rfl))
          cases hw : ltF P (evO P ds).1 P.2.1 with
          | none =>
            rw [hw] at c83
            first
              | exact absurd c83 (by decide)
              | (have hS : S_letter P ds tl = (-9, tl) := by unfold S_letter; rw [if_neg hne, hw]
                 exact ⟨_, rfl, FrM.rf, by rw [hS], by rw [hS]; exact hA⟩)
              | fail "no way"
          | some b =>
            have hb := lt_b hr14 (by omega) hw
            rw [hw] at c83
            first
              | exact absurd (show (0 : Int32) ≤ nI b.1 from nI_le (Nat.zero_le _) (by omega)) c83
              | (have hS : S_letter P ds tl = (nI b.1, nI b.2) := by unfold S_letter; rw [if_neg hne, hw]
                 exact ⟨_, rfl, FrM.rf.up (by decide), by rw [hS]; rfl, by rw [hS]; exact hA.told⟩)
              | fail "no way"
      · exact absurd (Int32.le_refl _) c23
  · skip
    refine g_bipush (v := -4) dX11_letter_7 (by decide) ?_
    refine g_iret dX11_letter_9 (fun ty h => by cases h; rfl) ?_
    have h0 : P.2.1 = 0 := (nI_eq (by omega) (by decide)).mp (show nI P.2.1 = nI 0 from c4)
    have hS : S_letter P ds tl = (-4, tl) := by unfold S_letter; rw [if_pos h0]
    exact ⟨_, rfl, FrM.rf, by rw [hS], by rw [hS]; exact hA⟩
end
