section
variable {X : Nat × (Nat → Int32)} {d : Nat} {I : Nat → Nat → Int32} {J : Nat → Nat → Int64}
/-! ===== promises 29 and 31, model side ===== -/
theorem go_memJ (Inv : Nat → (Nat → Nat → Int32) → (Nat → Nat → Int64) → Prop) (e : Nat) (G : Nat → (Nat → Nat → Int32) → (Nat → Nat → Int64) → Prop) (hs : ∀ i I2 J2, i < e → Inv i I2 J2 → (∀ I3 J3, Inv (i + 1) I3 J3 → G (i + 1) I3 J3) → G i I2 J2) (he : ∀ I2 J2, Inv e I2 J2 → G e I2 J2) (I0 : Nat → Nat → Int32) (J0 : Nat → Nat → Int64) (h0 : Inv 0 I0 J0) : G 0 I0 J0 := by
  have key : ∀ n i I2 J2, i + n = e → Inv i I2 J2 → G i I2 J2 := by
    intro n
    induction n with
    | zero => intro i I2 J2 hi hI; rw [Nat.add_zero] at hi; subst hi; exact he I2 J2 hI
    | succ n ih => intro i I2 J2 hi hI; exact hs i I2 J2 (by omega) hI (fun I3 J3 h3 => ih (i + 1) I3 J3 (by omega) h3)
  exact key e 0 I0 J0 (by omega) h0
def FJ (J J' : Nat → Nat → Int64) : Prop := ∀ k, k ≠ 65 → J' k = J k
theorem FJ.up {J' : Nat → Nat → Int64} {g : Nat → Int64} (h : FJ J J') : FJ J (upR J' 65 g) := fun k hk => (upR_n hk).trans (h k hk)
def byF (P : Pce) (s : Evs) (p : Nat) : Nat := match (lkF P s p).1 with
  | none => 0
  | some q => loF P s q 5
theorem ixd {c p : Nat} : zI (oC c p) + 2 = nI (dC c p) := by
  rw [show (2 : Int32) = zI 2 from rfl, z_add, nI_z]
  congr 1
  unfold oC
  omega
theorem loF_1 (P : Pce) (s : Evs) (p : Nat) : loF P s p 1 = 0 := by rw [loF_s]; exact if_neg (fun q => Nat.lt_irrefl _ q.2)
theorem AbsM.fj {rw tx : Tab} {P : Pce} {ds : List Deed} {sh : Shf} {tl : Int32} {ch : Int64 × Int64} {fn : Fnd} {J' : Nat → Nat → Int64} (h : AbsM rw tx P ds sh tl ch fn I J) (hf : FJ J J') : AbsM rw tx P ds sh tl ch fn I J' := h.chs (by rw [hf 48 (by decide)]; exact h.2.2.2.2.2.2.1.1) (by rw [hf 48 (by decide)]; exact h.2.2.2.2.2.2.1.2)
theorem pm_who {rw tx : Tab} {P : Pce} {ds : List Deed} {sh : Shf} {tl : Int32} {ch : Int64 × Int64} {fn : Fnd} (hA : AbsM rw tx P ds sh tl ch fn I J) (hO : StOK rw tx P ds sh) : Ct X (d + 6) 66 M_X11_who 66 [.ref 48] (I, J, rf0) (RI (fun y9 m => ∃ I' J', m = (I', J', rf0) ∧ FrM I I' ∧ J' 0 = J 0 ∧ y9 = (S_who P ds tl fn).1 ∧ AbsM rw tx P ds sh (S_who P ds tl fn).2.1 ch (S_who P ds tl fn).2.2 I' J')) := by
  have hP := hA.2.2.1
  have hQ := hO.2.2.1
  have h14 := hQ.2.1
  have h4 := hQ.1
  have hEv := hA.2.2.2.1
  have hD := hO.2.2.2.1
  have hE := hEv.2.2
  have hR : EvR (evO P ds) := EvR.e.run hQ hD.2
  have hP2 : EvP P (evO P ds) := EvP.e.run hD.2
  have h625 := p5 h4
  have htot := tot_lt hQ (evO P ds)
  show Go _ _ _ _ _ _ [_, _, _, _, _, _, _, _, _, _, _] _ _ _
  refine g_aload_n dX11_who_0 rfl ?_
  refine t_getI dX11_who_1 fl_X11_119 rfl (by decide) rfl (by decide) ?_
  rw [hP.2.1]
  refine g_if_ne (tgt := 10) dX11_who_4 (by decide) (fun c4 => ?_) (fun c4 => ?_)
  · skip
    have h2p : 2 ≤ P.1 := hQ.2.2.1.resolve_left (show ¬ P.2.1 = 0 from fun q => c4 (by rw [q]; rfl))
    refine g_bipush (v := -9) dX11_who_10 (by decide) ?_
    refine g_istore_n dX11_who_12 (by decide) ?_
    show Go _ _ _ _ _ _ [_, _, _, _, _, _, _, _, _, _, _] _ _ _
    refine g_iconst (v := 0) dX11_who_13 (by decide) ?_
    refine g_istore_n dX11_who_14 (by decide) ?_
    show Go _ _ _ _ _ _ [_, _, _, _, _, _, _, _, _, _, _] _ _ _
    refine g_lconst (v := 0) dX11_who_15 (by decide) ?_
    refine g_lstore_n dX11_who_16 (by decide) ?_
    show Go _ _ _ _ _ _ [_, _, _, _, _, _, _, _, _, _, _] _ _ _
    refine g_lconst (v := 0) dX11_who_17 (by decide) ?_
    refine g_lstore dX11_who_18 (by decide) ?_
    show Go _ _ _ _ _ _ [_, _, _, _, _, _, _, _, _, _, _] _ _ _
    refine g_iconst (v := 0) dX11_who_20 (by decide) ?_
    refine g_istore dX11_who_21 (by decide) ?_
    show Go _ _ _ _ _ _ [_, _, _, _, _, _, _, _, _, _, _] _ _ _
    refine go_memJ (fun p I4 J4 => Fr [63] I I4 ∧ FJ J J4) P.1 (fun p I4 J4 => Go X (d + 6) 66 M_X11_who 66 23 [.ref 48, .int (oI (lkF P (evO P ds) p).1), .int (nI (byF P (evO P ds) p)), .long (lN (lkF P (evO P ds) p).2), .null, .long (lN (if p = 0 then 0 else smF (fW P (evO P ds)) (5 ^ P.1))), .null, .int (nI p), .null, .null, .null] [] (I4, J4, rf0) (RI (fun y9 m => ∃ I' J', m = (I', J', rf0) ∧ FrM I I' ∧ J' 0 = J 0 ∧ y9 = (S_who P ds tl fn).1 ∧ AbsM rw tx P ds sh (S_who P ds tl fn).2.1 ch (S_who P ds tl fn).2.2 I' J'))) (fun p I4 J4 hp h8 kk2 => ?_) (fun I4 J4 h8 => ?_) _ _ ⟨Fr.rf, fun _ _ => rfl⟩
    · skip
      refine g_iload dX11_who_23 rfl ?_
      refine g_aload_n dX11_who_25 rfl ?_
      refine t_getI dX11_who_26 fl_X11_116 rfl (by decide) rfl (by decide) ?_
      rw [h8.1 48 (by decide), hP.1]
      refine g_icmp_ge (tgt := 189) dX11_who_29 (by decide) (fun c29 => ?_) (fun c29 => ?_)
      · exact absurd (nI_lt hp (by omega)) (Int32.not_lt.mpr c29)
      · skip
        refine g_iconst (v := 0) dX11_who_32 (by decide) ?_
        refine g_istore dX11_who_33 (by decide) ?_
        show Go _ _ _ _ _ _ [_, _, _, _, _, _, _, _, _, _, _] _ _ _
        refine go_memJ (fun d9 I5 J5 => Fr [63] I I5 ∧ FJ J J5 ∧ ∀ e, e < d9 → J5 65 e = lN 0) 5 (fun d9 I5 J5 => Go X (d + 6) 66 M_X11_who 66 35 [.ref 48, .int (oI (lkF P (evO P ds) p).1), .int (nI (byF P (evO P ds) p)), .long (lN (lkF P (evO P ds) p).2), .null, .long (lN (if p = 0 then 0 else smF (fW P (evO P ds)) (5 ^ P.1))), .null, .int (nI p), .int (nI d9), .null, .null] [] (I5, J5, rf0) (RI (fun y9 m => ∃ I' J', m = (I', J', rf0) ∧ FrM I I' ∧ J' 0 = J 0 ∧ y9 = (S_who P ds tl fn).1 ∧ AbsM rw tx P ds sh (S_who P ds tl fn).2.1 ch (S_who P ds tl fn).2.2 I' J'))) (fun d9 I5 J5 hd9 h5 kk => ?_) (fun I5 J5 h5 => ?_) _ _ ⟨h8.1, h8.2, fun e he => absurd he (Nat.not_lt_zero e)⟩
        · skip
          refine g_iload dX11_who_35 rfl ?_
          refine g_iconst (v := 5) dX11_who_37 (by decide) ?_
          refine g_icmp_ge (tgt := 55) dX11_who_38 (by decide) (fun c38 => ?_) (fun c38 => ?_)
          · exact absurd (nI_lt hd9 (by decide)) (Int32.not_lt.mpr c38)
          · skip
            refine g_aload_n dX11_who_41 rfl ?_
            refine t_getR dX11_who_42 fl_X11_63 rfl (by decide) rfl (by decide) rfl ?_
            refine g_iload dX11_who_45 rfl ?_
            refine g_lconst (v := 0) dX11_who_47 (by decide) ?_
            refine t_last dX11_who_48 rfl (by decide) (in_nI hd9 (by decide)) ?_
            refine g_iinc dX11_who_49 rfl (by decide) ?_
            show Go _ _ _ _ _ _ [_, _, _, _, _, _, _, _, _, _, _] _ _ _
            refine g_goto (tgt := 35) dX11_who_52 (by decide) ?_
            rw [nI_inc, cl_nI (by omega)]
            refine kk _ _ ⟨h5.1, h5.2.1.up, fun e he => ?_⟩
            rw [upR_s]
            by_cases e1 : e = d9
            · rw [e1, pk_uLs]; rfl
            · rw [pk_uLn e1]; exact h5.2.2 e (by omega)
        · skip
          refine g_iload dX11_who_35 rfl ?_
          refine g_iconst (v := 5) dX11_who_37 (by decide) ?_
          refine g_icmp_ge (tgt := 55) dX11_who_38 (by decide) (fun c38 => ?_) (fun c38 => ?_)
          · skip
            refine g_lconst (v := 0) dX11_who_55 (by decide) ?_
            refine g_lstore dX11_who_56 (by decide) ?_
            show Go _ _ _ _ _ _ [_, _, _, _, _, _, _, _, _, _, _] _ _ _
            refine g_iconst (v := 0) dX11_who_58 (by decide) ?_
            refine g_istore dX11_who_59 (by decide) ?_
            show Go _ _ _ _ _ _ [_, _, _, _, _, _, _, _, _, _, _] _ _ _
            refine go_memJ (fun c I6 J6 => Fr [63] I I6 ∧ FJ J J6 ∧ ∀ e, e < 5 → J6 65 e = lN (smF (wE P (evO P ds) p e) c)) (5 ^ P.1) (fun c I6 J6 => Go X (d + 6) 66 M_X11_who 66 61 [.ref 48, .int (oI (lkF P (evO P ds) p).1), .int (nI (byF P (evO P ds) p)), .long (lN (lkF P (evO P ds) p).2), .null, .long (lN (smF (fW P (evO P ds)) c)), .null, .int (nI p), .int (nI c), .null, .null] [] (I6, J6, rf0) (RI (fun y9 m => ∃ I' J', m = (I', J', rf0) ∧ FrM I I' ∧ J' 0 = J 0 ∧ y9 = (S_who P ds tl fn).1 ∧ AbsM rw tx P ds sh (S_who P ds tl fn).2.1 ch (S_who P ds tl fn).2.2 I' J'))) (fun c I6 J6 hc h6 kk => ?_) (fun I6 J6 h6 => ?_) _ _ ⟨h5.1, h5.2.1, h5.2.2⟩
            · skip
              refine g_iload dX11_who_61 rfl ?_
              refine g_aload_n dX11_who_63 rfl ?_
              refine g_callVi dX11_who_64 ln_X11_212 ⟨_, rfl⟩ rfl (by decide) ⟨_, _, rfl⟩ rfl (Nat.le_of_ble_eq_true rfl) (Nat.le_of_ble_eq_true rfl) (ct_outs (hP.scr h6.1) hQ) rfl (fun r64 m64 h64 => ?_)
              obtain ⟨rfl, rfl⟩ := h64
              refine g_icmp_ge (tgt := 112) dX11_who_67 (by decide) (fun c67 => ?_) (fun c67 => ?_)
              · exact absurd (nI_lt hc (by omega)) (Int32.not_lt.mpr c67)
              · skip
                refine g_aload_n dX11_who_70 rfl ?_
                refine g_iload dX11_who_71 rfl ?_
                refine g_callVi dX11_who_73 ln_X11_216 ⟨_, rfl⟩ rfl (by decide) ⟨_, _, rfl⟩ rfl (Nat.le_of_ble_eq_true rfl) (Nat.le_of_ble_eq_true rfl) (ct_fitting (s := evO P ds) (c := c) (hP.scr h6.1) hQ (hE.scr h6.1) hR hP2 (by omega)) rfl (fun r73 m73 h73 => ?_)
                obtain ⟨rfl, I3, rfl, hf3, ho3⟩ := h73
                have h93 : Fr [63] I I3 := h6.1.trans hf3
                have hfw := fW_le hQ (evO P ds) c
                refine g_istore dX11_who_76 (by decide) ?_
                show Go _ _ _ _ _ _ [_, _, _, _, _, _, _, _, _, _, _] _ _ _
                refine g_lload dX11_who_78 rfl ?_
                refine g_iload dX11_who_80 rfl ?_
                refine g_i2l dX11_who_82 ?_
                rw [nI_l (by omega)]
                refine g_ladd dX11_who_83 ?_
                rw [lN_add]
                refine g_lstore dX11_who_84 (by decide) ?_
                show Go _ _ _ _ _ _ [_, _, _, _, _, _, _, _, _, _, _] _ _ _
                refine g_aload_n dX11_who_86 rfl ?_
                refine t_getR dX11_who_87 fl_X11_63 rfl (by decide) rfl (by decide) rfl ?_
                refine g_aload_n dX11_who_90 rfl ?_
                refine t_getR dX11_who_91 fl_X11_57 rfl (by decide) rfl (by decide) rfl ?_
                refine g_iload dX11_who_94 rfl ?_
                refine t_iald dX11_who_96 rfl (by decide) (in_nI (by omega) (by decide)) ?_
                rw [cl_nI (by omega), ho3.at h4 hp]
                refine g_iconst (v := 2) dX11_who_97 (by decide) ?_
                refine g_iadd dX11_who_98 ?_
                rw [ixd]
                have hdl := dC_lt c p
                refine g_dup2 dX11_who_99 rfl rfl ?_
                refine t_lald dX11_who_100 rfl (by decide) (in_nI hdl (by decide)) ?_
                rw [cl_nI (by omega), h6.2.2 _ hdl]
                refine g_iload dX11_who_101 rfl ?_
                refine g_i2l dX11_who_103 ?_
                rw [nI_l (by omega)]
                refine g_ladd dX11_who_104 ?_
                rw [lN_add]
                refine t_last dX11_who_105 rfl (by decide) (in_nI hdl (by decide)) ?_
                refine g_iinc dX11_who_106 rfl (by decide) ?_
                show Go _ _ _ _ _ _ [_, _, _, _, _, _, _, _, _, _, _] _ _ _
                refine g_goto (tgt := 61) dX11_who_109 (by decide) ?_
                refine g_forget 9 ?_
                show Go _ _ _ _ _ _ [_, _, _, _, _, _, _, _, _, _, _] _ _ _
                rw [nI_inc, cl_nI (by omega)]
                refine kk _ _ ⟨h93, h6.2.1.up, fun e he => ?_⟩
                rw [upR_s, smF_s]
                by_cases e1 : e = dC c p
                · rw [e1, pk_uLs, show wE P (evO P ds) p (dC c p) c = fW P (evO P ds) c from if_pos rfl]
                · rw [pk_uLn e1, show wE P (evO P ds) p e c = 0 from if_neg (fun q => e1 q.symm)]; exact h6.2.2 e he
            · skip
              refine g_iload dX11_who_61 rfl ?_
              refine g_aload_n dX11_who_63 rfl ?_
              refine g_callVi dX11_who_64 ln_X11_212 ⟨_, rfl⟩ rfl (by decide) ⟨_, _, rfl⟩ rfl (Nat.le_of_ble_eq_true rfl) (Nat.le_of_ble_eq_true rfl) (ct_outs (hP.scr h6.1) hQ) rfl (fun r64 m64 h64 => ?_)
              obtain ⟨rfl, rfl⟩ := h64
              refine g_icmp_ge (tgt := 112) dX11_who_67 (by decide) (fun c67 => ?_) (fun c67 => ?_)
              · skip
                refine g_lload dX11_who_112 rfl ?_
                refine g_aload_n dX11_who_114 rfl ?_
                refine t_getR dX11_who_115 fl_X11_63 rfl (by decide) rfl (by decide) rfl ?_
                refine g_iconst (v := 2) dX11_who_118 (by decide) ?_
                refine t_lald dX11_who_119 rfl (by decide) (in_nI (j := 2) (by decide) (by decide)) ?_
                rw [show (2 : Int32).toNatClampNeg = 2 by decide, h6.2.2 2 (by decide)]
                refine g_lsub dX11_who_120 ?_
                rw [lN_sub (smF_mono (fun _ => wE_le) _), show smF (fW P (evO P ds)) (5 ^ P.1) - smF (wE P (evO P ds) p 2) (5 ^ P.1) = wO P (evO P ds) p from rfl]
                have hlk := lkF_lt hQ (evO P ds) p
                have hwo : wO P (evO P ds) p < 262144 := by unfold wO; omega
                refine g_lstore dX11_who_121 (by decide) ?_
                show Go _ _ _ _ _ _ [_, _, _, _, _, _, _, _, _, _, _] _ _ _
                refine g_lload dX11_who_123 rfl ?_
                refine g_lload_n dX11_who_125 rfl ?_
                refine g_lcmp dX11_who_126 ?_
                refine g_if_le (tgt := 183) dX11_who_127 (by decide) (fun c127 => ?_) (fun c127 => ?_)
                · skip
                  refine g_iinc dX11_who_183 rfl (by decide) ?_
                  show Go _ _ _ _ _ _ [_, _, _, _, _, _, _, _, _, _, _] _ _ _
                  refine g_goto (tgt := 23) dX11_who_186 (by decide) ?_
                  refine g_forget 8 ?_
                  show Go _ _ _ _ _ _ [_, _, _, _, _, _, _, _, _, _, _] _ _ _
                  rw [nI_inc]
                  have kk3 := kk2 I6 J6 ⟨h6.1, h6.2.1⟩
                  rw [if_neg (show ¬ p + 1 = 0 by omega)] at kk3
                  first
                    | (have hno : ¬ (lkF P (evO P ds) p).2 < wO P (evO P ds) p := fun q => absurd ((lN_lt (by omega) (by omega)).mpr q) (Int64.not_lt.mpr ((lg_cmp_le _ _).mp c127))
                       have e1 : (lkF P (evO P ds) (p + 1)) = (lkF P (evO P ds) p) := by rw [lkF_s, if_neg hno]
                       rw [show byF P (evO P ds) (p + 1) = byF P (evO P ds) p by unfold byF; rw [e1], e1] at kk3
                       exact kk3)
                    | (have hyes : (lkF P (evO P ds) p).2 < wO P (evO P ds) p := (lN_lt (by omega) (by omega)).mp (Int64.not_le.mp (fun q => c127 ((lg_cmp_le _ _).mpr q)))
                       have e1 : (lkF P (evO P ds) (p + 1)) = (some p, wO P (evO P ds) p) := by rw [lkF_s, if_pos hyes]
                       rw [show byF P (evO P ds) (p + 1) = loF P (evO P ds) p 5 by unfold byF; rw [e1], e1] at kk3
                       exact kk3)
                    | fail "no way"
                · skip
                  refine g_lload dX11_who_130 rfl ?_
                  refine g_lstore_n dX11_who_132 (by decide) ?_
                  show Go _ _ _ _ _ _ [_, _, _, _, _, _, _, _, _, _, _] _ _ _
                  refine g_iload dX11_who_133 rfl ?_
                  refine g_istore_n dX11_who_135 (by decide) ?_
                  show Go _ _ _ _ _ _ [_, _, _, _, _, _, _, _, _, _, _] _ _ _
                  refine g_iconst (v := 0) dX11_who_136 (by decide) ?_
                  refine g_istore_n dX11_who_137 (by decide) ?_
                  show Go _ _ _ _ _ _ [_, _, _, _, _, _, _, _, _, _, _] _ _ _
                  refine g_iconst (v := 1) dX11_who_138 (by decide) ?_
                  refine g_istore dX11_who_139 (by decide) ?_
                  show Go _ _ _ _ _ _ [_, _, _, _, _, _, _, _, _, _, _] _ _ _
                  rw [show (0 : Int32) = nI (loF P (evO P ds) p (0 + 1)) by rw [loF_1]; rfl]
                  refine go_ix 4 (fun i => Go X (d + 6) 66 M_X11_who 66 141 [.ref 48, .int (nI p), .int (nI (loF P (evO P ds) p (i + 1))), .long (lN (wO P (evO P ds) p)), .null, .long (lN (smF (fW P (evO P ds)) (5 ^ P.1))), .null, .int (nI p), .long (lN (wO P (evO P ds) p)), .null, .int (nI (i + 1))] [] (I6, J6, rf0) (RI (fun y9 m => ∃ I' J', m = (I', J', rf0) ∧ FrM I I' ∧ J' 0 = J 0 ∧ y9 = (S_who P ds tl fn).1 ∧ AbsM rw tx P ds sh (S_who P ds tl fn).2.1 ch (S_who P ds tl fn).2.2 I' J'))) (fun i hi kk => ?_) ?_
                  · have hlo := loF_lt P (evO P ds) p (i + 1) (by omega)
                    have ha9 := wAt_lt hQ (evO P ds) p (i + 1)
                    have hb9 := wAt_lt hQ (evO P ds) p (loF P (evO P ds) p (i + 1))
                    refine g_iload dX11_who_141 rfl ?_
                    refine g_iconst (v := 5) dX11_who_143 (by decide) ?_
                    refine g_icmp_ge (tgt := 183) dX11_who_144 (by decide) (fun c144 => ?_) (fun c144 => ?_)
                    · exact absurd (nI_lt (show i + 1 < 5 by omega) (by decide)) (Int32.not_lt.mpr c144)
                    · skip
                      refine g_iload dX11_who_147 rfl ?_
                      refine g_iconst (v := 2) dX11_who_149 (by decide) ?_
                      refine g_icmp_eq (tgt := 175) dX11_who_150 (by decide) (fun c150 => ?_) (fun c150 => ?_)
                      · skip
                        refine g_iload_n dX11_who_175 rfl ?_
                        refine g_istore_n dX11_who_176 (by decide) ?_
                        show Go _ _ _ _ _ _ [_, _, _, _, _, _, _, _, _, _, _] _ _ _
                        refine g_iinc dX11_who_177 rfl (by decide) ?_
                        show Go _ _ _ _ _ _ [_, _, _, _, _, _, _, _, _, _, _] _ _ _
                        refine g_goto (tgt := 141) dX11_who_180 (by decide) ?_
                        rw [nI_inc]
                        rw [loF_s] at kk
                        first
                          | (have h0 : i + 1 = 2 := (nI_eq (by omega) (by decide)).mp (show nI (i + 1) = nI 2 from c150)
                             rw [if_neg (fun q => q.1 h0)] at kk
                             exact kk)
                          | (have h0 : ¬ smF (wE P (evO P ds) p (loF P (evO P ds) p (i + 1))) (5 ^ P.1) < smF (wE P (evO P ds) p (i + 1)) (5 ^ P.1) := fun q => absurd ((lN_lt (by omega) (by omega)).mpr q) (Int64.not_lt.mpr ((lg_cmp_le _ _).mp c167))
                             rw [if_neg (fun q => h0 q.2)] at kk
                             exact kk)
                          | (have h0 : smF (wE P (evO P ds) p (loF P (evO P ds) p (i + 1))) (5 ^ P.1) < smF (wE P (evO P ds) p (i + 1)) (5 ^ P.1) := (lN_lt (by omega) (by omega)).mp (Int64.not_le.mp (fun q => c167 ((lg_cmp_le _ _).mpr q)))
                             rw [if_pos ⟨fun q => c150 (by rw [q]; rfl), h0⟩] at kk
                             exact kk)
                          | fail "no way"
                      · skip
                        refine g_aload_n dX11_who_153 rfl ?_
                        refine t_getR dX11_who_154 fl_X11_63 rfl (by decide) rfl (by decide) rfl ?_
                        refine g_iload dX11_who_157 rfl ?_
                        refine t_lald dX11_who_159 rfl (by decide) (in_nI (by omega) (by decide)) ?_
                        rw [cl_nI (by omega), h6.2.2 _ (by omega)]
                        refine g_aload_n dX11_who_160 rfl ?_
                        refine t_getR dX11_who_161 fl_X11_63 rfl (by decide) rfl (by decide) rfl ?_
                        refine g_iload_n dX11_who_164 rfl ?_
                        refine t_lald dX11_who_165 rfl (by decide) (in_nI hlo (by decide)) ?_
                        rw [cl_nI (by omega), h6.2.2 _ hlo]
                        refine g_lcmp dX11_who_166 ?_
                        refine g_if_le (tgt := 175) dX11_who_167 (by decide) (fun c167 => ?_) (fun c167 => ?_)
                        · skip
                          refine g_iload_n dX11_who_175 rfl ?_
                          refine g_istore_n dX11_who_176 (by decide) ?_
                          show Go _ _ _ _ _ _ [_, _, _, _, _, _, _, _, _, _, _] _ _ _
                          refine g_iinc dX11_who_177 rfl (by decide) ?_
                          show Go _ _ _ _ _ _ [_, _, _, _, _, _, _, _, _, _, _] _ _ _
                          refine g_goto (tgt := 141) dX11_who_180 (by decide) ?_
                          rw [nI_inc]
                          rw [loF_s] at kk
                          first
                            | (have h0 : i + 1 = 2 := (nI_eq (by omega) (by decide)).mp (show nI (i + 1) = nI 2 from c150)
                               rw [if_neg (fun q => q.1 h0)] at kk
                               exact kk)
                            | (have h0 : ¬ smF (wE P (evO P ds) p (loF P (evO P ds) p (i + 1))) (5 ^ P.1) < smF (wE P (evO P ds) p (i + 1)) (5 ^ P.1) := fun q => absurd ((lN_lt (by omega) (by omega)).mpr q) (Int64.not_lt.mpr ((lg_cmp_le _ _).mp c167))
                               rw [if_neg (fun q => h0 q.2)] at kk
                               exact kk)
                            | (have h0 : smF (wE P (evO P ds) p (loF P (evO P ds) p (i + 1))) (5 ^ P.1) < smF (wE P (evO P ds) p (i + 1)) (5 ^ P.1) := (lN_lt (by omega) (by omega)).mp (Int64.not_le.mp (fun q => c167 ((lg_cmp_le _ _).mpr q)))
                               rw [if_pos ⟨fun q => c150 (by rw [q]; rfl), h0⟩] at kk
                               exact kk)
                            | fail "no way"
                        · skip
                          refine g_iload dX11_who_170 rfl ?_
                          refine g_goto (tgt := 176) dX11_who_172 (by decide) ?_
                          refine g_istore_n dX11_who_176 (by decide) ?_
                          show Go _ _ _ _ _ _ [_, _, _, _, _, _, _, _, _, _, _] _ _ _
                          refine g_iinc dX11_who_177 rfl (by decide) ?_
                          show Go _ _ _ _ _ _ [_, _, _, _, _, _, _, _, _, _, _] _ _ _
                          refine g_goto (tgt := 141) dX11_who_180 (by decide) ?_
                          rw [nI_inc]
                          rw [loF_s] at kk
                          first
                            | (have h0 : i + 1 = 2 := (nI_eq (by omega) (by decide)).mp (show nI (i + 1) = nI 2 from c150)
                               rw [if_neg (fun q => q.1 h0)] at kk
                               exact kk)
                            | (have h0 : ¬ smF (wE P (evO P ds) p (loF P (evO P ds) p (i + 1))) (5 ^ P.1) < smF (wE P (evO P ds) p (i + 1)) (5 ^ P.1) := fun q => absurd ((lN_lt (by omega) (by omega)).mpr q) (Int64.not_lt.mpr ((lg_cmp_le _ _).mp c167))
                               rw [if_neg (fun q => h0 q.2)] at kk
                               exact kk)
                            | (have h0 : smF (wE P (evO P ds) p (loF P (evO P ds) p (i + 1))) (5 ^ P.1) < smF (wE P (evO P ds) p (i + 1)) (5 ^ P.1) := (lN_lt (by omega) (by omega)).mp (Int64.not_le.mp (fun q => c167 ((lg_cmp_le _ _).mpr q)))
                               rw [if_pos ⟨fun q => c150 (by rw [q]; rfl), h0⟩] at kk
                               exact kk)
                            | fail "no way"
                  · skip
                    refine g_iload dX11_who_141 rfl ?_
                    refine g_iconst (v := 5) dX11_who_143 (by decide) ?_
                    refine g_icmp_ge (tgt := 183) dX11_who_144 (by decide) (fun c144 => ?_) (fun c144 => ?_)
                    · skip
                      refine g_iinc dX11_who_183 rfl (by decide) ?_
                      show Go _ _ _ _ _ _ [_, _, _, _, _, _, _, _, _, _, _] _ _ _
                      refine g_goto (tgt := 23) dX11_who_186 (by decide) ?_
                      refine g_forget 8 ?_
                      refine g_forget 10 ?_
                      show Go _ _ _ _ _ _ [_, _, _, _, _, _, _, _, _, _, _] _ _ _
                      rw [nI_inc]
                      have kk3 := kk2 I6 J6 ⟨h6.1, h6.2.1⟩
                      rw [if_neg (show ¬ p + 1 = 0 by omega)] at kk3
                      first
                        | (have hno : ¬ (lkF P (evO P ds) p).2 < wO P (evO P ds) p := fun q => absurd ((lN_lt (by omega) (by omega)).mpr q) (Int64.not_lt.mpr ((lg_cmp_le _ _).mp c127))
                           have e1 : (lkF P (evO P ds) (p + 1)) = (lkF P (evO P ds) p) := by rw [lkF_s, if_neg hno]
                           rw [show byF P (evO P ds) (p + 1) = byF P (evO P ds) p by unfold byF; rw [e1], e1] at kk3
                           exact kk3)
                        | (have hyes : (lkF P (evO P ds) p).2 < wO P (evO P ds) p := (lN_lt (by omega) (by omega)).mp (Int64.not_le.mp (fun q => c127 ((lg_cmp_le _ _).mpr q)))
                           have e1 : (lkF P (evO P ds) (p + 1)) = (some p, wO P (evO P ds) p) := by rw [lkF_s, if_pos hyes]
                           rw [show byF P (evO P ds) (p + 1) = loF P (evO P ds) p 5 by unfold byF; rw [e1], e1] at kk3
                           exact kk3)
                        | fail "no way"
                    · exact absurd (Int32.le_refl _) c144
              · exact absurd (Int32.le_refl _) c67
          · exact absurd (Int32.le_refl _) c38
    · skip
      refine g_iload dX11_who_23 rfl ?_
      refine g_aload_n dX11_who_25 rfl ?_
      refine t_getI dX11_who_26 fl_X11_116 rfl (by decide) rfl (by decide) ?_
      rw [h8.1 48 (by decide), hP.1]
      refine g_icmp_ge (tgt := 189) dX11_who_29 (by decide) (fun c29 => ?_) (fun c29 => ?_)
      · skip
        rw [if_neg (show ¬ P.1 = 0 by omega)]
        refine g_lload dX11_who_189 rfl ?_
        refine g_lconst (v := 0) dX11_who_191 (by decide) ?_
        refine g_lcmp dX11_who_192 ?_
        refine g_if_ne (tgt := 202) dX11_who_193 (by decide) (fun c193 => ?_) (fun c193 => ?_)
        · skip
          refine g_iload_n dX11_who_202 rfl ?_
          refine g_if_ge (tgt := 211) dX11_who_203 (by decide) (fun c203 => ?_) (fun c203 => ?_)
          · skip
            refine g_aload_n dX11_who_211 rfl ?_
            refine g_iload_n dX11_who_212 rfl ?_
            refine g_iload_n dX11_who_213 rfl ?_
            refine g_callVi dX11_who_214 ln_X11_84 ⟨_, rfl⟩ rfl (by decide) ⟨_, _, rfl⟩ rfl (Nat.le_of_ble_eq_true rfl) (Nat.le_of_ble_eq_true rfl) ct_asks rfl (fun r214 m214 h214 => ?_)
            obtain ⟨rfl, rfl⟩ := h214
            refine g_iret dX11_who_217 (fun ty h => by cases h; rfl) ?_
            have hz : ¬ cntP (ftB P (evO P ds)) (5 ^ P.1) = 0 := fun q => c193 ((lg_cmp_eq _ _).mpr (by rw [(sm_cnt (f := fW P (evO P ds)) (fun i => fW_pos)).mpr q]; rfl))
            cases hh : (lkF P (evO P ds) P.1).1 with
            | none =>
              have hS : S_who P ds tl fn = (-9, tl, fn) := by unfold S_who; rw [if_neg (show ¬ P.2.1 = 0 from fun q => c4 (by rw [q]; rfl)), if_neg hz, hh]
              rw [hh] at c203
              first
                | exact absurd c203 (by decide)
                | (exact ⟨_, _, rfl, FrM.of h8.1 (by decide), (h8.2 0 (by decide)), by rw [hS], by rw [hS]; exact (hA.s63 h8.1).fj h8.2⟩)
                | fail "no way"
            | some q =>
              have hq9 := lkF_in hh
              have hS : S_who P ds tl fn = (nI q, nI (loF P (evO P ds) q 5), fn) := by unfold S_who; rw [if_neg (show ¬ P.2.1 = 0 from fun q => c4 (by rw [q]; rfl)), if_neg hz, hh]
              rw [hh] at c203
              first
                | exact absurd (nI_pos' (show q < 2 ^ 31 by omega)) c203
                | (rw [show byF P (evO P ds) P.1 = loF P (evO P ds) q 5 by unfold byF; rw [hh]]
                   exact ⟨_, _, rfl, (FrM.of h8.1 (by decide)).up (by decide), (h8.2 0 (by decide)), (by rw [hS]; rfl), by rw [hS]; exact ((hA.s63 h8.1).fj h8.2).told⟩)
                | fail "no way"
          · skip
            refine g_bipush (v := -9) dX11_who_206 (by decide) ?_
            refine g_goto (tgt := 217) dX11_who_208 (by decide) ?_
            refine g_iret dX11_who_217 (fun ty h => by cases h; rfl) ?_
            have hz : ¬ cntP (ftB P (evO P ds)) (5 ^ P.1) = 0 := fun q => c193 ((lg_cmp_eq _ _).mpr (by rw [(sm_cnt (f := fW P (evO P ds)) (fun i => fW_pos)).mpr q]; rfl))
            cases hh : (lkF P (evO P ds) P.1).1 with
            | none =>
              have hS : S_who P ds tl fn = (-9, tl, fn) := by unfold S_who; rw [if_neg (show ¬ P.2.1 = 0 from fun q => c4 (by rw [q]; rfl)), if_neg hz, hh]
              rw [hh] at c203
              first
                | exact absurd c203 (by decide)
                | (exact ⟨_, _, rfl, FrM.of h8.1 (by decide), (h8.2 0 (by decide)), by rw [hS], by rw [hS]; exact (hA.s63 h8.1).fj h8.2⟩)
                | fail "no way"
            | some q =>
              have hq9 := lkF_in hh
              have hS : S_who P ds tl fn = (nI q, nI (loF P (evO P ds) q 5), fn) := by unfold S_who; rw [if_neg (show ¬ P.2.1 = 0 from fun q => c4 (by rw [q]; rfl)), if_neg hz, hh]
              rw [hh] at c203
              first
                | exact absurd (nI_pos' (show q < 2 ^ 31 by omega)) c203
                | (rw [show byF P (evO P ds) P.1 = loF P (evO P ds) q 5 by unfold byF; rw [hh]]
                   exact ⟨_, _, rfl, (FrM.of h8.1 (by decide)).up (by decide), (h8.2 0 (by decide)), (by rw [hS]; rfl), by rw [hS]; exact ((hA.s63 h8.1).fj h8.2).told⟩)
                | fail "no way"
        · skip
          refine g_aload_n dX11_who_196 rfl ?_
          refine g_iconst (v := 4) dX11_who_197 (by decide) ?_
          refine g_callVi dX11_who_198 ln_X11_80 ⟨_, rfl⟩ rfl (by decide) ⟨_, _, rfl⟩ rfl (Nat.le_of_ble_eq_true rfl) (Nat.le_of_ble_eq_true rfl) (ct_finds (w := 4) (by decide)) rfl (fun r198 m198 h198 => ?_)
          obtain ⟨rfl, rfl⟩ := h198
          refine g_iret dX11_who_201 (fun ty h => by cases h; rfl) ?_
          have hz : smF (fW P (evO P ds)) (5 ^ P.1) = 0 := (lN_eq (by omega) (by decide)).mp (show lN (smF (fW P (evO P ds)) (5 ^ P.1)) = lN 0 from (lg_cmp_eq _ _).mp c193)
          have hS : S_who P ds tl fn = (-3, tl, fndS 4 fn) := by unfold S_who; rw [if_neg (show ¬ P.2.1 = 0 from fun q => c4 (by rw [q]; rfl)), if_pos ((sm_cnt (fun i => fW_pos)).mp hz)]
          exact ⟨_, _, rfl, (FrM.of h8.1 (by decide)).tr FrM.find, (h8.2 0 (by decide)), by rw [hS], by rw [hS]; exact ((hA.s63 h8.1).fj h8.2).find (by decide)⟩
      · exact absurd (Int32.le_refl _) c29
  · skip
    refine g_bipush (v := -4) dX11_who_7 (by decide) ?_
    refine g_iret dX11_who_9 (fun ty h => by cases h; rfl) ?_
    have h0 : P.2.1 = 0 := (nI_eq (by omega) (by decide)).mp (show nI P.2.1 = nI 0 from c4)
    have hS : S_who P ds tl fn = (-4, tl, fn) := by unfold S_who; rw [if_pos h0]
    exact ⟨I, J, rfl, FrM.rf, rfl, by rw [hS], by rw [hS]; exact hA⟩
def slO (p fr : Nat) (z : Int) (j : Nat) : Nat → Int := upR (fun _ => 0) p (if j < fr then 0 else z)
def slB (P : Pce) (s : Evs) (p fr : Nat) (z : Int) (n : Nat) : Bool := decide (∀ j, j < n → hrS P (slO p fr z j) (s.2.1 + j) = s.2.2.2 (s.2.1 + j))
theorem up00 {p : Nat} : upR (fun _ => 0 : Nat → Int) p 0 = fun _ => 0 := funext fun q => by
  by_cases e : q = p
  · rw [e, upR_s]
  · rw [upR_n e]
theorem slB_bg {P : Pce} {s : Evs} {p fr : Nat} {z : Int} (h : s.2.1 ≤ s.1) (hf : fr ≤ s.1 - s.2.1) : slB P s p fr z (s.1 - s.2.1) = bgB P s (s.2.1 + fr) p z := by
  have key : slB P s p fr z (s.1 - s.2.1) = true ↔ bgB P s (s.2.1 + fr) p z = true := by
    unfold slB bgB agB
    rw [Bool.and_eq_true, decide_eq_true_iff, decide_eq_true_iff, decide_eq_true_iff]
    constructor
    · intro q
      refine ⟨fun x h1 h2 => ?_, fun x h1 h2 => ?_⟩
      · have := q (x - s.2.1) (by omega)
        unfold slO at this
        rw [if_pos (by omega), up00, show s.2.1 + (x - s.2.1) = x by omega] at this
        exact this
      · have := q (x - s.2.1) (by omega)
        unfold slO at this
        rw [if_neg (by omega), show s.2.1 + (x - s.2.1) = x by omega] at this
        exact this
    · intro q j hj
      unfold slO
      by_cases e : j < fr
      · rw [if_pos e, up00]; exact q.1 _ (by omega) (by omega)
      · rw [if_neg e]; exact q.2 _ (by omega) (by omega)
  cases h1 : slB P s p fr z (s.1 - s.2.1) <;> cases h2 : bgB P s (s.2.1 + fr) p z <;> simp_all
theorem slB_mono {P : Pce} {s : Evs} {p fr : Nat} {z : Int} {n m : Nat} (h : slB P s p fr z n = false) (hnm : n ≤ m) : slB P s p fr z m = false := bfalse (fun q => by
  have q2 : slB P s p fr z n = true := decide_eq_true (fun j hj => (of_decide_eq_true q) j (by omega))
  rw [q2] at h; cases h)
theorem ct_isSlip {P : Pce} {s : Evs} (hP : PcM P I) (hO : PcOK P) (hE : EsM s I) (hR : EvR s) (hP2 : EvP P s) {p fr : Nat} {z : Int} (hp : p < P.1) (hz : -2 ≤ z ∧ z ≤ 2) (hfr : fr ≤ s.1 - s.2.1) : Ct X (d + 5) 66 M_X11_isSlip 66 [.ref 48, .int (nI p), .int (zI z), .int (nI fr)] (I, J, rf0) (RI (fun y9 m => y9 = bI (bgB P s (s.2.1 + fr) p z) ∧ ∃ I', m = (I', J, rf0) ∧ Fr [63] I I')) := by
  have h4 := hO.1
  have hr14 := hR.1
  have hr2 := hR.2.1
  have hp1 := hP2.1
  show Go _ _ _ _ _ _ [_, _, _, _, _, _] _ _ _
  refine g_iconst (v := 1) dX11_isSlip_0 (by decide) ?_
  refine g_istore dX11_isSlip_1 (by decide) ?_
  show Go _ _ _ _ _ _ [_, _, _, _, _, _] _ _ _
  refine g_iconst (v := 0) dX11_isSlip_3 (by decide) ?_
  refine g_istore dX11_isSlip_4 (by decide) ?_
  show Go _ _ _ _ _ _ [_, _, _, _, _, _] _ _ _
  refine go_mem (fun j I2 => Fr [63] I I2) (s.1 - s.2.1) (fun j I2 => Go X (d + 5) 66 M_X11_isSlip 66 6 [.ref 48, .int (nI p), .int (zI z), .int (nI fr), .int (bI (slB P s p fr z j)), .int (nI j)] [] (I2, J, rf0) (RI (fun y9 m => y9 = bI (bgB P s (s.2.1 + fr) p z) ∧ ∃ I', m = (I', J, rf0) ∧ Fr [63] I I'))) (fun j I2 hj h9 kk => ?_) (fun I2 h9 => ?_) _ Fr.rf
  · skip
    refine g_iload dX11_isSlip_6 rfl ?_
    refine g_aload_n dX11_isSlip_8 rfl ?_
    refine t_getI dX11_isSlip_9 fl_X11_182 rfl (by decide) rfl (by decide) ?_
    rw [h9 48 (by decide), hE.2.2.1]
    refine g_icmp_ge (tgt := 75) dX11_isSlip_12 (by decide) (fun c12 => ?_) (fun c12 => ?_)
    · exact absurd (nI_lt hj (by omega)) (Int32.not_lt.mpr c12)
    · skip
      refine g_iload dX11_isSlip_15 rfl ?_
      refine g_if_eq (tgt := 75) dX11_isSlip_17 (by decide) (fun c17 => ?_) (fun c17 => ?_)
      · skip
        refine g_iload dX11_isSlip_75 rfl ?_
        refine g_iret dX11_isSlip_77 (fun ty h => by cases h; exact bI_narrow _) ?_
        refine ⟨?_, I2, rfl, h9⟩
        first
          | rw [slB_bg hr2 hfr]
          | (rw [bI_eq c17, ← slB_bg hr2 hfr, slB_mono (bI_eq c17) (by omega)])
          | fail "no way"
      · skip
        refine g_aload_n dX11_isSlip_20 rfl ?_
        refine g_callVv dX11_isSlip_21 ln_X11_140 rfl rfl (by decide) ⟨_, _, rfl⟩ rfl (Nat.le_of_ble_eq_true rfl) (Nat.le_of_ble_eq_true rfl) ct_nobody rfl (fun m21 h21 => ?_)
        obtain ⟨g, rfl, hg⟩ := h21
        refine g_aload_n dX11_isSlip_24 rfl ?_
        refine t_getR dX11_isSlip_25 fl_X11_57 rfl (by decide) rfl (by decide) rfl ?_
        refine g_iload_n dX11_isSlip_28 rfl ?_
        refine g_iload dX11_isSlip_29 rfl ?_
        refine g_iload_n dX11_isSlip_31 rfl ?_
        refine g_icmp_ge (tgt := 39) dX11_isSlip_32 (by decide) (fun c32 => ?_) (fun c32 => ?_)
        · skip
          refine g_iload_n dX11_isSlip_39 rfl ?_
          refine t_iast dX11_isSlip_40 rfl (by decide) (in_nI (by omega) (by decide)) ?_
          rw [cl_nI (by omega)]
          refine g_abs (fun I4 => Fr [63] I I4 ∧ OuV 63 (slO p fr z j) I4) (by
            refine ⟨(h9.up (by decide)).up (by decide), fun q hq => ?_⟩
            rw [upR_s]
            unfold slO
            by_cases e : q = p
            · rw [e, pk_us, upR_s]
              first
                | (rw [if_pos ((nI_ltI (by omega) (by omega)).mp (Int32.not_le.mp c32))]; rfl)
                | (rw [if_neg (fun q => absurd (nI_lt q (by omega)) (Int32.not_lt.mpr c32))])
                | fail "no way"
            · rw [pk_un e, upR_s, upR_n e, hg q hq]; rfl) (fun I4 h4b => ?_)
          obtain ⟨h94, ho4⟩ := h4b
          refine g_aload_n dX11_isSlip_41 rfl ?_
          refine g_aload_n dX11_isSlip_42 rfl ?_
          refine t_getI dX11_isSlip_43 fl_X11_179 rfl (by decide) rfl (by decide) ?_
          rw [h94 48 (by decide), hE.2.1]
          refine g_iload dX11_isSlip_46 rfl ?_
          refine g_iadd dX11_isSlip_48 ?_
          rw [nI_add]
          refine g_callVi dX11_isSlip_49 ln_X11_143 ⟨_, rfl⟩ rfl (by decide) ⟨_, _, rfl⟩ rfl (Nat.le_of_ble_eq_true rfl) (Nat.le_of_ble_eq_true rfl) (ct_hears (o := slO p fr z j) (x := s.2.1 + j) (hP.scr h94) hO (by omega) (show OuR (slO p fr z j) from OuR1 (by split <;> omega)) ho4) rfl (fun r49 m49 h49 => ?_)
          obtain ⟨rfl, rfl⟩ := h49
          refine g_aload_n dX11_isSlip_52 rfl ?_
          refine t_getR dX11_isSlip_53 fl_X11_47 rfl (by decide) rfl (by decide) rfl ?_
          refine g_iload dX11_isSlip_56 rfl ?_
          refine t_iald dX11_isSlip_58 rfl (by decide) (in_nI (by omega) (by decide)) ?_
          rw [cl_nI (by omega), (hE.scr h94).2.2.2.2 j hj]
          refine g_icmp_ne (tgt := 66) dX11_isSlip_59 (by decide) (fun c59 => ?_) (fun c59 => ?_)
          · skip
            refine g_iconst (v := 0) dX11_isSlip_66 (by decide) ?_
            refine g_istore dX11_isSlip_67 (by decide) ?_
            show Go _ _ _ _ _ _ [_, _, _, _, _, _] _ _ _
            refine g_iinc dX11_isSlip_69 rfl (by decide) ?_
            show Go _ _ _ _ _ _ [_, _, _, _, _, _] _ _ _
            refine g_goto (tgt := 6) dX11_isSlip_72 (by decide) ?_
            rw [nI_inc]
            have hall := of_decide_eq_true (bI_ne c17)
            have h64 := hrS_lt hO (slO p fr z j) (s.2.1 + j)
            have h65 := hR.2.2.2 (s.2.1 + j)
            first
              | (have hne : ¬ hrS P (slO p fr z j) (s.2.1 + j) = s.2.2.2 (s.2.1 + j) := fun q => c59 (by rw [q])
                 rw [show slB P s p fr z (j + 1) = false from decide_eq_false (fun q => hne (q j (by omega)))] at kk
                 exact kk _ h94)
              | (have heq : hrS P (slO p fr z j) (s.2.1 + j) = s.2.2.2 (s.2.1 + j) := (nI_eq (by omega) (by omega)).mp c59
                 rw [show slB P s p fr z (j + 1) = true from decide_eq_true (fun i hi => by
                   rcases Nat.lt_or_ge i j with q | q
                   · exact hall i q
                   · rw [show i = j by omega]; exact heq)] at kk
                 exact kk _ h94)
              | fail "no way"
          · skip
            refine g_iconst (v := 1) dX11_isSlip_62 (by decide) ?_
            refine g_goto (tgt := 67) dX11_isSlip_63 (by decide) ?_
            refine g_istore dX11_isSlip_67 (by decide) ?_
            show Go _ _ _ _ _ _ [_, _, _, _, _, _] _ _ _
            refine g_iinc dX11_isSlip_69 rfl (by decide) ?_
            show Go _ _ _ _ _ _ [_, _, _, _, _, _] _ _ _
            refine g_goto (tgt := 6) dX11_isSlip_72 (by decide) ?_
            rw [nI_inc]
            have hall := of_decide_eq_true (bI_ne c17)
            have h64 := hrS_lt hO (slO p fr z j) (s.2.1 + j)
            have h65 := hR.2.2.2 (s.2.1 + j)
            first
              | (have hne : ¬ hrS P (slO p fr z j) (s.2.1 + j) = s.2.2.2 (s.2.1 + j) := fun q => c59 (by rw [q])
                 rw [show slB P s p fr z (j + 1) = false from decide_eq_false (fun q => hne (q j (by omega)))] at kk
                 exact kk _ h94)
              | (have heq : hrS P (slO p fr z j) (s.2.1 + j) = s.2.2.2 (s.2.1 + j) := (nI_eq (by omega) (by omega)).mp c59
                 rw [show slB P s p fr z (j + 1) = true from decide_eq_true (fun i hi => by
                   rcases Nat.lt_or_ge i j with q | q
                   · exact hall i q
                   · rw [show i = j by omega]; exact heq)] at kk
                 exact kk _ h94)
              | fail "no way"
        · skip
          refine g_iconst (v := 0) dX11_isSlip_35 (by decide) ?_
          refine g_goto (tgt := 40) dX11_isSlip_36 (by decide) ?_
          refine t_iast dX11_isSlip_40 rfl (by decide) (in_nI (by omega) (by decide)) ?_
          rw [cl_nI (by omega)]
          refine g_abs (fun I4 => Fr [63] I I4 ∧ OuV 63 (slO p fr z j) I4) (by
            refine ⟨(h9.up (by decide)).up (by decide), fun q hq => ?_⟩
            rw [upR_s]
            unfold slO
            by_cases e : q = p
            · rw [e, pk_us, upR_s]
              first
                | (rw [if_pos ((nI_ltI (by omega) (by omega)).mp (Int32.not_le.mp c32))]; rfl)
                | (rw [if_neg (fun q => absurd (nI_lt q (by omega)) (Int32.not_lt.mpr c32))])
                | fail "no way"
            · rw [pk_un e, upR_s, upR_n e, hg q hq]; rfl) (fun I4 h4b => ?_)
          obtain ⟨h94, ho4⟩ := h4b
          refine g_aload_n dX11_isSlip_41 rfl ?_
          refine g_aload_n dX11_isSlip_42 rfl ?_
          refine t_getI dX11_isSlip_43 fl_X11_179 rfl (by decide) rfl (by decide) ?_
          rw [h94 48 (by decide), hE.2.1]
          refine g_iload dX11_isSlip_46 rfl ?_
          refine g_iadd dX11_isSlip_48 ?_
          rw [nI_add]
          refine g_callVi dX11_isSlip_49 ln_X11_143 ⟨_, rfl⟩ rfl (by decide) ⟨_, _, rfl⟩ rfl (Nat.le_of_ble_eq_true rfl) (Nat.le_of_ble_eq_true rfl) (ct_hears (o := slO p fr z j) (x := s.2.1 + j) (hP.scr h94) hO (by omega) (show OuR (slO p fr z j) from OuR1 (by split <;> omega)) ho4) rfl (fun r49 m49 h49 => ?_)
          obtain ⟨rfl, rfl⟩ := h49
          refine g_aload_n dX11_isSlip_52 rfl ?_
          refine t_getR dX11_isSlip_53 fl_X11_47 rfl (by decide) rfl (by decide) rfl ?_
          refine g_iload dX11_isSlip_56 rfl ?_
          refine t_iald dX11_isSlip_58 rfl (by decide) (in_nI (by omega) (by decide)) ?_
          rw [cl_nI (by omega), (hE.scr h94).2.2.2.2 j hj]
          refine g_icmp_ne (tgt := 66) dX11_isSlip_59 (by decide) (fun c59 => ?_) (fun c59 => ?_)
          · skip
            refine g_iconst (v := 0) dX11_isSlip_66 (by decide) ?_
            refine g_istore dX11_isSlip_67 (by decide) ?_
            show Go _ _ _ _ _ _ [_, _, _, _, _, _] _ _ _
            refine g_iinc dX11_isSlip_69 rfl (by decide) ?_
            show Go _ _ _ _ _ _ [_, _, _, _, _, _] _ _ _
            refine g_goto (tgt := 6) dX11_isSlip_72 (by decide) ?_
            rw [nI_inc]
            have hall := of_decide_eq_true (bI_ne c17)
            have h64 := hrS_lt hO (slO p fr z j) (s.2.1 + j)
            have h65 := hR.2.2.2 (s.2.1 + j)
            first
              | (have hne : ¬ hrS P (slO p fr z j) (s.2.1 + j) = s.2.2.2 (s.2.1 + j) := fun q => c59 (by rw [q])
                 rw [show slB P s p fr z (j + 1) = false from decide_eq_false (fun q => hne (q j (by omega)))] at kk
                 exact kk _ h94)
              | (have heq : hrS P (slO p fr z j) (s.2.1 + j) = s.2.2.2 (s.2.1 + j) := (nI_eq (by omega) (by omega)).mp c59
                 rw [show slB P s p fr z (j + 1) = true from decide_eq_true (fun i hi => by
                   rcases Nat.lt_or_ge i j with q | q
                   · exact hall i q
                   · rw [show i = j by omega]; exact heq)] at kk
                 exact kk _ h94)
              | fail "no way"
          · skip
            refine g_iconst (v := 1) dX11_isSlip_62 (by decide) ?_
            refine g_goto (tgt := 67) dX11_isSlip_63 (by decide) ?_
            refine g_istore dX11_isSlip_67 (by decide) ?_
            show Go _ _ _ _ _ _ [_, _, _, _, _, _] _ _ _
            refine g_iinc dX11_isSlip_69 rfl (by decide) ?_
            show Go _ _ _ _ _ _ [_, _, _, _, _, _] _ _ _
            refine g_goto (tgt := 6) dX11_isSlip_72 (by decide) ?_
            rw [nI_inc]
            have hall := of_decide_eq_true (bI_ne c17)
            have h64 := hrS_lt hO (slO p fr z j) (s.2.1 + j)
            have h65 := hR.2.2.2 (s.2.1 + j)
            first
              | (have hne : ¬ hrS P (slO p fr z j) (s.2.1 + j) = s.2.2.2 (s.2.1 + j) := fun q => c59 (by rw [q])
                 rw [show slB P s p fr z (j + 1) = false from decide_eq_false (fun q => hne (q j (by omega)))] at kk
                 exact kk _ h94)
              | (have heq : hrS P (slO p fr z j) (s.2.1 + j) = s.2.2.2 (s.2.1 + j) := (nI_eq (by omega) (by omega)).mp c59
                 rw [show slB P s p fr z (j + 1) = true from decide_eq_true (fun i hi => by
                   rcases Nat.lt_or_ge i j with q | q
                   · exact hall i q
                   · rw [show i = j by omega]; exact heq)] at kk
                 exact kk _ h94)
              | fail "no way"
  · skip
    refine g_iload dX11_isSlip_6 rfl ?_
    refine g_aload_n dX11_isSlip_8 rfl ?_
    refine t_getI dX11_isSlip_9 fl_X11_182 rfl (by decide) rfl (by decide) ?_
    rw [h9 48 (by decide), hE.2.2.1]
    refine g_icmp_ge (tgt := 75) dX11_isSlip_12 (by decide) (fun c12 => ?_) (fun c12 => ?_)
    · skip
      refine g_iload dX11_isSlip_75 rfl ?_
      refine g_iret dX11_isSlip_77 (fun ty h => by cases h; exact bI_narrow _) ?_
      refine ⟨?_, I2, rfl, h9⟩
      first
        | rw [slB_bg hr2 hfr]
        | (rw [bI_eq c17, ← slB_bg hr2 hfr, slB_mono (bI_eq c17) (by omega)])
        | fail "no way"
    · exact absurd (Int32.le_refl _) c12
theorem smF_comm (f : Nat → Nat → Nat) (m : Nat) : ∀ n, smF (fun a => smF (fun b => f a b) m) n = smF (fun b => smF (fun a => f a b) n) m
  | 0 => (smF_zero (fun _ _ => rfl)).symm
  | n + 1 => by
    rw [smF_s, smF_comm f m n, smF_add]
    rfl
def bgI (P : Pce) (s : Evs) (p j i : Nat) : Bool := bgB P s (s.2.1 + i) p (2 * (j : Int) - 1)
def mI (P : Pce) (s : Evs) (p j n : Nat) : Nat := smF (fun i => b2 (bgI P s p j i)) n
def mJ (P : Pce) (s : Evs) (p j : Nat) : Nat := smF (fun j => mI P s p j (s.1 - s.2.1)) j
def mP (P : Pce) (s : Evs) (p : Nat) : Nat := smF (fun p => mJ P s p 2) p
def eI (P : Pce) (s : Evs) (p j n a : Nat) : Nat := foldN (fun i a => if bgI P s p j i then a ||| 2 ^ (s.2.1 + i) else a) a n
def eJ (P : Pce) (s : Evs) (p j a : Nat) : Nat := foldN (fun j a => eI P s p j (s.1 - s.2.1) a) a j
def eP (P : Pce) (s : Evs) (p : Nat) : Nat := foldN (fun p a => eJ P s p 2 a) 0 p
theorem mP_wy (P : Pce) (s : Evs) : mP P s P.1 = wyN P s (s.1 - s.2.1) := by
  unfold mP mJ mI wyN heN hzN bgI
  rw [smF_comm (fun i p => smF (fun j => b2 (bgB P s (s.2.1 + i) p (2 * (j : Int) - 1))) 2) P.1 (s.1 - s.2.1)]
  refine smF_congr (fun p _ => ?_)
  rw [smF_comm (fun i j => b2 (bgB P s (s.2.1 + i) p (2 * (j : Int) - 1))) 2 (s.1 - s.2.1)]
theorem or_bit {b : Nat → Bool} {k a t : Nat} : ∀ {n : Nat}, (foldN (fun i a => if b i then a ||| 2 ^ (k + i) else a) a n).testBit t = true ↔ a.testBit t = true ∨ ∃ i, i < n ∧ b i = true ∧ k + i = t
  | 0 => ⟨fun h => Or.inl h, fun h => h.elim id (fun ⟨i, hi, _⟩ => absurd hi (Nat.not_lt_zero i))⟩
  | n + 1 => by
    have ih := or_bit (b := b) (k := k) (a := a) (t := t) (n := n)
    show (if b n then (foldN (fun i a => if b i then a ||| 2 ^ (k + i) else a) a n) ||| 2 ^ (k + n) else foldN (fun i a => if b i then a ||| 2 ^ (k + i) else a) a n).testBit t = true ↔ _
    cases hb : b n with
    | true =>
      rw [if_pos rfl, Nat.testBit_or, Bool.or_eq_true, ih, Nat.testBit_two_pow, decide_eq_true_iff]
      constructor
      · rintro ((h | ⟨i, h1, h2, h3⟩) | h)
        · exact Or.inl h
        · exact Or.inr ⟨i, by omega, h2, h3⟩
        · exact Or.inr ⟨n, by omega, hb, h⟩
      · rintro (h | ⟨i, h1, h2, h3⟩)
        · exact Or.inl (Or.inl h)
        · rcases Nat.lt_or_ge i n with q | q
          · exact Or.inl (Or.inr ⟨i, q, h2, h3⟩)
          · rw [show i = n by omega] at h3; exact Or.inr h3
    | false =>
      rw [if_neg (by decide), ih]
      constructor
      · rintro (h | ⟨i, h1, h2, h3⟩)
        · exact Or.inl h
        · exact Or.inr ⟨i, by omega, h2, h3⟩
      · rintro (h | ⟨i, h1, h2, h3⟩)
        · exact Or.inl h
        · rcases Nat.lt_or_ge i n with q | q
          · exact Or.inr ⟨i, q, h2, h3⟩
          · rw [show i = n by omega, hb] at h2; cases h2
theorem fold_bit {f : Nat → Nat → Nat} {B : Nat → Prop} {a t : Nat} (h : ∀ i c, (f i c).testBit t = true ↔ c.testBit t = true ∨ B i) : ∀ {n : Nat}, (foldN f a n).testBit t = true ↔ a.testBit t = true ∨ ∃ i, i < n ∧ B i
  | 0 => ⟨fun h => Or.inl h, fun h => h.elim id (fun ⟨i, hi, _⟩ => absurd hi (Nat.not_lt_zero i))⟩
  | n + 1 => by
    have ih := fold_bit (f := f) (a := a) h (n := n)
    show (f n (foldN f a n)).testBit t = true ↔ _
    rw [h, ih]
    constructor
    · rintro ((h | ⟨i, h1, h2⟩) | h)
      · exact Or.inl h
      · exact Or.inr ⟨i, by omega, h2⟩
      · exact Or.inr ⟨n, by omega, h⟩
    · rintro (h | ⟨i, h1, h2⟩)
      · exact Or.inl (Or.inl h)
      · rcases Nat.lt_or_ge i n with q | q
        · exact Or.inl (Or.inr ⟨i, q, h2⟩)
        · rw [show i = n by omega] at h2; exact Or.inr h2
theorem smF_iff {f : Nat → Nat} : ∀ {n : Nat}, 0 < smF f n ↔ ∃ i, i < n ∧ 0 < f i := by
  intro n
  constructor
  · intro h
    refine Classical.byContradiction (fun q => ?_)
    have := smF_zero (g := f) (n := n) (fun i hi => by
      rcases Nat.eq_zero_or_pos (f i) with e | e
      · exact e
      · exact absurd ⟨i, hi, e⟩ q)
    omega
  · rintro ⟨i, hi, h⟩
    exact smF_pos h hi
theorem b2_pos {b : Bool} : 0 < b2 b ↔ b = true := by
  cases b with
  | true => exact ⟨fun _ => rfl, fun _ => (by show (0 : Nat) < 1; decide)⟩
  | false => exact ⟨fun q => absurd q (by show ¬ (0 : Nat) < 0; decide), fun q => (by cases q)⟩
theorem eP_bs (P : Pce) (s : Evs) : eP P s P.1 = bsN P s (s.1 - s.2.1) := by
  refine Nat.eq_of_testBit_eq (fun t => ?_)
  have h1 : (eP P s P.1).testBit t = true ↔ (0 : Nat).testBit t = true ∨ ∃ p, p < P.1 ∧ ∃ j, j < 2 ∧ ∃ i, i < s.1 - s.2.1 ∧ bgI P s p j i = true ∧ s.2.1 + i = t :=
    fold_bit (fun p c => fold_bit (fun j c => or_bit))
  have h2 : (bsN P s (s.1 - s.2.1)).testBit t = true ↔ (0 : Nat).testBit t = true ∨ ∃ i, i < s.1 - s.2.1 ∧ decide (0 < heN P s (s.2.1 + i) P.1) = true ∧ s.2.1 + i = t := by
    have := or_bit (b := fun i => decide (0 < heN P s (s.2.1 + i) P.1)) (k := s.2.1) (a := 0) (t := t) (n := s.1 - s.2.1)
    rw [← this]
    unfold bsN
    refine iff_of_eq (congrArg (fun z => Nat.testBit z t = true) (foldN_congr (fun i _ a => ?_)))
    by_cases e : 0 < heN P s (s.2.1 + i) P.1
    · rw [if_pos e, decide_eq_true e]; rfl
    · rw [if_neg e, decide_eq_false e]; rfl
  have h3 : (eP P s P.1).testBit t = true ↔ (bsN P s (s.1 - s.2.1)).testBit t = true := by
    rw [h1, h2]
    refine or_congr Iff.rfl ?_
    constructor
    · rintro ⟨p, hp, j, hj, i, hi, hb, ht⟩
      refine ⟨i, hi, decide_eq_true ?_, ht⟩
      exact smF_iff.mpr ⟨p, hp, smF_iff.mpr ⟨j, hj, b2_pos.mpr hb⟩⟩
    · rintro ⟨i, hi, hb, ht⟩
      obtain ⟨p, hp, hq⟩ := smF_iff.mp (of_decide_eq_true hb)
      obtain ⟨j, hj, hq2⟩ := smF_iff.mp hq
      exact ⟨p, hp, j, hj, i, hi, b2_pos.mp hq2, ht⟩
  cases e1 : (eP P s P.1).testBit t <;> cases e2 : (bsN P s (s.1 - s.2.1)).testBit t <;> simp_all
theorem pm_began {rw tx : Tab} {P : Pce} {ds : List Deed} {sh : Shf} {tl : Int32} {ch : Int64 × Int64} {fn : Fnd} (hA : AbsM rw tx P ds sh tl ch fn I J) (hO : StOK rw tx P ds sh) : Ct X (d + 6) 66 M_X11_began 66 [.ref 48] (I, J, rf0) (RI (fun y9 m => ∃ I', m = (I', J, rf0) ∧ FrM I I' ∧ y9 = (S_began P ds tl).1 ∧ AbsM rw tx P ds sh (S_began P ds tl).2 ch fn I' J)) := by
  have hP := hA.2.2.1
  have hQ := hO.2.2.1
  have h14 := hQ.2.1
  have h4 := hQ.1
  have hEv := hA.2.2.2.1
  have hD := hO.2.2.2.1
  have hE := hEv.2.2
  have hR : EvR (evO P ds) := EvR.e.run hQ hD.2
  have hP2 : EvP P (evO P ds) := EvP.e.run hD.2
  have h625 := p5 h4
  have htot := tot_lt hQ (evO P ds)
  have hr14 := hR.1
  have hr2 := hR.2.1
  show Go _ _ _ _ _ _ [_, _, _, _, _, _] _ _ _
  refine g_aload_n dX11_began_0 rfl ?_
  refine t_getI dX11_began_1 fl_X11_119 rfl (by decide) rfl (by decide) ?_
  rw [hP.2.1]
  refine g_if_ne (tgt := 10) dX11_began_4 (by decide) (fun c4 => ?_) (fun c4 => ?_)
  · skip
    refine g_iconst (v := 0) dX11_began_10 (by decide) ?_
    refine g_istore_n dX11_began_11 (by decide) ?_
    show Go _ _ _ _ _ _ [_, _, _, _, _, _] _ _ _
    refine g_iconst (v := 0) dX11_began_12 (by decide) ?_
    refine g_istore_n dX11_began_13 (by decide) ?_
    show Go _ _ _ _ _ _ [_, _, _, _, _, _] _ _ _
    refine g_iconst (v := 0) dX11_began_14 (by decide) ?_
    refine g_istore_n dX11_began_15 (by decide) ?_
    show Go _ _ _ _ _ _ [_, _, _, _, _, _] _ _ _
    refine go_mem (fun p I2 => Fr [63] I I2) P.1 (fun p I2 => Go X (d + 6) 66 M_X11_began 66 16 [.ref 48, .int (nI (mP P (evO P ds) p)), .int (nI (eP P (evO P ds) p)), .int (nI p), .null, .null] [] (I2, J, rf0) (RI (fun y9 m => ∃ I', m = (I', J, rf0) ∧ FrM I I' ∧ y9 = (S_began P ds tl).1 ∧ AbsM rw tx P ds sh (S_began P ds tl).2 ch fn I' J))) (fun p I2 hp h9 kk => ?_) (fun I2 h9 => ?_) _ Fr.rf
    · skip
      refine g_iload_n dX11_began_16 rfl ?_
      refine g_aload_n dX11_began_17 rfl ?_
      refine t_getI dX11_began_18 fl_X11_116 rfl (by decide) rfl (by decide) ?_
      rw [h9 48 (by decide), hP.1]
      refine g_icmp_ge (tgt := 90) dX11_began_21 (by decide) (fun c21 => ?_) (fun c21 => ?_)
      · exact absurd (nI_lt hp (by omega)) (Int32.not_lt.mpr c21)
      · skip
        refine g_iconst (v := -1) dX11_began_24 (by decide) ?_
        refine g_istore dX11_began_25 (by decide) ?_
        show Go _ _ _ _ _ _ [_, _, _, _, _, _] _ _ _
        refine go_mem (fun j I3 => Fr [63] I I3) 2 (fun j I3 => Go X (d + 6) 66 M_X11_began 66 27 [.ref 48, .int (nI (mP P (evO P ds) p + mJ P (evO P ds) p j)), .int (nI (eJ P (evO P ds) p j (eP P (evO P ds) p))), .int (nI p), .int (zI (2 * (j : Int) - 1)), .null] [] (I3, J, rf0) (RI (fun y9 m => ∃ I', m = (I', J, rf0) ∧ FrM I I' ∧ y9 = (S_began P ds tl).1 ∧ AbsM rw tx P ds sh (S_began P ds tl).2 ch fn I' J))) (fun j I3 hj h8 kk2 => ?_) (fun I3 h8 => ?_) _ h9
        · skip
          refine g_iload dX11_began_27 rfl ?_
          refine g_iconst (v := 2) dX11_began_29 (by decide) ?_
          refine g_icmp_ge (tgt := 84) dX11_began_30 (by decide) (fun c30 => ?_) (fun c30 => ?_)
          · exact absurd c30 (Int32.not_le.mpr (by rw [show (2 : Int32) = zI 2 from rfl, z_lt (by omega) (by omega)]; omega))
          · skip
            refine g_iconst (v := 0) dX11_began_33 (by decide) ?_
            refine g_istore dX11_began_34 (by decide) ?_
            show Go _ _ _ _ _ _ [_, _, _, _, _, _] _ _ _
            refine go_mem (fun i I4 => Fr [63] I I4) ((evO P ds).1 - (evO P ds).2.1) (fun i I4 => Go X (d + 6) 66 M_X11_began 66 36 [.ref 48, .int (nI (mP P (evO P ds) p + mJ P (evO P ds) p j + mI P (evO P ds) p j i)), .int (nI (eI P (evO P ds) p j i (eJ P (evO P ds) p j (eP P (evO P ds) p)))), .int (nI p), .int (zI (2 * (j : Int) - 1)), .int (nI i)] [] (I4, J, rf0) (RI (fun y9 m => ∃ I', m = (I', J, rf0) ∧ FrM I I' ∧ y9 = (S_began P ds tl).1 ∧ AbsM rw tx P ds sh (S_began P ds tl).2 ch fn I' J))) (fun i I4 hi h7 kk4 => ?_) (fun I4 h7 => ?_) _ h8
            · skip
              refine g_iload dX11_began_36 rfl ?_
              refine g_aload_n dX11_began_38 rfl ?_
              refine t_getI dX11_began_39 fl_X11_182 rfl (by decide) rfl (by decide) ?_
              rw [h7 48 (by decide), hE.2.2.1]
              refine g_icmp_ge (tgt := 78) dX11_began_42 (by decide) (fun c42 => ?_) (fun c42 => ?_)
              · exact absurd (nI_lt hi (by omega)) (Int32.not_lt.mpr c42)
              · skip
                refine g_aload_n dX11_began_45 rfl ?_
                refine g_iload_n dX11_began_46 rfl ?_
                refine g_iload dX11_began_47 rfl ?_
                refine g_iload dX11_began_49 rfl ?_
                refine g_callVi dX11_began_51 ln_X11_229 ⟨_, rfl⟩ rfl (by decide) ⟨_, _, rfl⟩ rfl (Nat.le_of_ble_eq_true rfl) (Nat.le_of_ble_eq_true rfl) (ct_isSlip (s := (evO P ds)) (p := p) (fr := i) (z := 2 * (j : Int) - 1) (hP.scr h7) hQ (hE.scr h7) hR hP2 hp (by omega) (by omega)) rfl (fun r51 m51 h51 => ?_)
                obtain ⟨rfl, I5, rfl, hf5⟩ := h51
                have h75 := h7.trans hf5
                refine g_if_eq (tgt := 72) dX11_began_54 (by decide) (fun c54 => ?_) (fun c54 => ?_)
                · skip
                  refine g_iinc dX11_began_72 rfl (by decide) ?_
                  show Go _ _ _ _ _ _ [_, _, _, _, _, _] _ _ _
                  refine g_goto (tgt := 36) dX11_began_75 (by decide) ?_
                  rw [nI_inc]
                  have e9 : mP P (evO P ds) p + mJ P (evO P ds) p j + mI P (evO P ds) p j (i + 1) = mP P (evO P ds) p + mJ P (evO P ds) p j + mI P (evO P ds) p j i + b2 (bgI P (evO P ds) p j i) := by
                    show mP P (evO P ds) p + mJ P (evO P ds) p j + (mI P (evO P ds) p j i + b2 (bgI P (evO P ds) p j i)) = _
                    omega
                  have e8 : eI P (evO P ds) p j (i + 1) (eJ P (evO P ds) p j (eP P (evO P ds) p)) = if bgI P (evO P ds) p j i then eI P (evO P ds) p j i (eJ P (evO P ds) p j (eP P (evO P ds) p)) ||| 2 ^ ((evO P ds).2.1 + i) else eI P (evO P ds) p j i (eJ P (evO P ds) p j (eP P (evO P ds) p)) := rfl
                  have kk5 := kk4 _ h75
                  rw [e9, e8] at kk5
                  first
                    | (rw [show bgI P (evO P ds) p j i = true from bI_ne c54] at kk5
                       rw [nI_inc]
                       exact kk5)
                    | (rw [show bgI P (evO P ds) p j i = false from bI_eq c54] at kk5
                       exact kk5)
                    | fail "no way"
                · skip
                  refine g_iinc dX11_began_57 rfl (by decide) ?_
                  show Go _ _ _ _ _ _ [_, _, _, _, _, _] _ _ _
                  refine g_iload_n dX11_began_60 rfl ?_
                  refine g_iconst (v := 1) dX11_began_61 (by decide) ?_
                  refine g_aload_n dX11_began_62 rfl ?_
                  refine t_getI dX11_began_63 fl_X11_179 rfl (by decide) rfl (by decide) ?_
                  rw [h75 48 (by decide), hE.2.1]
                  refine g_iload dX11_began_66 rfl ?_
                  refine g_iadd dX11_began_68 ?_
                  rw [nI_add]
                  refine g_ishl dX11_began_69 ?_
                  refine g_ior dX11_began_70 ?_
                  rw [orbit (by omega)]
                  refine g_istore_n dX11_began_71 (by decide) ?_
                  show Go _ _ _ _ _ _ [_, _, _, _, _, _] _ _ _
                  refine g_iinc dX11_began_72 rfl (by decide) ?_
                  show Go _ _ _ _ _ _ [_, _, _, _, _, _] _ _ _
                  refine g_goto (tgt := 36) dX11_began_75 (by decide) ?_
                  rw [nI_inc]
                  have e9 : mP P (evO P ds) p + mJ P (evO P ds) p j + mI P (evO P ds) p j (i + 1) = mP P (evO P ds) p + mJ P (evO P ds) p j + mI P (evO P ds) p j i + b2 (bgI P (evO P ds) p j i) := by
                    show mP P (evO P ds) p + mJ P (evO P ds) p j + (mI P (evO P ds) p j i + b2 (bgI P (evO P ds) p j i)) = _
                    omega
                  have e8 : eI P (evO P ds) p j (i + 1) (eJ P (evO P ds) p j (eP P (evO P ds) p)) = if bgI P (evO P ds) p j i then eI P (evO P ds) p j i (eJ P (evO P ds) p j (eP P (evO P ds) p)) ||| 2 ^ ((evO P ds).2.1 + i) else eI P (evO P ds) p j i (eJ P (evO P ds) p j (eP P (evO P ds) p)) := rfl
                  have kk5 := kk4 _ h75
                  rw [e9, e8] at kk5
                  first
                    | (rw [show bgI P (evO P ds) p j i = true from bI_ne c54] at kk5
                       rw [nI_inc]
                       exact kk5)
                    | (rw [show bgI P (evO P ds) p j i = false from bI_eq c54] at kk5
                       exact kk5)
                    | fail "no way"
            · skip
              refine g_iload dX11_began_36 rfl ?_
              refine g_aload_n dX11_began_38 rfl ?_
              refine t_getI dX11_began_39 fl_X11_182 rfl (by decide) rfl (by decide) ?_
              rw [h7 48 (by decide), hE.2.2.1]
              refine g_icmp_ge (tgt := 78) dX11_began_42 (by decide) (fun c42 => ?_) (fun c42 => ?_)
              · skip
                refine g_iinc dX11_began_78 rfl (by decide) ?_
                show Go _ _ _ _ _ _ [_, _, _, _, _, _] _ _ _
                refine g_goto (tgt := 27) dX11_began_81 (by decide) ?_
                refine g_forget 5 ?_
                show Go _ _ _ _ _ _ [_, _, _, _, _, _] _ _ _
                rw [z2_inc]
                have e9 : mP P (evO P ds) p + mJ P (evO P ds) p (j + 1) = mP P (evO P ds) p + mJ P (evO P ds) p j + mI P (evO P ds) p j ((evO P ds).1 - (evO P ds).2.1) := by
                  show mP P (evO P ds) p + (mJ P (evO P ds) p j + mI P (evO P ds) p j ((evO P ds).1 - (evO P ds).2.1)) = _
                  omega
                have kk3 := kk2 _ h7
                rw [e9] at kk3
                exact kk3
              · exact absurd (Int32.le_refl _) c42
        · skip
          refine g_iload dX11_began_27 rfl ?_
          refine g_iconst (v := 2) dX11_began_29 (by decide) ?_
          refine g_icmp_ge (tgt := 84) dX11_began_30 (by decide) (fun c30 => ?_) (fun c30 => ?_)
          · skip
            refine g_iinc dX11_began_84 rfl (by decide) ?_
            show Go _ _ _ _ _ _ [_, _, _, _, _, _] _ _ _
            refine g_goto (tgt := 16) dX11_began_87 (by decide) ?_
            refine g_forget 4 ?_
            show Go _ _ _ _ _ _ [_, _, _, _, _, _] _ _ _
            rw [nI_inc]
            exact kk _ h8
          · exact absurd (by decide) c30
    · skip
      refine g_iload_n dX11_began_16 rfl ?_
      refine g_aload_n dX11_began_17 rfl ?_
      refine t_getI dX11_began_18 fl_X11_116 rfl (by decide) rfl (by decide) ?_
      rw [h9 48 (by decide), hP.1]
      refine g_icmp_ge (tgt := 90) dX11_began_21 (by decide) (fun c21 => ?_) (fun c21 => ?_)
      · skip
        refine g_aload_n dX11_began_90 rfl ?_
        refine g_iload_n dX11_began_91 rfl ?_
        refine g_iload_n dX11_began_92 rfl ?_
        refine g_callVi dX11_began_93 ln_X11_84 ⟨_, rfl⟩ rfl (by decide) ⟨_, _, rfl⟩ rfl (Nat.le_of_ble_eq_true rfl) (Nat.le_of_ble_eq_true rfl) ct_asks rfl (fun r93 m93 h93 => ?_)
        obtain ⟨rfl, rfl⟩ := h93
        refine g_iret dX11_began_96 (fun ty h => by cases h; rfl) ?_
        rw [mP_wy, eP_bs]
        have hS : S_began P ds tl = (nI (wyN P (evO P ds) ((evO P ds).1 - (evO P ds).2.1)), nI (bsN P (evO P ds) ((evO P ds).1 - (evO P ds).2.1))) := by unfold S_began; rw [if_neg (show ¬ P.2.1 = 0 from fun q => c4 (by rw [q]; rfl))]
        exact ⟨_, rfl, (FrM.of h9 (by decide)).up (by decide), by rw [hS], by rw [hS]; exact (hA.s63 h9).told⟩
      · exact absurd (Int32.le_refl _) c21
  · skip
    refine g_bipush (v := -4) dX11_began_7 (by decide) ?_
    refine g_iret dX11_began_9 (fun ty h => by cases h; rfl) ?_
    have h0 : P.2.1 = 0 := (nI_eq (by omega) (by decide)).mp (show nI P.2.1 = nI 0 from c4)
    have hS : S_began P ds tl = (-4, tl) := by unfold S_began; rw [if_pos h0]
    exact ⟨_, rfl, FrM.rf, by rw [hS], by rw [hS]; exact hA⟩
end
