section
variable {X : Nat × (Nat → Int32)} {d : Nat} {I : Nat → Nat → Int32} {J : Nat → Nat → Int64}
/-! ===== promises 44 to 50, model side ===== -/
theorem dgTab_s (n : Nat) (t : Tab) (h : Int64) : dgTab (n + 1) t h = dgOne t n (dgTab n t h) := rfl
theorem dgRow_s (f : Nat → Int32) (n : Nat) (h : Int64) : dgRow f (n + 1) h = 31 * dgRow f n h + (f n).toInt64 := rfl
theorem sz_ge {o : Option Nat} (h : ∀ c, o = some c → c < 2 ^ 31) : 0 ≤ szI o ↔ o.isSome = true := by
  rw [← Int32.not_lt, szI_lt h]
  cases o with
  | none => exact ⟨fun q => absurd rfl q, fun q => by cases q⟩
  | some c => exact ⟨fun _ => rfl, fun _ q => by cases q⟩
theorem ct_counts {rw tx : Tab} {P : Pce} {ds : List Deed} {sh : Shf} {tl : Int32} {ch : Int64 × Int64} {fn : Fnd} {w : Nat} (hA : AbsM rw tx P ds sh tl ch fn I J) (hO : StOK rw tx P ds sh) (hw : w ≤ 8) : Ct X (d + 2) 66 M_X11_counts 66 [.ref 48, .int (nI w)] (I, J, rf0) (RI (fun y9 m => y9 = nI (cntS P ds rw tx sh w) ∧ m = (I, J, rf0))) := by
  have hP := hA.2.2.1
  have hQ := hO.2.2.1
  have h14 := hQ.2.1
  have h4 := hQ.1
  have hEv := hA.2.2.2.1
  have hD := hO.2.2.2.1
  have hE := hEv.2.2
  have hR : EvR (evO P ds) := EvR.e.run hQ hD.2
  have hr14 := hR.1
  have hr2 := hR.2.1
  show Go _ _ _ _ _ _ [_, _, _, _] _ _ _
  refine g_iconst (v := 0) dX11_counts_0 (by decide) ?_
  refine g_istore_n dX11_counts_1 (by decide) ?_
  show Go _ _ _ _ _ _ [_, _, _, _] _ _ _
  refine g_iload_n dX11_counts_2 rfl ?_
  rcases (show w = 0 ∨ w = 1 ∨ w = 2 ∨ w = 3 ∨ w = 4 ∨ w = 5 ∨ w = 6 ∨ w = 7 ∨ w = 8 by omega) with rfl | rfl | rfl | rfl | rfl | rfl | rfl | rfl | rfl
  · skip
    refine g_tabIn (off := 45) (tgt := 48) dX11_counts_3 (by decide) (by decide) (by decide) (by decide) ?_
    refine g_aload_n dX11_counts_48 rfl ?_
    refine t_getI dX11_counts_49 fl_X11_116 rfl (by decide) rfl (by decide) ?_
    refine g_iret dX11_counts_52 (fun ty h => by cases h; rfl) ?_
    exact ⟨hP.1, rfl⟩
  · skip
    refine g_tabIn (off := 50) (tgt := 53) dX11_counts_3 (by decide) (by decide) (by decide) (by decide) ?_
    refine g_aload_n dX11_counts_53 rfl ?_
    refine t_getI dX11_counts_54 fl_X11_119 rfl (by decide) rfl (by decide) ?_
    refine g_iret dX11_counts_57 (fun ty h => by cases h; rfl) ?_
    exact ⟨hP.2.1, rfl⟩
  · skip
    refine g_tabIn (off := 55) (tgt := 58) dX11_counts_3 (by decide) (by decide) (by decide) (by decide) ?_
    refine g_aload_n dX11_counts_58 rfl ?_
    refine t_getR dX11_counts_59 fl_X11_38 rfl (by decide) rfl (by decide) rfl ?_
    refine g_iconst (v := 0) dX11_counts_62 (by decide) ?_
    refine t_iald dX11_counts_63 rfl (by decide) (in_nI (j := 0) (by decide) (by decide)) ?_
    refine g_iret dX11_counts_64 (fun ty h => by cases h; rfl) ?_
    exact ⟨hEv.1, rfl⟩
  · skip
    refine g_tabIn (off := 62) (tgt := 65) dX11_counts_3 (by decide) (by decide) (by decide) (by decide) ?_
    refine g_iconst (v := 0) dX11_counts_65 (by decide) ?_
    refine g_istore_n dX11_counts_66 (by decide) ?_
    show Go _ _ _ _ _ _ [_, _, _, _] _ _ _
    refine go_ix P.1 (fun p => Go X (d + 2) 66 M_X11_counts 66 67 [.ref 48, .int (nI 3), .int (nI (cntP (fun (p : Nat) => decide (¬ (evO P ds).2.2.1 p = 0)) p)), .int (nI (p))] [] (I, J, rf0) (RI (fun y9 m => y9 = nI (cntS P ds rw tx sh 3) ∧ m = (I, J, rf0)))) (fun p hp kk => ?_) ?_
    · have hb := hR.2.2.1 p (by omega)
      refine g_iload_n dX11_counts_67 rfl ?_
      refine g_aload_n dX11_counts_68 rfl ?_
      refine t_getI dX11_counts_69 fl_X11_116 rfl (by decide) rfl (by decide) ?_
      rw [hP.1]
      refine g_icmp_ge (tgt := 98) dX11_counts_72 (by decide) (fun c72 => ?_) (fun c72 => ?_)
      · exact absurd (nI_lt hp (by omega)) (Int32.not_lt.mpr c72)
      · skip
        refine g_iload_n dX11_counts_75 rfl ?_
        refine g_aload_n dX11_counts_76 rfl ?_
        refine t_getR dX11_counts_77 fl_X11_44 rfl (by decide) rfl (by decide) rfl ?_
        refine g_iload_n dX11_counts_80 rfl ?_
        refine t_iald dX11_counts_81 rfl (by decide) (in_nI (by omega) (by decide)) ?_
        rw [cl_nI (by omega), hE.2.2.2.1 p (by omega)]
        refine g_if_eq (tgt := 89) dX11_counts_82 (by decide) (fun c82 => ?_) (fun c82 => ?_)
        · skip
          refine g_iconst (v := 0) dX11_counts_89 (by decide) ?_
          refine g_iadd dX11_counts_90 ?_
          refine g_istore_n dX11_counts_91 (by decide) ?_
          show Go _ _ _ _ _ _ [_, _, _, _] _ _ _
          refine g_iinc dX11_counts_92 rfl (by decide) ?_
          show Go _ _ _ _ _ _ [_, _, _, _] _ _ _
          refine g_goto (tgt := 67) dX11_counts_95 (by decide) ?_
          rw [cntP_s] at kk
          rw [nI_inc]
          first
            | (rw [if_pos (decide_eq_true (show ¬ (evO P ds).2.2.1 p = 0 from fun q => c82 (by rw [q]; rfl)))] at kk
               rw [show (1 : Int32) = nI 1 from rfl, nI_add]
               exact kk)
            | (rw [if_neg (show ¬ decide (¬ (evO P ds).2.2.1 p = 0) = true by rw [decide_eq_false (not_not_intro ((z_eq (by omega) (by omega)).mp (show zI ((evO P ds).2.2.1 p) = zI 0 from c82)))]; decide)] at kk
               rw [show (0 : Int32) = nI 0 from rfl, nI_add]
               exact kk)
            | fail "no way"
        · skip
          refine g_iconst (v := 1) dX11_counts_85 (by decide) ?_
          refine g_goto (tgt := 90) dX11_counts_86 (by decide) ?_
          refine g_iadd dX11_counts_90 ?_
          refine g_istore_n dX11_counts_91 (by decide) ?_
          show Go _ _ _ _ _ _ [_, _, _, _] _ _ _
          refine g_iinc dX11_counts_92 rfl (by decide) ?_
          show Go _ _ _ _ _ _ [_, _, _, _] _ _ _
          refine g_goto (tgt := 67) dX11_counts_95 (by decide) ?_
          rw [cntP_s] at kk
          rw [nI_inc]
          first
            | (rw [if_pos (decide_eq_true (show ¬ (evO P ds).2.2.1 p = 0 from fun q => c82 (by rw [q]; rfl)))] at kk
               rw [show (1 : Int32) = nI 1 from rfl, nI_add]
               exact kk)
            | (rw [if_neg (show ¬ decide (¬ (evO P ds).2.2.1 p = 0) = true by rw [decide_eq_false (not_not_intro ((z_eq (by omega) (by omega)).mp (show zI ((evO P ds).2.2.1 p) = zI 0 from c82)))]; decide)] at kk
               rw [show (0 : Int32) = nI 0 from rfl, nI_add]
               exact kk)
            | fail "no way"
    · skip
      refine g_iload_n dX11_counts_67 rfl ?_
      refine g_aload_n dX11_counts_68 rfl ?_
      refine t_getI dX11_counts_69 fl_X11_116 rfl (by decide) rfl (by decide) ?_
      rw [hP.1]
      refine g_icmp_ge (tgt := 98) dX11_counts_72 (by decide) (fun c72 => ?_) (fun c72 => ?_)
      · skip
        refine g_iload_n dX11_counts_98 rfl ?_
        refine g_iret dX11_counts_99 (fun ty h => by cases h; rfl) ?_
        exact ⟨rfl, rfl⟩
      · exact absurd (Int32.le_refl _) c72
  · skip
    refine g_tabIn (off := 97) (tgt := 100) dX11_counts_3 (by decide) (by decide) (by decide) (by decide) ?_
    refine g_aload_n dX11_counts_100 rfl ?_
    refine g_aload_n dX11_counts_101 rfl ?_
    refine t_getI dX11_counts_102 fl_X11_119 rfl (by decide) rfl (by decide) ?_
    rw [hP.2.1]
    refine g_callVi dX11_counts_105 ln_X11_167 ⟨_, rfl⟩ rfl (by decide) ⟨_, _, rfl⟩ rfl (Nat.le_of_ble_eq_true rfl) (Nat.le_of_ble_eq_true rfl) (ct_letters (x := P.2.1) hP hQ (Nat.le_refl _)) rfl (fun r105 m105 h105 => ?_)
    obtain ⟨rfl, rfl⟩ := h105
    refine g_iret dX11_counts_108 (fun ty h => by cases h; rfl) ?_
    exact ⟨rfl, rfl⟩
  · skip
    refine g_tabIn (off := 106) (tgt := 109) dX11_counts_3 (by decide) (by decide) (by decide) (by decide) ?_
    refine g_aload_n dX11_counts_109 rfl ?_
    refine g_aload_n dX11_counts_110 rfl ?_
    refine t_getI dX11_counts_111 fl_X11_119 rfl (by decide) rfl (by decide) ?_
    rw [hP.2.1]
    refine g_callVi dX11_counts_114 ln_X11_164 ⟨_, rfl⟩ rfl (by decide) ⟨_, _, rfl⟩ rfl (Nat.le_of_ble_eq_true rfl) (Nat.le_of_ble_eq_true rfl) (ct_longs (x := P.2.1) hP hQ (Nat.le_refl _)) rfl (fun r114 m114 h114 => ?_)
    obtain ⟨rfl, rfl⟩ := h114
    refine g_iret dX11_counts_117 (fun ty h => by cases h; rfl) ?_
    exact ⟨rfl, rfl⟩
  · skip
    refine g_tabIn (off := 115) (tgt := 118) dX11_counts_3 (by decide) (by decide) (by decide) (by decide) ?_
    refine g_iconst (v := 0) dX11_counts_118 (by decide) ?_
    refine g_istore_n dX11_counts_119 (by decide) ?_
    show Go _ _ _ _ _ _ [_, _, _, _] _ _ _
    refine go_ix 6 (fun r => Go X (d + 2) 66 M_X11_counts 66 120 [.ref 48, .int (nI 6), .int (nI (cntP (fun (r : Nat) => (rw.1 r).isSome) r)), .int (nI (r))] [] (I, J, rf0) (RI (fun y9 m => y9 = nI (cntS P ds rw tx sh 6) ∧ m = (I, J, rf0)))) (fun r hr kk => ?_) ?_
    · have hso : ∀ c, rw.1 r = some c → c < 2 ^ 31 := fun c hc => by have := hO.1 r hr c hc; omega
      refine g_iload_n dX11_counts_120 rfl ?_
      refine g_bipush (v := 6) dX11_counts_121 (by decide) ?_
      refine g_icmp_ge (tgt := 149) dX11_counts_123 (by decide) (fun c123 => ?_) (fun c123 => ?_)
      · exact absurd (nI_lt hr (by decide)) (Int32.not_lt.mpr c123)
      · skip
        refine g_iload_n dX11_counts_126 rfl ?_
        refine g_aload_n dX11_counts_127 rfl ?_
        refine t_getR dX11_counts_128 fl_X11_7 rfl (by decide) rfl (by decide) rfl ?_
        refine g_iload_n dX11_counts_131 rfl ?_
        refine t_iald dX11_counts_132 rfl (by decide) (in_nI (by omega) (by decide)) ?_
        rw [cl_nI (by omega), (hA.1 r hr).1]
        refine g_if_ge (tgt := 140) dX11_counts_133 (by decide) (fun c133 => ?_) (fun c133 => ?_)
        · skip
          refine g_iconst (v := 1) dX11_counts_140 (by decide) ?_
          refine g_iadd dX11_counts_141 ?_
          refine g_istore_n dX11_counts_142 (by decide) ?_
          show Go _ _ _ _ _ _ [_, _, _, _] _ _ _
          refine g_iinc dX11_counts_143 rfl (by decide) ?_
          show Go _ _ _ _ _ _ [_, _, _, _] _ _ _
          refine g_goto (tgt := 120) dX11_counts_146 (by decide) ?_
          rw [cntP_s] at kk
          rw [nI_inc]
          first
            | (rw [if_pos ((sz_ge hso).mp c133)] at kk
               rw [show (1 : Int32) = nI 1 from rfl, nI_add]
               exact kk)
            | (rw [if_neg (fun q => c133 ((sz_ge hso).mpr q))] at kk
               rw [show (0 : Int32) = nI 0 from rfl, nI_add]
               exact kk)
            | fail "no way"
        · skip
          refine g_iconst (v := 0) dX11_counts_136 (by decide) ?_
          refine g_goto (tgt := 141) dX11_counts_137 (by decide) ?_
          refine g_iadd dX11_counts_141 ?_
          refine g_istore_n dX11_counts_142 (by decide) ?_
          show Go _ _ _ _ _ _ [_, _, _, _] _ _ _
          refine g_iinc dX11_counts_143 rfl (by decide) ?_
          show Go _ _ _ _ _ _ [_, _, _, _] _ _ _
          refine g_goto (tgt := 120) dX11_counts_146 (by decide) ?_
          rw [cntP_s] at kk
          rw [nI_inc]
          first
            | (rw [if_pos ((sz_ge hso).mp c133)] at kk
               rw [show (1 : Int32) = nI 1 from rfl, nI_add]
               exact kk)
            | (rw [if_neg (fun q => c133 ((sz_ge hso).mpr q))] at kk
               rw [show (0 : Int32) = nI 0 from rfl, nI_add]
               exact kk)
            | fail "no way"
    · skip
      refine g_iload_n dX11_counts_120 rfl ?_
      refine g_bipush (v := 6) dX11_counts_121 (by decide) ?_
      refine g_icmp_ge (tgt := 149) dX11_counts_123 (by decide) (fun c123 => ?_) (fun c123 => ?_)
      · skip
        refine g_iload_n dX11_counts_149 rfl ?_
        refine g_iret dX11_counts_150 (fun ty h => by cases h; rfl) ?_
        exact ⟨rfl, rfl⟩
      · exact absurd (by decide) c123
  · skip
    refine g_tabIn (off := 148) (tgt := 151) dX11_counts_3 (by decide) (by decide) (by decide) (by decide) ?_
    refine g_iconst (v := 0) dX11_counts_151 (by decide) ?_
    refine g_istore_n dX11_counts_152 (by decide) ?_
    show Go _ _ _ _ _ _ [_, _, _, _] _ _ _
    refine go_ix 4 (fun r => Go X (d + 2) 66 M_X11_counts 66 153 [.ref 48, .int (nI 7), .int (nI (cntP (fun (r : Nat) => (tx.1 r).isSome) r)), .int (nI (r))] [] (I, J, rf0) (RI (fun y9 m => y9 = nI (cntS P ds rw tx sh 7) ∧ m = (I, J, rf0)))) (fun r hr kk => ?_) ?_
    · have hso : ∀ c, tx.1 r = some c → c < 2 ^ 31 := fun c hc => by have := hO.2.1 r hr c hc; omega
      refine g_iload_n dX11_counts_153 rfl ?_
      refine g_iconst (v := 4) dX11_counts_154 (by decide) ?_
      refine g_icmp_ge (tgt := 181) dX11_counts_155 (by decide) (fun c155 => ?_) (fun c155 => ?_)
      · exact absurd (nI_lt hr (by decide)) (Int32.not_lt.mpr c155)
      · skip
        refine g_iload_n dX11_counts_158 rfl ?_
        refine g_aload_n dX11_counts_159 rfl ?_
        refine t_getR dX11_counts_160 fl_X11_16 rfl (by decide) rfl (by decide) rfl ?_
        refine g_iload_n dX11_counts_163 rfl ?_
        refine t_iald dX11_counts_164 rfl (by decide) (in_nI (by omega) (by decide)) ?_
        rw [cl_nI (by omega), (hA.2.1 r hr).1]
        refine g_if_ge (tgt := 172) dX11_counts_165 (by decide) (fun c165 => ?_) (fun c165 => ?_)
        · skip
          refine g_iconst (v := 1) dX11_counts_172 (by decide) ?_
          refine g_iadd dX11_counts_173 ?_
          refine g_istore_n dX11_counts_174 (by decide) ?_
          show Go _ _ _ _ _ _ [_, _, _, _] _ _ _
          refine g_iinc dX11_counts_175 rfl (by decide) ?_
          show Go _ _ _ _ _ _ [_, _, _, _] _ _ _
          refine g_goto (tgt := 153) dX11_counts_178 (by decide) ?_
          rw [cntP_s] at kk
          rw [nI_inc]
          first
            | (rw [if_pos ((sz_ge hso).mp c165)] at kk
               rw [show (1 : Int32) = nI 1 from rfl, nI_add]
               exact kk)
            | (rw [if_neg (fun q => c165 ((sz_ge hso).mpr q))] at kk
               rw [show (0 : Int32) = nI 0 from rfl, nI_add]
               exact kk)
            | fail "no way"
        · skip
          refine g_iconst (v := 0) dX11_counts_168 (by decide) ?_
          refine g_goto (tgt := 173) dX11_counts_169 (by decide) ?_
          refine g_iadd dX11_counts_173 ?_
          refine g_istore_n dX11_counts_174 (by decide) ?_
          show Go _ _ _ _ _ _ [_, _, _, _] _ _ _
          refine g_iinc dX11_counts_175 rfl (by decide) ?_
          show Go _ _ _ _ _ _ [_, _, _, _] _ _ _
          refine g_goto (tgt := 153) dX11_counts_178 (by decide) ?_
          rw [cntP_s] at kk
          rw [nI_inc]
          first
            | (rw [if_pos ((sz_ge hso).mp c165)] at kk
               rw [show (1 : Int32) = nI 1 from rfl, nI_add]
               exact kk)
            | (rw [if_neg (fun q => c165 ((sz_ge hso).mpr q))] at kk
               rw [show (0 : Int32) = nI 0 from rfl, nI_add]
               exact kk)
            | fail "no way"
    · skip
      refine g_iload_n dX11_counts_153 rfl ?_
      refine g_iconst (v := 4) dX11_counts_154 (by decide) ?_
      refine g_icmp_ge (tgt := 181) dX11_counts_155 (by decide) (fun c155 => ?_) (fun c155 => ?_)
      · skip
        refine g_iload_n dX11_counts_181 rfl ?_
        refine g_iret dX11_counts_182 (fun ty h => by cases h; rfl) ?_
        exact ⟨rfl, rfl⟩
      · exact absurd (by decide) c155
  · skip
    refine g_tabOut (tgt := 183) dX11_counts_3 (by decide) (by decide) ?_
    refine g_iconst (v := 1) dX11_counts_183 (by decide) ?_
    refine g_istore_n dX11_counts_184 (by decide) ?_
    show Go _ _ _ _ _ _ [_, _, _, _] _ _ _
    refine go_ix 3 (fun k => Go X (d + 2) 66 M_X11_counts 66 185 [.ref 48, .int (nI 8), .int (nI (cntP (fun (k : Nat) => (sh k).isSome) k)), .int (nI (k + 1))] [] (I, J, rf0) (RI (fun y9 m => y9 = nI (cntS P ds rw tx sh 8) ∧ m = (I, J, rf0)))) (fun k hk kk => ?_) ?_
    · have hso : ∀ c, (sh k).map List.length = some c → c < 2 ^ 31 := fun c hc => by
        cases hs : sh k with
        | none => rw [hs] at hc; cases hc
        | some es => rw [hs] at hc; cases hc; have := (hO.2.2.2.2 k hk es hs).1; omega
      have him : ((sh k).map List.length).isSome = (sh k).isSome := by cases sh k <;> rfl
      refine g_iload_n dX11_counts_185 rfl ?_
      refine g_iconst (v := 4) dX11_counts_186 (by decide) ?_
      refine g_icmp_ge (tgt := 213) dX11_counts_187 (by decide) (fun c187 => ?_) (fun c187 => ?_)
      · exact absurd (nI_lt (show k + 1 < 4 by omega) (by decide)) (Int32.not_lt.mpr c187)
      · skip
        refine g_iload_n dX11_counts_190 rfl ?_
        refine g_aload_n dX11_counts_191 rfl ?_
        refine t_getR dX11_counts_192 fl_X11_38 rfl (by decide) rfl (by decide) rfl ?_
        refine g_iload_n dX11_counts_195 rfl ?_
        refine t_iald dX11_counts_196 rfl (by decide) (in_nI (by omega) (by decide)) ?_
        rw [cl_nI (by omega), (hA.2.2.2.2.1 k hk).1]
        refine g_if_ge (tgt := 204) dX11_counts_197 (by decide) (fun c197 => ?_) (fun c197 => ?_)
        · skip
          refine g_iconst (v := 1) dX11_counts_204 (by decide) ?_
          refine g_iadd dX11_counts_205 ?_
          refine g_istore_n dX11_counts_206 (by decide) ?_
          show Go _ _ _ _ _ _ [_, _, _, _] _ _ _
          refine g_iinc dX11_counts_207 rfl (by decide) ?_
          show Go _ _ _ _ _ _ [_, _, _, _] _ _ _
          refine g_goto (tgt := 185) dX11_counts_210 (by decide) ?_
          rw [cntP_s] at kk
          rw [nI_inc]
          first
            | (rw [if_pos (him ▸ (sz_ge hso).mp c197)] at kk
               rw [show (1 : Int32) = nI 1 from rfl, nI_add]
               exact kk)
            | (rw [if_neg (fun q => c197 ((sz_ge hso).mpr (him.trans q)))] at kk
               rw [show (0 : Int32) = nI 0 from rfl, nI_add]
               exact kk)
            | fail "no way"
        · skip
          refine g_iconst (v := 0) dX11_counts_200 (by decide) ?_
          refine g_goto (tgt := 205) dX11_counts_201 (by decide) ?_
          refine g_iadd dX11_counts_205 ?_
          refine g_istore_n dX11_counts_206 (by decide) ?_
          show Go _ _ _ _ _ _ [_, _, _, _] _ _ _
          refine g_iinc dX11_counts_207 rfl (by decide) ?_
          show Go _ _ _ _ _ _ [_, _, _, _] _ _ _
          refine g_goto (tgt := 185) dX11_counts_210 (by decide) ?_
          rw [cntP_s] at kk
          rw [nI_inc]
          first
            | (rw [if_pos (him ▸ (sz_ge hso).mp c197)] at kk
               rw [show (1 : Int32) = nI 1 from rfl, nI_add]
               exact kk)
            | (rw [if_neg (fun q => c197 ((sz_ge hso).mpr (him.trans q)))] at kk
               rw [show (0 : Int32) = nI 0 from rfl, nI_add]
               exact kk)
            | fail "no way"
    · skip
      refine g_iload_n dX11_counts_185 rfl ?_
      refine g_iconst (v := 4) dX11_counts_186 (by decide) ?_
      refine g_icmp_ge (tgt := 213) dX11_counts_187 (by decide) (fun c187 => ?_) (fun c187 => ?_)
      · skip
        refine g_iload_n dX11_counts_213 rfl ?_
        refine g_iret dX11_counts_214 (fun ty h => by cases h; rfl) ?_
        exact ⟨rfl, rfl⟩
      · exact absurd (by decide) c187
theorem pm_asked {rw tx : Tab} {P : Pce} {ds : List Deed} {sh : Shf} {tl : Int32} {ch : Int64 × Int64} {fn : Fnd} (hA : AbsM rw tx P ds sh tl ch fn I J) (hO : StOK rw tx P ds sh) : Ct X d 66 M_X11_asked 66 [.ref 48] (I, J, rf0) (RI (fun y9 m => ∃ I', m = (I', J, rf0) ∧ FrM I I' ∧ y9 = tl ∧ AbsM rw tx P ds sh tl ch fn I' J)) := by
  show Go _ _ _ _ _ _ [_] _ _ _
  refine g_aload_n dX11_asked_0 rfl ?_
  refine t_getI dX11_asked_1 fl_X11_71 rfl (by decide) rfl (by decide) ?_
  refine g_iret dX11_asked_4 (fun ty h => by cases h; rfl) ?_
  exact ⟨_, rfl, FrM.rf, hA.2.2.2.2.2.1, hA⟩
theorem pm_upper {rw tx : Tab} {P : Pce} {ds : List Deed} {sh : Shf} {tl : Int32} {ch : Int64 × Int64} {fn : Fnd} (hA : AbsM rw tx P ds sh tl ch fn I J) (hO : StOK rw tx P ds sh) : Ct X d 66 M_X11_upper 66 [.ref 48] (I, J, rf0) (RJ (fun y9 m => ∃ I', m = (I', J, rf0) ∧ FrM I I' ∧ y9 = ch.1 ∧ AbsM rw tx P ds sh tl ch fn I' J)) := by
  show Go _ _ _ _ _ _ [_] _ _ _
  refine g_aload_n dX11_upper_0 rfl ?_
  refine t_getJ dX11_upper_1 fl_X11_219 rfl (by decide) rfl (by decide) ?_
  refine g_lret dX11_upper_4 rfl ?_
  exact ⟨_, rfl, FrM.rf, hA.2.2.2.2.2.2.1.1, hA⟩
theorem pm_lower {rw tx : Tab} {P : Pce} {ds : List Deed} {sh : Shf} {tl : Int32} {ch : Int64 × Int64} {fn : Fnd} (hA : AbsM rw tx P ds sh tl ch fn I J) (hO : StOK rw tx P ds sh) : Ct X d 66 M_X11_lower 66 [.ref 48] (I, J, rf0) (RJ (fun y9 m => ∃ I', m = (I', J, rf0) ∧ FrM I I' ∧ y9 = ch.2 ∧ AbsM rw tx P ds sh tl ch fn I' J)) := by
  show Go _ _ _ _ _ _ [_] _ _ _
  refine g_aload_n dX11_lower_0 rfl ?_
  refine t_getJ dX11_lower_1 fl_X11_50 rfl (by decide) rfl (by decide) ?_
  refine g_lret dX11_lower_4 rfl ?_
  exact ⟨_, rfl, FrM.rf, hA.2.2.2.2.2.2.1.2, hA⟩
theorem pm_finding {rw tx : Tab} {P : Pce} {ds : List Deed} {sh : Shf} {tl : Int32} {ch : Int64 × Int64} {fn : Fnd} (hA : AbsM rw tx P ds sh tl ch fn I J) (hO : StOK rw tx P ds sh) : Ct X d 66 M_X11_finding 66 [.ref 48] (I, J, rf0) (RI (fun y9 m => ∃ I', m = (I', J, rf0) ∧ FrM I I' ∧ y9 = fn.1 ∧ AbsM rw tx P ds sh tl ch fn I' J)) := by
  show Go _ _ _ _ _ _ [_] _ _ _
  refine g_aload_n dX11_finding_0 rfl ?_
  refine t_getI dX11_finding_1 fl_X11_67 rfl (by decide) rfl (by decide) ?_
  refine g_iret dX11_finding_4 (fun ty h => by cases h; rfl) ?_
  exact ⟨_, rfl, FrM.rf, hA.2.2.2.2.2.2.2.1, hA⟩
theorem pm_count {rw tx : Tab} {P : Pce} {ds : List Deed} {sh : Shf} {tl : Int32} {ch : Int64 × Int64} {fn : Fnd} {w : Int32} (hA : AbsM rw tx P ds sh tl ch fn I J) (hO : StOK rw tx P ds sh) : Ct X (d + 3) 66 M_X11_count 66 [.ref 48, .int w] (I, J, rf0) (RI (fun y9 m => ∃ I', m = (I', J, rf0) ∧ FrM I I' ∧ y9 = S_count P ds rw tx sh w ∧ AbsM rw tx P ds sh tl ch fn I' J)) := by
  show Go _ _ _ _ _ _ [_, _] _ _ _
  refine g_iload_n dX11_count_0 rfl ?_
  refine g_i2l dX11_count_1 ?_
  refine g_lconst (v := 0) dX11_count_2 (by decide) ?_
  refine g_ldc2 dX11_count_3 tb_1446 ?_
  refine g_callSi dX11_count_6 ln_X11_76 ⟨_, rfl⟩ rfl (Nat.le_of_ble_eq_true rfl) (Nat.le_of_ble_eq_true rfl) ct_in rfl (fun r6 m6 h6 => ?_)
  obtain ⟨rfl, rfl⟩ := h6
  rw [show inJ w.toInt64 0 8 = inR w 9 by rw [← inJ_sz (by decide), show (nI 9 - 1).toInt64 = 8 by decide]]
  refine g_if_eq (tgt := 20) dX11_count_9 (by decide) (fun c9 => ?_) (fun c9 => ?_)
  · skip
    refine g_iconst (v := -1) dX11_count_20 (by decide) ?_
    refine g_iret dX11_count_21 (fun ty h => by cases h; rfl) ?_
    first
      | exact ⟨_, rfl, FrM.rf, by unfold S_count; rw [bI_eq c9]; rfl, hA⟩
      | exact ⟨_, rfl, FrM.rf, by unfold S_count; rw [q1, cl_nI (by omega)]; rfl, hA⟩
      | fail "no way"
  · skip
    have q1 := bI_ne c9
    obtain ⟨w, hw, rfl⟩ := inR_ix (by decide) q1
    refine g_aload_n dX11_count_12 rfl ?_
    refine g_iload_n dX11_count_13 rfl ?_
    refine g_callVi dX11_count_14 ln_X11_272 ⟨_, rfl⟩ rfl (by decide) ⟨_, _, rfl⟩ rfl (Nat.le_of_ble_eq_true rfl) (Nat.le_of_ble_eq_true rfl) (ct_counts hA hO (by omega)) rfl (fun r14 m14 h14 => ?_)
    obtain ⟨rfl, rfl⟩ := h14
    refine g_goto (tgt := 21) dX11_count_17 (by decide) ?_
    refine g_iret dX11_count_21 (fun ty h => by cases h; rfl) ?_
    first
      | exact ⟨_, rfl, FrM.rf, by unfold S_count; rw [bI_eq c9]; rfl, hA⟩
      | exact ⟨_, rfl, FrM.rf, by unfold S_count; rw [q1, cl_nI (by omega)]; rfl, hA⟩
      | fail "no way"
theorem pm_findings {rw tx : Tab} {P : Pce} {ds : List Deed} {sh : Shf} {tl : Int32} {ch : Int64 × Int64} {fn : Fnd} {f : Int32} (hA : AbsM rw tx P ds sh tl ch fn I J) (hO : StOK rw tx P ds sh) : Ct X (d + 1) 66 M_X11_findings 66 [.ref 48, .int f] (I, J, rf0) (RI (fun y9 m => ∃ I', m = (I', J, rf0) ∧ FrM I I' ∧ y9 = S_findings fn f ∧ AbsM rw tx P ds sh tl ch fn I' J)) := by
  show Go _ _ _ _ _ _ [_, _] _ _ _
  refine g_iload_n dX11_findings_0 rfl ?_
  refine g_i2l dX11_findings_1 ?_
  refine g_lconst (v := 1) dX11_findings_2 (by decide) ?_
  refine g_ldc2 dX11_findings_3 tb_1084 ?_
  refine g_callSi dX11_findings_6 ln_X11_76 ⟨_, rfl⟩ rfl (Nat.le_of_ble_eq_true rfl) (Nat.le_of_ble_eq_true rfl) ct_in rfl (fun r6 m6 h6 => ?_)
  obtain ⟨rfl, rfl⟩ := h6
  rw [inJ_w (lo := 1) (hi := 5) (by decide) (by decide)]
  refine g_if_eq (tgt := 21) dX11_findings_9 (by decide) (fun c9 => ?_) (fun c9 => ?_)
  · skip
    refine g_iconst (v := -1) dX11_findings_21 (by decide) ?_
    refine g_iret dX11_findings_22 (fun ty h => by cases h; rfl) ?_
    first
      | exact ⟨_, rfl, FrM.rf, by unfold S_findings; rw [if_neg (of_decide_eq_false (bI_eq c9))], hA⟩
      | exact ⟨_, rfl, FrM.rf, by unfold S_findings; rw [if_pos q1, cl_nI (by omega)]; exact hA.2.2.2.2.2.2.2.2 j hj, hA⟩
      | fail "no way"
  · skip
    have q1 := of_decide_eq_true (bI_ne c9)
    obtain ⟨j, hj, rfl⟩ := lot_n q1.1 (lot_b (m := 6) q1.2 (by decide) (by decide)) (by decide)
    refine g_aload_n dX11_findings_12 rfl ?_
    refine t_getR dX11_findings_13 fl_X11_54 rfl (by decide) rfl (by decide) rfl ?_
    refine g_iload_n dX11_findings_16 rfl ?_
    refine t_iald dX11_findings_17 rfl (by decide) (in_nI hj (by decide)) ?_
    refine g_goto (tgt := 22) dX11_findings_18 (by decide) ?_
    refine g_iret dX11_findings_22 (fun ty h => by cases h; rfl) ?_
    first
      | exact ⟨_, rfl, FrM.rf, by unfold S_findings; rw [if_neg (of_decide_eq_false (bI_eq c9))], hA⟩
      | exact ⟨_, rfl, FrM.rf, by unfold S_findings; rw [if_pos q1, cl_nI (by omega)]; exact hA.2.2.2.2.2.2.2.2 j hj, hA⟩
      | fail "no way"
theorem pm_digest {rw tx : Tab} {P : Pce} {ds : List Deed} {sh : Shf} {tl : Int32} {ch : Int64 × Int64} {fn : Fnd} (hA : AbsM rw tx P ds sh tl ch fn I J) (hO : StOK rw tx P ds sh) : Ct X (d + 7) 66 M_X11_digest 66 [.ref 48] (I, J, rf0) (RJ (fun y9 m => ∃ I', m = (I', J, rf0) ∧ FrM I I' ∧ y9 = S_digest P ds rw tx sh ∧ AbsM rw tx P ds sh tl ch fn I' J)) := by
  have hP := hA.2.2.1
  have hQ := hO.2.2.1
  have h14 := hQ.2.1
  have h4 := hQ.1
  have hEv := hA.2.2.2.1
  have hD := hO.2.2.2.1
  have hE := hEv.2.2
  have hR : EvR (evO P ds) := EvR.e.run hQ hD.2
  have hr14 := hR.1
  have hr2 := hR.2.1
  show Go _ _ _ _ _ _ [_, _, _, _, _] _ _ _
  refine g_ldc2 dX11_digest_0 tb_1463 ?_
  refine g_lstore_n dX11_digest_3 (by decide) ?_
  show Go _ _ _ _ _ _ [_, _, _, _, _] _ _ _
  refine g_iconst (v := 0) dX11_digest_4 (by decide) ?_
  refine g_istore_n dX11_digest_5 (by decide) ?_
  show Go _ _ _ _ _ _ [_, _, _, _, _] _ _ _
  refine go_ix 9 (fun w => Go X (d + 7) 66 M_X11_digest 66 6 [.ref 48, .long (dgA P ds rw tx sh w), .null, .int (nI w), .null] [] (I, J, rf0) (RJ (fun y9 m => ∃ I', m = (I', J, rf0) ∧ FrM I I' ∧ y9 = S_digest P ds rw tx sh ∧ AbsM rw tx P ds sh tl ch fn I' J))) (fun w hw kk => ?_) ?_
  · skip
    refine g_iload_n dX11_digest_6 rfl ?_
    refine g_bipush (v := 9) dX11_digest_7 (by decide) ?_
    refine g_icmp_ge (tgt := 31) dX11_digest_9 (by decide) (fun c9 => ?_) (fun c9 => ?_)
    · exact absurd (nI_lt hw (by decide)) (Int32.not_lt.mpr c9)
    · skip
      refine g_ldc2 dX11_digest_12 tb_1464 ?_
      refine g_lload_n dX11_digest_15 rfl ?_
      refine g_lmul dX11_digest_16 ?_
      refine g_aload_n dX11_digest_17 rfl ?_
      refine g_iload_n dX11_digest_18 rfl ?_
      refine g_callVi dX11_digest_19 ln_X11_272 ⟨_, rfl⟩ rfl (by decide) ⟨_, _, rfl⟩ rfl (Nat.le_of_ble_eq_true rfl) (Nat.le_of_ble_eq_true rfl) (ct_counts (w := w) hA hO (by omega)) rfl (fun r19 m19 h19 => ?_)
      obtain ⟨rfl, rfl⟩ := h19
      refine g_i2l dX11_digest_22 ?_
      refine g_ladd dX11_digest_23 ?_
      refine g_lstore_n dX11_digest_24 (by decide) ?_
      show Go _ _ _ _ _ _ [_, _, _, _, _] _ _ _
      refine g_iinc dX11_digest_25 rfl (by decide) ?_
      show Go _ _ _ _ _ _ [_, _, _, _, _] _ _ _
      refine g_goto (tgt := 6) dX11_digest_28 (by decide) ?_
      rw [dgA_s] at kk
      rw [nI_inc]
      exact kk
  · skip
    refine g_iload_n dX11_digest_6 rfl ?_
    refine g_bipush (v := 9) dX11_digest_7 (by decide) ?_
    refine g_icmp_ge (tgt := 31) dX11_digest_9 (by decide) (fun c9 => ?_) (fun c9 => ?_)
    · skip
      refine g_ldc2 dX11_digest_31 tb_1464 ?_
      refine g_lload_n dX11_digest_34 rfl ?_
      refine g_lmul dX11_digest_35 ?_
      refine g_aload_n dX11_digest_36 rfl ?_
      refine t_getI dX11_digest_37 fl_X11_176 rfl (by decide) rfl (by decide) ?_
      rw [hE.1]
      refine g_i2l dX11_digest_40 ?_
      refine g_ladd dX11_digest_41 ?_
      rw [show (31 : Int64) * dgA P ds rw tx sh 9 + (nI (evO P ds).1).toInt64 = dg2 P ds rw tx sh from rfl]
      refine g_lstore_n dX11_digest_42 (by decide) ?_
      show Go _ _ _ _ _ _ [_, _, _, _, _] _ _ _
      refine g_iconst (v := 0) dX11_digest_43 (by decide) ?_
      refine g_istore_n dX11_digest_44 (by decide) ?_
      show Go _ _ _ _ _ _ [_, _, _, _, _] _ _ _
      refine go_mem (fun x I2 => Fr [63] I I2) P.2.1 (fun x I2 => Go X (d + 7) 66 M_X11_digest 66 45 [.ref 48, .long (dgC P (dg2 P ds rw tx sh) x), .null, .int (nI x), .null] [] (I2, J, rf0) (RJ (fun y9 m => ∃ I', m = (I', J, rf0) ∧ FrM I I' ∧ y9 = S_digest P ds rw tx sh ∧ AbsM rw tx P ds sh tl ch fn I' J))) (fun x I2 hx h9 kk => ?_) (fun I2 h9 => ?_) _ Fr.rf
      · skip
        refine g_iload_n dX11_digest_45 rfl ?_
        refine g_aload_n dX11_digest_46 rfl ?_
        refine t_getI dX11_digest_47 fl_X11_119 rfl (by decide) rfl (by decide) ?_
        rw [h9 48 (by decide), hP.2.1]
        refine g_icmp_ge (tgt := 89) dX11_digest_50 (by decide) (fun c50 => ?_) (fun c50 => ?_)
        · exact absurd (nI_lt hx (by omega)) (Int32.not_lt.mpr c50)
        · skip
          refine g_iconst (v := 0) dX11_digest_53 (by decide) ?_
          refine g_istore dX11_digest_54 (by decide) ?_
          show Go _ _ _ _ _ _ [_, _, _, _, _] _ _ _
          refine (fun (key : ∀ I7, Fr [63] I I7 → Go X (d + 7) 66 M_X11_digest 66 56 [.ref 48, .long (dgW P x (dgC P (dg2 P ds rw tx sh) x) 0), .null, .int (nI x), .int (nI 0)] [] (I7, J, rf0) (RJ (fun y9 m => ∃ I', m = (I', J, rf0) ∧ FrM I I' ∧ y9 = S_digest P ds rw tx sh ∧ AbsM rw tx P ds sh tl ch fn I' J))) => key _ h9) (fun I7 h7 => ?_)
          refine go_mem (fun v I3 => Fr [63] I I3) 3 (fun v I3 => Go X (d + 7) 66 M_X11_digest 66 56 [.ref 48, .long (dgW P x (dgC P (dg2 P ds rw tx sh) x) v), .null, .int (nI x), .int (nI v)] [] (I3, J, rf0) (RJ (fun y9 m => ∃ I', m = (I', J, rf0) ∧ FrM I I' ∧ y9 = S_digest P ds rw tx sh ∧ AbsM rw tx P ds sh tl ch fn I' J))) (fun v I3 hv h8 kk2 => ?_) (fun I3 h8 => ?_) _ h7
          · skip
            refine g_iload dX11_digest_56 rfl ?_
            refine g_iconst (v := 3) dX11_digest_58 (by decide) ?_
            refine g_icmp_ge (tgt := 83) dX11_digest_59 (by decide) (fun c59 => ?_) (fun c59 => ?_)
            · exact absurd (nI_lt hv (by omega)) (Int32.not_lt.mpr c59)
            · skip
              refine g_ldc2 dX11_digest_62 tb_1464 ?_
              refine g_lload_n dX11_digest_65 rfl ?_
              refine g_lmul dX11_digest_66 ?_
              refine g_aload_n dX11_digest_67 rfl ?_
              refine g_iload_n dX11_digest_68 rfl ?_
              refine g_iload dX11_digest_69 rfl ?_
              refine g_callVi dX11_digest_71 ln_X11_154 ⟨_, rfl⟩ rfl (by decide) ⟨_, _, rfl⟩ rfl (Nat.le_of_ble_eq_true rfl) (Nat.le_of_ble_eq_true rfl) (ct_ofPlace (x := x) (w := v) (hP.scr h8) hQ hx (by omega)) rfl (fun r71 m71 h71 => ?_)
              obtain ⟨rfl, g, rfl⟩ := h71
              refine g_i2l dX11_digest_74 ?_
              refine g_ladd dX11_digest_75 ?_
              refine g_lstore_n dX11_digest_76 (by decide) ?_
              show Go _ _ _ _ _ _ [_, _, _, _, _] _ _ _
              refine g_iinc dX11_digest_77 rfl (by decide) ?_
              show Go _ _ _ _ _ _ [_, _, _, _, _] _ _ _
              refine g_goto (tgt := 56) dX11_digest_80 (by decide) ?_
              rw [dgW_s] at kk2
              rw [nI_inc]
              exact kk2 _ (h8.up (by decide))
          · skip
            refine g_iload dX11_digest_56 rfl ?_
            refine g_iconst (v := 3) dX11_digest_58 (by decide) ?_
            refine g_icmp_ge (tgt := 83) dX11_digest_59 (by decide) (fun c59 => ?_) (fun c59 => ?_)
            · skip
              refine g_iinc dX11_digest_83 rfl (by decide) ?_
              show Go _ _ _ _ _ _ [_, _, _, _, _] _ _ _
              refine g_goto (tgt := 45) dX11_digest_86 (by decide) ?_
              refine g_forget 4 ?_
              show Go _ _ _ _ _ _ [_, _, _, _, _] _ _ _
              rw [dgC_s] at kk
              rw [nI_inc]
              exact kk _ h8
            · exact absurd (by decide) c59
      · skip
        refine g_iload_n dX11_digest_45 rfl ?_
        refine g_aload_n dX11_digest_46 rfl ?_
        refine t_getI dX11_digest_47 fl_X11_119 rfl (by decide) rfl (by decide) ?_
        rw [h9 48 (by decide), hP.2.1]
        refine g_icmp_ge (tgt := 89) dX11_digest_50 (by decide) (fun c50 => ?_) (fun c50 => ?_)
        · skip
          rw [show dgC P (dg2 P ds rw tx sh) P.2.1 = dg3 P ds rw tx sh from rfl]
          have hA2 := hA.s63 h9
          have hE2 := hA2.2.2.2.1.2.2
          refine g_iconst (v := 0) dX11_digest_89 (by decide) ?_
          refine g_istore_n dX11_digest_90 (by decide) ?_
          show Go _ _ _ _ _ _ [_, _, _, _, _] _ _ _
          refine go_ix P.1 (fun p => Go X (d + 7) 66 M_X11_digest 66 91 [.ref 48, .long (dgD (evO P ds).2.2.1 (dg3 P ds rw tx sh) p), .null, .int (nI p), .null] [] (I2, J, rf0) (RJ (fun y9 m => ∃ I', m = (I', J, rf0) ∧ FrM I I' ∧ y9 = S_digest P ds rw tx sh ∧ AbsM rw tx P ds sh tl ch fn I' J))) (fun p hp kk => ?_) ?_
          · skip
            refine g_iload_n dX11_digest_91 rfl ?_
            refine g_aload_n dX11_digest_92 rfl ?_
            refine t_getI dX11_digest_93 fl_X11_116 rfl (by decide) rfl (by decide) ?_
            rw [hA2.2.2.1.1]
            refine g_icmp_ge (tgt := 123) dX11_digest_96 (by decide) (fun c96 => ?_) (fun c96 => ?_)
            · exact absurd (nI_lt hp (by omega)) (Int32.not_lt.mpr c96)
            · skip
              refine g_ldc2 dX11_digest_99 tb_1464 ?_
              refine g_lload_n dX11_digest_102 rfl ?_
              refine g_lmul dX11_digest_103 ?_
              refine g_aload_n dX11_digest_104 rfl ?_
              refine t_getR dX11_digest_105 fl_X11_44 rfl (by decide) rfl (by decide) rfl ?_
              refine g_iload_n dX11_digest_108 rfl ?_
              refine t_iald dX11_digest_109 rfl (by decide) (in_nI (by omega) (by decide)) ?_
              rw [cl_nI (by omega), hE2.2.2.2.1 p (by omega)]
              refine g_i2l dX11_digest_110 ?_
              refine g_ladd dX11_digest_111 ?_
              refine g_ldc2 dX11_digest_112 tb_1187 ?_
              refine g_ladd dX11_digest_115 ?_
              refine g_lstore_n dX11_digest_116 (by decide) ?_
              show Go _ _ _ _ _ _ [_, _, _, _, _] _ _ _
              refine g_iinc dX11_digest_117 rfl (by decide) ?_
              show Go _ _ _ _ _ _ [_, _, _, _, _] _ _ _
              refine g_goto (tgt := 91) dX11_digest_120 (by decide) ?_
              rw [dgD_s] at kk
              rw [nI_inc]
              exact kk
          · skip
            refine g_iload_n dX11_digest_91 rfl ?_
            refine g_aload_n dX11_digest_92 rfl ?_
            refine t_getI dX11_digest_93 fl_X11_116 rfl (by decide) rfl (by decide) ?_
            rw [hA2.2.2.1.1]
            refine g_icmp_ge (tgt := 123) dX11_digest_96 (by decide) (fun c96 => ?_) (fun c96 => ?_)
            · skip
              rw [show dgD (evO P ds).2.2.1 (dg3 P ds rw tx sh) P.1 = dg4 P ds rw tx sh from rfl]
              refine g_iconst (v := 0) dX11_digest_123 (by decide) ?_
              refine g_istore_n dX11_digest_124 (by decide) ?_
              show Go _ _ _ _ _ _ [_, _, _, _, _] _ _ _
              refine go_ix ((evO P ds).1 - (evO P ds).2.1) (fun i => Go X (d + 7) 66 M_X11_digest 66 125 [.ref 48, .long (dgE (evO P ds) (dg4 P ds rw tx sh) i), .null, .int (nI i), .null] [] (I2, J, rf0) (RJ (fun y9 m => ∃ I', m = (I', J, rf0) ∧ FrM I I' ∧ y9 = S_digest P ds rw tx sh ∧ AbsM rw tx P ds sh tl ch fn I' J))) (fun i hi kk => ?_) ?_
              · skip
                refine g_iload_n dX11_digest_125 rfl ?_
                refine g_aload_n dX11_digest_126 rfl ?_
                refine t_getI dX11_digest_127 fl_X11_182 rfl (by decide) rfl (by decide) ?_
                rw [hE2.2.2.1]
                refine g_icmp_ge (tgt := 153) dX11_digest_130 (by decide) (fun c130 => ?_) (fun c130 => ?_)
                · exact absurd (nI_lt hi (by omega)) (Int32.not_lt.mpr c130)
                · skip
                  refine g_ldc2 dX11_digest_133 tb_1464 ?_
                  refine g_lload_n dX11_digest_136 rfl ?_
                  refine g_lmul dX11_digest_137 ?_
                  refine g_aload_n dX11_digest_138 rfl ?_
                  refine t_getR dX11_digest_139 fl_X11_47 rfl (by decide) rfl (by decide) rfl ?_
                  refine g_iload_n dX11_digest_142 rfl ?_
                  refine t_iald dX11_digest_143 rfl (by decide) (in_nI (by omega) (by decide)) ?_
                  rw [cl_nI (by omega), hE2.2.2.2.2 i hi]
                  refine g_i2l dX11_digest_144 ?_
                  refine g_ladd dX11_digest_145 ?_
                  refine g_lstore_n dX11_digest_146 (by decide) ?_
                  show Go _ _ _ _ _ _ [_, _, _, _, _] _ _ _
                  refine g_iinc dX11_digest_147 rfl (by decide) ?_
                  show Go _ _ _ _ _ _ [_, _, _, _, _] _ _ _
                  refine g_goto (tgt := 125) dX11_digest_150 (by decide) ?_
                  rw [dgE_s] at kk
                  rw [nI_inc]
                  exact kk
              · skip
                refine g_iload_n dX11_digest_125 rfl ?_
                refine g_aload_n dX11_digest_126 rfl ?_
                refine t_getI dX11_digest_127 fl_X11_182 rfl (by decide) rfl (by decide) ?_
                rw [hE2.2.2.1]
                refine g_icmp_ge (tgt := 153) dX11_digest_130 (by decide) (fun c130 => ?_) (fun c130 => ?_)
                · skip
                  rw [show dgE (evO P ds) (dg4 P ds rw tx sh) ((evO P ds).1 - (evO P ds).2.1) = dg5 P ds rw tx sh from rfl]
                  refine g_iconst (v := 1) dX11_digest_153 (by decide) ?_
                  refine g_istore_n dX11_digest_154 (by decide) ?_
                  show Go _ _ _ _ _ _ [_, _, _, _, _] _ _ _
                  refine go_ix 3 (fun k => Go X (d + 7) 66 M_X11_digest 66 155 [.ref 48, .long (dgG sh (dg5 P ds rw tx sh) k), .null, .int (nI (k + 1)), .null] [] (I2, J, rf0) (RJ (fun y9 m => ∃ I', m = (I', J, rf0) ∧ FrM I I' ∧ y9 = S_digest P ds rw tx sh ∧ AbsM rw tx P ds sh tl ch fn I' J))) (fun k hk kk => ?_) ?_
                  · skip
                    refine g_iload_n dX11_digest_155 rfl ?_
                    refine g_iconst (v := 4) dX11_digest_156 (by decide) ?_
                    refine g_icmp_ge (tgt := 180) dX11_digest_157 (by decide) (fun c157 => ?_) (fun c157 => ?_)
                    · exact absurd (nI_lt (show k + 1 < 4 by omega) (by decide)) (Int32.not_lt.mpr c157)
                    · skip
                      refine g_ldc2 dX11_digest_160 tb_1464 ?_
                      refine g_lload_n dX11_digest_163 rfl ?_
                      refine g_lmul dX11_digest_164 ?_
                      refine g_aload_n dX11_digest_165 rfl ?_
                      refine t_getR dX11_digest_166 fl_X11_38 rfl (by decide) rfl (by decide) rfl ?_
                      refine g_iload_n dX11_digest_169 rfl ?_
                      refine t_iald dX11_digest_170 rfl (by decide) (in_nI (by omega) (by decide)) ?_
                      rw [cl_nI (by omega), (hA2.2.2.2.2.1 k hk).1]
                      refine g_i2l dX11_digest_171 ?_
                      refine g_ladd dX11_digest_172 ?_
                      refine g_lstore_n dX11_digest_173 (by decide) ?_
                      show Go _ _ _ _ _ _ [_, _, _, _, _] _ _ _
                      refine g_iinc dX11_digest_174 rfl (by decide) ?_
                      show Go _ _ _ _ _ _ [_, _, _, _, _] _ _ _
                      refine g_goto (tgt := 155) dX11_digest_177 (by decide) ?_
                      rw [dgG_s] at kk
                      rw [nI_inc]
                      exact kk
                  · skip
                    refine g_iload_n dX11_digest_155 rfl ?_
                    refine g_iconst (v := 4) dX11_digest_156 (by decide) ?_
                    refine g_icmp_ge (tgt := 180) dX11_digest_157 (by decide) (fun c157 => ?_) (fun c157 => ?_)
                    · skip
                      rw [show dgG sh (dg5 P ds rw tx sh) 3 = dg6 P ds rw tx sh from rfl]
                      refine g_iconst (v := 0) dX11_digest_180 (by decide) ?_
                      refine g_istore_n dX11_digest_181 (by decide) ?_
                      show Go _ _ _ _ _ _ [_, _, _, _, _] _ _ _
                      refine go_ix 6 (fun r => Go X (d + 7) 66 M_X11_digest 66 182 [.ref 48, .long (dgTab r rw (dg6 P ds rw tx sh)), .null, .int (nI r), .null] [] (I2, J, rf0) (RJ (fun y9 m => ∃ I', m = (I', J, rf0) ∧ FrM I I' ∧ y9 = S_digest P ds rw tx sh ∧ AbsM rw tx P ds sh tl ch fn I' J))) (fun r hr kk => ?_) ?_
                      · skip
                        refine g_iload_n dX11_digest_182 rfl ?_
                        refine g_bipush (v := 6) dX11_digest_183 (by decide) ?_
                        refine g_icmp_ge (tgt := 248) dX11_digest_185 (by decide) (fun c185 => ?_) (fun c185 => ?_)
                        · exact absurd (nI_lt hr (by omega)) (Int32.not_lt.mpr c185)
                        · skip
                          refine g_ldc2 dX11_digest_188 tb_1464 ?_
                          refine g_lload_n dX11_digest_191 rfl ?_
                          refine g_lmul dX11_digest_192 ?_
                          refine g_aload_n dX11_digest_193 rfl ?_
                          refine t_getR dX11_digest_194 fl_X11_7 rfl (by decide) rfl (by decide) rfl ?_
                          refine g_iload_n dX11_digest_197 rfl ?_
                          refine t_iald dX11_digest_198 rfl (by decide) (in_nI (by omega) (by decide)) ?_
                          rw [cl_nI (by omega), (hA2.1 r hr).1]
                          refine g_i2l dX11_digest_199 ?_
                          refine g_ladd dX11_digest_200 ?_
                          refine g_lstore_n dX11_digest_201 (by decide) ?_
                          show Go _ _ _ _ _ _ [_, _, _, _, _] _ _ _
                          refine g_iconst (v := 0) dX11_digest_202 (by decide) ?_
                          refine g_istore dX11_digest_203 (by decide) ?_
                          show Go _ _ _ _ _ _ [_, _, _, _, _] _ _ _
                          refine go_ix ((rw.1 r).getD 0) (fun i => Go X (d + 7) 66 M_X11_digest 66 205 [.ref 48, .long (dgRow (rw.2 r) i (dgV (dgTab r rw (dg6 P ds rw tx sh)) (szI (rw.1 r)))), .null, .int (nI r), .int (nI i)] [] (I2, J, rf0) (RJ (fun y9 m => ∃ I', m = (I', J, rf0) ∧ FrM I I' ∧ y9 = S_digest P ds rw tx sh ∧ AbsM rw tx P ds sh tl ch fn I' J))) (fun i hi kk2 => ?_) ?_
                          · obtain ⟨c, htr, hic⟩ := szI_in hi
                            have hc := hO.1 r hr c htr
                            refine g_iload dX11_digest_205 rfl ?_
                            refine g_aload_n dX11_digest_207 rfl ?_
                            refine t_getR dX11_digest_208 fl_X11_7 rfl (by decide) rfl (by decide) rfl ?_
                            refine g_iload_n dX11_digest_211 rfl ?_
                            refine t_iald dX11_digest_212 rfl (by decide) (in_nI (by omega) (by decide)) ?_
                            rw [cl_nI (by omega), (hA2.1 r hr).1]
                            refine g_icmp_ge (tgt := 242) dX11_digest_213 (by decide) (fun c213 => ?_) (fun c213 => ?_)
                            · exact absurd (nI_lt hic (by omega)) (Int32.not_lt.mpr (by rw [htr] at c213; exact c213))
                            · skip
                              refine g_ldc2 dX11_digest_216 tb_1464 ?_
                              refine g_lload_n dX11_digest_219 rfl ?_
                              refine g_lmul dX11_digest_220 ?_
                              refine g_aload_n dX11_digest_221 rfl ?_
                              refine t_getR dX11_digest_222 fl_X11_13 rfl (by decide) rfl (by decide) rfl ?_
                              refine g_bipush (v := 40) dX11_digest_225 (by decide) ?_
                              refine g_iload_n dX11_digest_227 rfl ?_
                              refine g_imul dX11_digest_228 ?_
                              refine g_iload dX11_digest_229 rfl ?_
                              refine g_iadd dX11_digest_231 ?_
                              rw [ix40]
                              refine t_iald dX11_digest_232 rfl (by decide) (in_nI (by omega) (by decide)) ?_
                              rw [cl_nI (by omega), (hA2.1 r hr).2 c htr i hic]
                              refine g_i2l dX11_digest_233 ?_
                              refine g_ladd dX11_digest_234 ?_
                              refine g_lstore_n dX11_digest_235 (by decide) ?_
                              show Go _ _ _ _ _ _ [_, _, _, _, _] _ _ _
                              refine g_iinc dX11_digest_236 rfl (by decide) ?_
                              show Go _ _ _ _ _ _ [_, _, _, _, _] _ _ _
                              refine g_goto (tgt := 205) dX11_digest_239 (by decide) ?_
                              rw [dgRow_s] at kk2
                              rw [nI_inc]
                              exact kk2
                          · skip
                            refine g_iload dX11_digest_205 rfl ?_
                            refine g_aload_n dX11_digest_207 rfl ?_
                            refine t_getR dX11_digest_208 fl_X11_7 rfl (by decide) rfl (by decide) rfl ?_
                            refine g_iload_n dX11_digest_211 rfl ?_
                            refine t_iald dX11_digest_212 rfl (by decide) (in_nI (by omega) (by decide)) ?_
                            rw [cl_nI (by omega), (hA2.1 r hr).1]
                            refine g_icmp_ge (tgt := 242) dX11_digest_213 (by decide) (fun c213 => ?_) (fun c213 => ?_)
                            · skip
                              refine g_iinc dX11_digest_242 rfl (by decide) ?_
                              show Go _ _ _ _ _ _ [_, _, _, _, _] _ _ _
                              refine g_goto (tgt := 182) dX11_digest_245 (by decide) ?_
                              refine g_forget 4 ?_
                              show Go _ _ _ _ _ _ [_, _, _, _, _] _ _ _
                              rw [dgTab_s] at kk
                              rw [nI_inc]
                              exact kk
                            · exact absurd (szI_ex _) c213
                      · skip
                        refine g_iload_n dX11_digest_182 rfl ?_
                        refine g_bipush (v := 6) dX11_digest_183 (by decide) ?_
                        refine g_icmp_ge (tgt := 248) dX11_digest_185 (by decide) (fun c185 => ?_) (fun c185 => ?_)
                        · skip
                          refine g_iconst (v := 0) dX11_digest_248 (by decide) ?_
                          refine g_istore_n dX11_digest_249 (by decide) ?_
                          show Go _ _ _ _ _ _ [_, _, _, _, _] _ _ _
                          refine go_ix 4 (fun t => Go X (d + 7) 66 M_X11_digest 66 250 [.ref 48, .long (dgTab t tx (dgTab 6 rw (dg6 P ds rw tx sh))), .null, .int (nI t), .null] [] (I2, J, rf0) (RJ (fun y9 m => ∃ I', m = (I', J, rf0) ∧ FrM I I' ∧ y9 = S_digest P ds rw tx sh ∧ AbsM rw tx P ds sh tl ch fn I' J))) (fun t ht kk => ?_) ?_
                          · skip
                            refine g_iload_n dX11_digest_250 rfl ?_
                            refine g_iconst (v := 4) dX11_digest_251 (by decide) ?_
                            refine g_icmp_ge (tgt := 315) dX11_digest_252 (by decide) (fun c252 => ?_) (fun c252 => ?_)
                            · exact absurd (nI_lt ht (by omega)) (Int32.not_lt.mpr c252)
                            · skip
                              refine g_ldc2 dX11_digest_255 tb_1464 ?_
                              refine g_lload_n dX11_digest_258 rfl ?_
                              refine g_lmul dX11_digest_259 ?_
                              refine g_aload_n dX11_digest_260 rfl ?_
                              refine t_getR dX11_digest_261 fl_X11_16 rfl (by decide) rfl (by decide) rfl ?_
                              refine g_iload_n dX11_digest_264 rfl ?_
                              refine t_iald dX11_digest_265 rfl (by decide) (in_nI (by omega) (by decide)) ?_
                              rw [cl_nI (by omega), (hA2.2.1 t ht).1]
                              refine g_i2l dX11_digest_266 ?_
                              refine g_ladd dX11_digest_267 ?_
                              refine g_lstore_n dX11_digest_268 (by decide) ?_
                              show Go _ _ _ _ _ _ [_, _, _, _, _] _ _ _
                              refine g_iconst (v := 0) dX11_digest_269 (by decide) ?_
                              refine g_istore dX11_digest_270 (by decide) ?_
                              show Go _ _ _ _ _ _ [_, _, _, _, _] _ _ _
                              refine go_ix ((tx.1 t).getD 0) (fun i => Go X (d + 7) 66 M_X11_digest 66 272 [.ref 48, .long (dgRow (tx.2 t) i (dgV (dgTab t tx (dgTab 6 rw (dg6 P ds rw tx sh))) (szI (tx.1 t)))), .null, .int (nI t), .int (nI i)] [] (I2, J, rf0) (RJ (fun y9 m => ∃ I', m = (I', J, rf0) ∧ FrM I I' ∧ y9 = S_digest P ds rw tx sh ∧ AbsM rw tx P ds sh tl ch fn I' J))) (fun i hi kk2 => ?_) ?_
                              · obtain ⟨c, htr, hic⟩ := szI_in hi
                                have hc := hO.2.1 t ht c htr
                                refine g_iload dX11_digest_272 rfl ?_
                                refine g_aload_n dX11_digest_274 rfl ?_
                                refine t_getR dX11_digest_275 fl_X11_16 rfl (by decide) rfl (by decide) rfl ?_
                                refine g_iload_n dX11_digest_278 rfl ?_
                                refine t_iald dX11_digest_279 rfl (by decide) (in_nI (by omega) (by decide)) ?_
                                rw [cl_nI (by omega), (hA2.2.1 t ht).1]
                                refine g_icmp_ge (tgt := 309) dX11_digest_280 (by decide) (fun c280 => ?_) (fun c280 => ?_)
                                · exact absurd (nI_lt hic (by omega)) (Int32.not_lt.mpr (by rw [htr] at c280; exact c280))
                                · skip
                                  refine g_ldc2 dX11_digest_283 tb_1464 ?_
                                  refine g_lload_n dX11_digest_286 rfl ?_
                                  refine g_lmul dX11_digest_287 ?_
                                  refine g_aload_n dX11_digest_288 rfl ?_
                                  refine t_getR dX11_digest_289 fl_X11_19 rfl (by decide) rfl (by decide) rfl ?_
                                  refine g_bipush (v := 80) dX11_digest_292 (by decide) ?_
                                  refine g_iload_n dX11_digest_294 rfl ?_
                                  refine g_imul dX11_digest_295 ?_
                                  refine g_iload dX11_digest_296 rfl ?_
                                  refine g_iadd dX11_digest_298 ?_
                                  rw [ix80]
                                  refine t_bald dX11_digest_299 rfl (by decide) (in_nI (by omega) (by decide)) ?_
                                  rw [cl_nI (by omega), (hA2.2.1 t ht).2 c htr i hic]
                                  refine g_i2l dX11_digest_300 ?_
                                  refine g_ladd dX11_digest_301 ?_
                                  refine g_lstore_n dX11_digest_302 (by decide) ?_
                                  show Go _ _ _ _ _ _ [_, _, _, _, _] _ _ _
                                  refine g_iinc dX11_digest_303 rfl (by decide) ?_
                                  show Go _ _ _ _ _ _ [_, _, _, _, _] _ _ _
                                  refine g_goto (tgt := 272) dX11_digest_306 (by decide) ?_
                                  rw [dgRow_s] at kk2
                                  rw [nI_inc]
                                  exact kk2
                              · skip
                                refine g_iload dX11_digest_272 rfl ?_
                                refine g_aload_n dX11_digest_274 rfl ?_
                                refine t_getR dX11_digest_275 fl_X11_16 rfl (by decide) rfl (by decide) rfl ?_
                                refine g_iload_n dX11_digest_278 rfl ?_
                                refine t_iald dX11_digest_279 rfl (by decide) (in_nI (by omega) (by decide)) ?_
                                rw [cl_nI (by omega), (hA2.2.1 t ht).1]
                                refine g_icmp_ge (tgt := 309) dX11_digest_280 (by decide) (fun c280 => ?_) (fun c280 => ?_)
                                · skip
                                  refine g_iinc dX11_digest_309 rfl (by decide) ?_
                                  show Go _ _ _ _ _ _ [_, _, _, _, _] _ _ _
                                  refine g_goto (tgt := 250) dX11_digest_312 (by decide) ?_
                                  refine g_forget 4 ?_
                                  show Go _ _ _ _ _ _ [_, _, _, _, _] _ _ _
                                  rw [dgTab_s] at kk
                                  rw [nI_inc]
                                  exact kk
                                · exact absurd (szI_ex _) c280
                          · skip
                            refine g_iload_n dX11_digest_250 rfl ?_
                            refine g_iconst (v := 4) dX11_digest_251 (by decide) ?_
                            refine g_icmp_ge (tgt := 315) dX11_digest_252 (by decide) (fun c252 => ?_) (fun c252 => ?_)
                            · skip
                              refine g_lload_n dX11_digest_315 rfl ?_
                              refine g_lret dX11_digest_316 rfl ?_
                              exact ⟨_, rfl, FrM.of h9 (by decide), rfl, hA2⟩
                            · exact absurd (by decide) c252
                        · exact absurd (by decide) c185
                    · exact absurd (by decide) c157
                · exact absurd (Int32.le_refl _) c130
            · exact absurd (Int32.le_refl _) c96
        · exact absurd (Int32.le_refl _) c50
    · exact absurd (by decide) c9
end
