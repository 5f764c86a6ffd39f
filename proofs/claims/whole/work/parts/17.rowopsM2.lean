section
variable {X : Nat × (Nat → Int32)} {d : Nat} {I : Nat → Nat → Int32} {J : Nat → Nat → Int64}
theorem hasN_64 {s : Nat} {i c : Int32} (hs : s < 2 ^ 31) : hasN s i c = true ↔ 0 ≤ i ∧ 0 ≤ c ∧ i.toInt64 + c.toInt64 ≤ (nI s).toInt64 := by
  unfold hasN
  rw [decide_eq_true_iff, Int32.le_iff_toInt_le, Int32.le_iff_toInt_le, Int64.le_iff_toInt_le, Int64.toInt_add, Int32.toInt_toInt64, Int32.toInt_toInt64, Int32.toInt_toInt64, nI_toInt hs]
  have a1 := Int32.le_toInt i
  have a2 := Int32.toInt_lt i
  have b1 := Int32.le_toInt c
  have b2 := Int32.toInt_lt c
  have e : (i.toInt + c.toInt).bmod (2 ^ 64) = i.toInt + c.toInt := by
    apply Int.bmod_eq_of_le <;> omega
  have z : (0 : Int32).toInt = 0 := by decide
  rw [e, z]
theorem hasN_no {s : Nat} {i c : Int32} (h : ¬ hasN s i c = true) : hasN s i c = false := by cases hh : hasN s i c with
  | true => exact absurd hh h
  | false => rfl
theorem RwM.copy {t : Tab} {x a y b c s u : Nat} {T g : Nat → Int32} (h : RwM t I) (hO : TabOK 6 40 t) (hx : x < 6) (hy : y < 6) (hs : t.1 x = some s) (hu : t.1 y = some u) (ha : a + c ≤ s) (hb : b + c ≤ u) (hg : ∀ q, g q = if 40 * y + b ≤ q ∧ q < 40 * y + b + c then I 50 (40 * x + a + (q - (40 * y + b))) else I 50 q) : RwM (tabCopy t x a y b c) (upR (upR I 53 T) 50 g) := by
  intro r hr
  refine ⟨?_, fun c' hc i hi => ?_⟩
  · rw [upR_n (by decide), upR_n (by decide)]; exact (h r hr).1
  · have hb1 := hO r hr c' hc
    have hb2 := hO y hy u hu
    rw [upR_s]
    show g (40 * r + i) = upR t.2 y (va_cpy (t.2 x) (t.2 y) a b c) r i
    rw [hg]
    by_cases e : r = y
    · subst e
      rw [upR_s]
      unfold va_cpy
      by_cases h2 : b ≤ i ∧ i < b + c
      · rw [if_pos (by omega), if_pos h2, show 40 * x + a + (40 * r + i - (40 * r + b)) = 40 * x + (a + (i - b)) by omega]
        exact (h x hx).2 s hs _ (by omega)
      · rw [if_neg (by omega), if_neg h2]; exact (h r hr).2 c' hc i hi
    · rw [upR_n e, if_neg (by omega)]; exact (h r hr).2 c' hc i hi
theorem pm_copy {rw tx : Tab} {P : Pce} {ds : List Deed} {sh : Shf} {tl : Int32} {ch : Int64 × Int64} {fn : Fnd} {r i to j n : Int32} (hA : AbsM rw tx P ds sh tl ch fn I J) (hO : StOK rw tx P ds sh) : Ct X (d + 1) 66 M_X11_copy 66 [.ref 48, .int r, .int i, .int to, .int j, .int n] (I, J, rf0) (RI (fun x m => ∃ I', m = (I', J, rf0) ∧ FrM I I' ∧ x = (S_copy rw fn r i to j n).1 ∧ AbsM (S_copy rw fn r i to j n).2.1 tx P ds sh tl ch (S_copy rw fn r i to j n).2.2 I' J)) := by
  show Go _ _ _ _ _ _ [_, _, _, _, _, _, _] _ _ _
  refine g_iload_n dX11_copy_0 rfl ?_
  refine g_i2l dX11_copy_1 ?_
  refine g_lconst (v := 0) dX11_copy_2 (by decide) ?_
  refine g_ldc2 dX11_copy_3 tb_1084 ?_
  refine g_callSi dX11_copy_6 ln_X11_76 ⟨_, rfl⟩ rfl (Nat.le_of_ble_eq_true rfl) (Nat.le_of_ble_eq_true rfl) ct_in rfl (fun r6 m6 h6 => ?_)
  obtain ⟨rfl, rfl⟩ := h6
  rw [inJ_6]
  refine g_if_eq (tgt := 24) dX11_copy_9 (by decide) (fun c9 => ?_) (fun c9 => ?_)
  · skip
    refine g_iconst (v := -1) dX11_copy_24 (by decide) ?_
    refine g_iret dX11_copy_25 (fun ty h => by cases h; rfl) ?_
    first
      | (have hS : S_copy rw fn r i to j n = (-1, rw, fn) := by
           unfold S_copy; rw [look_bad (bI_eq c9)]
         exact ⟨_, rfl, FrM.rf, by rw [hS], by rw [hS]; exact hA⟩)
      | (have hS : S_copy rw fn (nI x) i to j n = (-1, rw, fn) := by
           unfold S_copy; rw [look_nI (by decide) hx, look_bad (bI_eq c21)]
         exact ⟨_, rfl, FrM.rf, by rw [hS], by rw [hS]; exact hA⟩)
  · skip
    obtain ⟨x, hx, rfl⟩ := inR_ix (by decide) (bI_ne c9)
    refine g_iload_n dX11_copy_12 rfl ?_
    refine g_i2l dX11_copy_13 ?_
    refine g_lconst (v := 0) dX11_copy_14 (by decide) ?_
    refine g_ldc2 dX11_copy_15 tb_1084 ?_
    refine g_callSi dX11_copy_18 ln_X11_76 ⟨_, rfl⟩ rfl (Nat.le_of_ble_eq_true rfl) (Nat.le_of_ble_eq_true rfl) ct_in rfl (fun r18 m18 h18 => ?_)
    obtain ⟨rfl, rfl⟩ := h18
    rw [inJ_6]
    refine g_if_ne (tgt := 26) dX11_copy_21 (by decide) (fun c21 => ?_) (fun c21 => ?_)
    · skip
      obtain ⟨y, hy, rfl⟩ := inR_ix (by decide) (bI_ne c21)
      refine g_iload dX11_copy_26 rfl ?_
      refine g_if_ge (tgt := 37) dX11_copy_28 (by decide) (fun c28 => ?_) (fun c28 => ?_)
      · skip
        refine g_aload_n dX11_copy_37 rfl ?_
        refine t_getR dX11_copy_38 fl_X11_7 rfl (by decide) rfl (by decide) rfl ?_
        refine g_iload_n dX11_copy_41 rfl ?_
        refine t_iald dX11_copy_42 rfl (by decide) (in_nI hx (by decide)) ?_
        rw [cl_nI (by omega), (hA.1 x hx).1]
        refine g_if_lt (tgt := 55) dX11_copy_43 (by decide) (fun c43 => ?_) (fun c43 => ?_)
        · skip
          refine g_aload_n dX11_copy_55 rfl ?_
          refine g_iconst (v := 1) dX11_copy_56 (by decide) ?_
          refine g_callVi dX11_copy_57 ln_X11_80 ⟨_, rfl⟩ rfl (by decide) ⟨_, _, rfl⟩ rfl (Nat.le_of_ble_eq_true rfl) (Nat.le_of_ble_eq_true rfl) (ct_finds (w := 1) (by decide)) rfl (fun r57 m57 h57 => ?_)
          obtain ⟨rfl, rfl⟩ := h57
          refine g_iret dX11_copy_60 (fun ty h => by cases h; rfl) ?_
          have hS : S_copy rw fn (nI x) i (nI y) j n = (-3, rw, fndS 1 fn) := by
            unfold S_copy; rw [look_nI (by decide) hx, look_nI (by decide) hy]; simp only [if_neg (Int32.not_lt.mpr c28)]
            cases hox : rw.1 x with
            | none => rfl
            | some cx =>
              cases hoy : rw.1 y with
              | none => rfl
              | some cy =>
                exfalso
                have k1 := hO.1 x hx cx hox
                have k2 := hO.1 y hy cy hoy
                first
                  | (rw [hox] at c43; exact nI_neg (by omega) c43)
                  | (rw [hoy] at c52; exact c52 (nI_pos' (by omega)))
          exact ⟨_, rfl, FrM.find, by rw [hS], by rw [hS]; exact hA.find (by decide)⟩
        · skip
          refine g_aload_n dX11_copy_46 rfl ?_
          refine t_getR dX11_copy_47 fl_X11_7 rfl (by decide) rfl (by decide) rfl ?_
          refine g_iload_n dX11_copy_50 rfl ?_
          refine t_iald dX11_copy_51 rfl (by decide) (in_nI hy (by decide)) ?_
          rw [cl_nI (by omega), (hA.1 y hy).1]
          refine g_if_ge (tgt := 61) dX11_copy_52 (by decide) (fun c52 => ?_) (fun c52 => ?_)
          · skip
            obtain ⟨cx, htx⟩ : ∃ cx, rw.1 x = some cx := by
              cases hh : rw.1 x with
              | none => rw [hh] at c43; exact absurd (show szI none < 0 by decide) c43
              | some q => exact ⟨q, rfl⟩
            have hcx := hO.1 x hx cx htx
            have hsx : I 49 x = nI cx := by have := (hA.1 x hx).1; rw [htx] at this; exact this
            obtain ⟨cy, hty⟩ : ∃ cy, rw.1 y = some cy := by
              cases hh : rw.1 y with
              | none => rw [hh] at c52; exact absurd c52 (by decide)
              | some q => exact ⟨q, rfl⟩
            have hcy := hO.1 y hy cy hty
            have hsy : I 49 y = nI cy := by have := (hA.1 y hy).1; rw [hty] at this; exact this
            refine g_iload_n dX11_copy_61 rfl ?_
            refine g_if_lt (tgt := 105) dX11_copy_62 (by decide) (fun c62 => ?_) (fun c62 => ?_)
            · skip
              refine g_aload_n dX11_copy_105 rfl ?_
              refine g_iconst (v := 2) dX11_copy_106 (by decide) ?_
              refine g_callVi dX11_copy_107 ln_X11_80 ⟨_, rfl⟩ rfl (by decide) ⟨_, _, rfl⟩ rfl (Nat.le_of_ble_eq_true rfl) (Nat.le_of_ble_eq_true rfl) (ct_finds (w := 2) (by decide)) rfl (fun r107 m107 h107 => ?_)
              obtain ⟨rfl, rfl⟩ := h107
              refine g_iret dX11_copy_110 (fun ty h => by cases h; rfl) ?_
              have hS : S_copy rw fn (nI x) i (nI y) j n = (-3, rw, fndS 2 fn) := by
                unfold S_copy; rw [look_nI (by decide) hx, look_nI (by decide) hy, htx, hty]; simp only [if_neg (Int32.not_lt.mpr c28)]
                first
                  | (rw [hasN_no (fun q => absurd ((hasN_64 (by omega)).mp q).1 (Int32.not_le.mpr c62))]; rfl)
                  | (rw [hasN_no (s := cy) (fun q => absurd ((hasN_64 (by omega)).mp q).1 (Int32.not_le.mpr c67)), Bool.and_false]; rfl)
                  | (rw [hasN_no (s := cx) (fun q => absurd ((hasN_64 (by omega)).mp q).2.2 (lc_gt c84))]; rfl)
                  | (rw [hasN_no (s := cy) (fun q => absurd ((lg_cmp_le _ _).mpr ((hasN_64 (by omega)).mp q).2.2) c102), Bool.and_false]; rfl)
              exact ⟨_, rfl, FrM.find, by rw [hS], by rw [hS]; exact hA.find (by decide)⟩
            · skip
              refine g_iload dX11_copy_65 rfl ?_
              refine g_if_lt (tgt := 105) dX11_copy_67 (by decide) (fun c67 => ?_) (fun c67 => ?_)
              · skip
                refine g_aload_n dX11_copy_105 rfl ?_
                refine g_iconst (v := 2) dX11_copy_106 (by decide) ?_
                refine g_callVi dX11_copy_107 ln_X11_80 ⟨_, rfl⟩ rfl (by decide) ⟨_, _, rfl⟩ rfl (Nat.le_of_ble_eq_true rfl) (Nat.le_of_ble_eq_true rfl) (ct_finds (w := 2) (by decide)) rfl (fun r107 m107 h107 => ?_)
                obtain ⟨rfl, rfl⟩ := h107
                refine g_iret dX11_copy_110 (fun ty h => by cases h; rfl) ?_
                have hS : S_copy rw fn (nI x) i (nI y) j n = (-3, rw, fndS 2 fn) := by
                  unfold S_copy; rw [look_nI (by decide) hx, look_nI (by decide) hy, htx, hty]; simp only [if_neg (Int32.not_lt.mpr c28)]
                  first
                    | (rw [hasN_no (fun q => absurd ((hasN_64 (by omega)).mp q).1 (Int32.not_le.mpr c62))]; rfl)
                    | (rw [hasN_no (s := cy) (fun q => absurd ((hasN_64 (by omega)).mp q).1 (Int32.not_le.mpr c67)), Bool.and_false]; rfl)
                    | (rw [hasN_no (s := cx) (fun q => absurd ((hasN_64 (by omega)).mp q).2.2 (lc_gt c84))]; rfl)
                    | (rw [hasN_no (s := cy) (fun q => absurd ((lg_cmp_le _ _).mpr ((hasN_64 (by omega)).mp q).2.2) c102), Bool.and_false]; rfl)
                exact ⟨_, rfl, FrM.find, by rw [hS], by rw [hS]; exact hA.find (by decide)⟩
              · skip
                refine g_iload_n dX11_copy_70 rfl ?_
                refine g_i2l dX11_copy_71 ?_
                refine g_iload dX11_copy_72 rfl ?_
                refine g_i2l dX11_copy_74 ?_
                refine g_ladd dX11_copy_75 ?_
                refine g_aload_n dX11_copy_76 rfl ?_
                refine t_getR dX11_copy_77 fl_X11_7 rfl (by decide) rfl (by decide) rfl ?_
                refine g_iload_n dX11_copy_80 rfl ?_
                refine t_iald dX11_copy_81 rfl (by decide) (in_nI hx (by decide)) ?_
                refine g_i2l dX11_copy_82 ?_
                refine g_lcmp dX11_copy_83 ?_
                rw [cl_nI (by omega), hsx]
                refine g_if_gt (tgt := 105) dX11_copy_84 (by decide) (fun c84 => ?_) (fun c84 => ?_)
                · skip
                  refine g_aload_n dX11_copy_105 rfl ?_
                  refine g_iconst (v := 2) dX11_copy_106 (by decide) ?_
                  refine g_callVi dX11_copy_107 ln_X11_80 ⟨_, rfl⟩ rfl (by decide) ⟨_, _, rfl⟩ rfl (Nat.le_of_ble_eq_true rfl) (Nat.le_of_ble_eq_true rfl) (ct_finds (w := 2) (by decide)) rfl (fun r107 m107 h107 => ?_)
                  obtain ⟨rfl, rfl⟩ := h107
                  refine g_iret dX11_copy_110 (fun ty h => by cases h; rfl) ?_
                  have hS : S_copy rw fn (nI x) i (nI y) j n = (-3, rw, fndS 2 fn) := by
                    unfold S_copy; rw [look_nI (by decide) hx, look_nI (by decide) hy, htx, hty]; simp only [if_neg (Int32.not_lt.mpr c28)]
                    first
                      | (rw [hasN_no (fun q => absurd ((hasN_64 (by omega)).mp q).1 (Int32.not_le.mpr c62))]; rfl)
                      | (rw [hasN_no (s := cy) (fun q => absurd ((hasN_64 (by omega)).mp q).1 (Int32.not_le.mpr c67)), Bool.and_false]; rfl)
                      | (rw [hasN_no (s := cx) (fun q => absurd ((hasN_64 (by omega)).mp q).2.2 (lc_gt c84))]; rfl)
                      | (rw [hasN_no (s := cy) (fun q => absurd ((lg_cmp_le _ _).mpr ((hasN_64 (by omega)).mp q).2.2) c102), Bool.and_false]; rfl)
                  exact ⟨_, rfl, FrM.find, by rw [hS], by rw [hS]; exact hA.find (by decide)⟩
                · skip
                  refine g_iload dX11_copy_87 rfl ?_
                  refine g_i2l dX11_copy_89 ?_
                  refine g_iload dX11_copy_90 rfl ?_
                  refine g_i2l dX11_copy_92 ?_
                  refine g_ladd dX11_copy_93 ?_
                  refine g_aload_n dX11_copy_94 rfl ?_
                  refine t_getR dX11_copy_95 fl_X11_7 rfl (by decide) rfl (by decide) rfl ?_
                  refine g_iload_n dX11_copy_98 rfl ?_
                  refine t_iald dX11_copy_99 rfl (by decide) (in_nI hy (by decide)) ?_
                  refine g_i2l dX11_copy_100 ?_
                  refine g_lcmp dX11_copy_101 ?_
                  rw [cl_nI (by omega), hsy]
                  refine g_if_le (tgt := 111) dX11_copy_102 (by decide) (fun c102 => ?_) (fun c102 => ?_)
                  · skip
                    have q1 : hasN cx i n = true := (hasN_64 (by omega)).mpr ⟨Int32.not_lt.mp c62, c28, lc_le c84⟩
                    have q2 : hasN cy j n = true := (hasN_64 (by omega)).mpr ⟨Int32.not_lt.mp c67, c28, (lg_cmp_le _ _).mp c102⟩
                    obtain ⟨a, c, rfl, rfl, hax⟩ := hasN_get q1
                    obtain ⟨b, c', rfl, hcc, hby⟩ := hasN_get q2
                    have hcc' : c = c' := by
                      have h1 := of_decide_eq_true q1
                      have h2 := of_decide_eq_true q2
                      have e1 : (nI c).toInt = (nI c').toInt := by rw [hcc]
                      rw [nI_toInt (by omega), nI_toInt (by omega)] at e1
                      omega
                    subst hcc'
                    refine g_iconst (v := 0) dX11_copy_111 (by decide) ?_
                    refine g_istore dX11_copy_112 (by decide) ?_
                    show Go _ _ _ _ _ _ [_, _, _, _, _, _, _] _ _ _
                    have hf1 : ∀ i q, foldN (fun (q : Nat) (g : Nat → Int32) => upd g q (I 50 (40 * x + a + q))) (I 53) i q = if q < i then I 50 (40 * x + a + q) else I 53 q := by
                      intro i
                      induction i with
                      | zero => intro q; rw [if_neg (by omega)]; rfl
                      | succ i ih =>
                        intro q
                        show upd (foldN (fun (q : Nat) (g : Nat → Int32) => upd g q (I 50 (40 * x + a + q))) (I 53) i) i (I 50 (40 * x + a + i)) q = _
                        by_cases hq : q = i
                        · subst hq; rw [pk_us, if_pos (by omega)]
                        · rw [pk_un hq, ih q]
                          by_cases h2 : q < i
                          · rw [if_pos h2, if_pos (by omega)]
                          · rw [if_neg h2, if_neg (by omega)]
                    have h00 : (I, J, rf0) = (upR I 53 (I 53), J, rf0) := by
                      refine congrArg (fun z => (z, J, rf0)) (funext fun q => ?_)
                      by_cases hq : q = 53
                      · subst hq; exact upR_s.symm
                      · exact (upR_n hq).symm
                    rw [h00]
                    refine go_for (fun (q : Nat) (g : Nat → Int32) => upd g q (I 50 (40 * x + a + q))) (I 53) c (fun q g => Go X (d + 1) 66 M_X11_copy 66 114 [.ref 48, .int (nI x), .int (nI a), .int (nI y), .int (nI b), .int (nI c), .int (nI q)] [] (upR I 53 g, J, rf0) (RI (fun x_1 m => ∃ I', m = (I', J, rf0) ∧ FrM I I' ∧ x_1 = (S_copy rw fn (nI x) (nI a) (nI y) (nI b) (nI c)).1 ∧ AbsM (S_copy rw fn (nI x) (nI a) (nI y) (nI b) (nI c)).2.1 tx P ds sh tl ch (S_copy rw fn (nI x) (nI a) (nI y) (nI b) (nI c)).2.2 I' J))) (fun q hq kk => ?_) ?_
                    · skip
                      refine g_iload dX11_copy_114 rfl ?_
                      refine g_iload dX11_copy_116 rfl ?_
                      refine g_icmp_ge (tgt := 148) dX11_copy_118 (by decide) (fun c118 => ?_) (fun c118 => ?_)
                      · exact absurd (nI_lt hq (by omega)) (Int32.not_lt.mpr c118)
                      · skip
                        refine g_aload_n dX11_copy_121 rfl ?_
                        refine t_getR dX11_copy_122 fl_X11_23 rfl (by decide) rfl (by decide) rfl ?_
                        refine g_iload dX11_copy_125 rfl ?_
                        refine g_aload_n dX11_copy_127 rfl ?_
                        refine t_getR dX11_copy_128 fl_X11_13 rfl (by decide) rfl (by decide) rfl ?_
                        refine g_bipush (v := 40) dX11_copy_131 (by decide) ?_
                        refine g_iload_n dX11_copy_133 rfl ?_
                        refine g_imul dX11_copy_134 ?_
                        refine g_iload_n dX11_copy_135 rfl ?_
                        refine g_iadd dX11_copy_136 ?_
                        refine g_iload dX11_copy_137 rfl ?_
                        refine g_iadd dX11_copy_139 ?_
                        refine t_iald dX11_copy_140 rfl (by decide) (by rw [ix40, nI_add]; exact in_nI (by omega) (by decide)) ?_
                        refine t_iast dX11_copy_141 rfl (by decide) (in_nI (by omega) (by decide)) ?_
                        refine g_iinc dX11_copy_142 rfl (by decide) ?_
                        show Go _ _ _ _ _ _ [_, _, _, _, _, _, _] _ _ _
                        refine g_goto (tgt := 114) dX11_copy_145 (by decide) ?_
                        rw [nI_inc, ix40, nI_add, cl_nI (by omega), cl_nI (by omega), upR_n (a := 50) (by decide)]
                        have e9 : upR (upR I 53 (foldN (fun (q : Nat) (g : Nat → Int32) => upd g q (I 50 (40 * x + a + q))) (I 53) q)) 53 (upd (upR I 53 (foldN (fun (q : Nat) (g : Nat → Int32) => upd g q (I 50 (40 * x + a + q))) (I 53) q) 53) q (I 50 (40 * x + a + q))) = upR I 53 (foldN (fun (q : Nat) (g : Nat → Int32) => upd g q (I 50 (40 * x + a + q))) (I 53) (q + 1)) := by
                          funext z
                          by_cases hz : z = 53
                          · subst hz; rw [upR_s, upR_s, upR_s]; rfl
                          · rw [upR_n hz, upR_n hz, upR_n hz]
                        rw [e9]
                        exact kk
                    · skip
                      refine g_iload dX11_copy_114 rfl ?_
                      refine g_iload dX11_copy_116 rfl ?_
                      refine g_icmp_ge (tgt := 148) dX11_copy_118 (by decide) (fun c118 => ?_) (fun c118 => ?_)
                      · skip
                        refine g_iconst (v := 0) dX11_copy_148 (by decide) ?_
                        refine g_istore dX11_copy_149 (by decide) ?_
                        show Go _ _ _ _ _ _ [_, _, _, _, _, _, _] _ _ _
                        obtain ⟨T, hT⟩ : ∃ T, T = foldN (fun (q : Nat) (g : Nat → Int32) => upd g q (I 50 (40 * x + a + q))) (I 53) c := ⟨_, rfl⟩
                        rw [← hT]
                        have hT2 : ∀ q, q < c → T q = I 50 (40 * x + a + q) := fun q hq => by rw [hT, hf1, if_pos hq]
                        have hf2 : ∀ i q, i ≤ c → foldN (fun (q : Nat) (g : Nat → Int32) => upd g (40 * y + b + q) (T q)) (I 50) i q = if 40 * y + b ≤ q ∧ q < 40 * y + b + i then I 50 (40 * x + a + (q - (40 * y + b))) else I 50 q := by
                          intro i
                          induction i with
                          | zero => intro q _; rw [if_neg (by omega)]; rfl
                          | succ i ih =>
                            intro q hi
                            show upd (foldN (fun (q : Nat) (g : Nat → Int32) => upd g (40 * y + b + q) (T q)) (I 50) i) (40 * y + b + i) (T i) q = _
                            by_cases hq : q = 40 * y + b + i
                            · subst hq; rw [pk_us, if_pos (by omega), hT2 i (by omega), show 40 * y + b + i - (40 * y + b) = i by omega]
                            · rw [pk_un hq, ih q (by omega)]
                              by_cases h2 : 40 * y + b ≤ q ∧ q < 40 * y + b + i
                              · rw [if_pos h2, if_pos (by omega)]
                              · rw [if_neg h2, if_neg (by omega)]
                        have h01 : (upR I 53 T, J, rf0) = (upR (upR I 53 T) 50 (I 50), J, rf0) := by
                          refine congrArg (fun z => (z, J, rf0)) (funext fun q => ?_)
                          by_cases hq : q = 50
                          · subst hq; rw [upR_s, upR_n (by decide)]
                          · exact (upR_n hq).symm
                        rw [h01]
                        refine go_for (fun (q : Nat) (g : Nat → Int32) => upd g (40 * y + b + q) (T q)) (I 50) c (fun q g => Go X (d + 1) 66 M_X11_copy 66 151 [.ref 48, .int (nI x), .int (nI a), .int (nI y), .int (nI b), .int (nI c), .int (nI q)] [] (upR (upR I 53 T) 50 g, J, rf0) (RI (fun x_1 m => ∃ I', m = (I', J, rf0) ∧ FrM I I' ∧ x_1 = (S_copy rw fn (nI x) (nI a) (nI y) (nI b) (nI c)).1 ∧ AbsM (S_copy rw fn (nI x) (nI a) (nI y) (nI b) (nI c)).2.1 tx P ds sh tl ch (S_copy rw fn (nI x) (nI a) (nI y) (nI b) (nI c)).2.2 I' J))) (fun q hq kk => ?_) ?_
                        · skip
                          refine g_iload dX11_copy_151 rfl ?_
                          refine g_iload dX11_copy_153 rfl ?_
                          refine g_icmp_ge (tgt := 186) dX11_copy_155 (by decide) (fun c155 => ?_) (fun c155 => ?_)
                          · exact absurd (nI_lt hq (by omega)) (Int32.not_lt.mpr c155)
                          · skip
                            refine g_aload_n dX11_copy_158 rfl ?_
                            refine t_getR dX11_copy_159 fl_X11_13 rfl (by decide) rfl (by decide) rfl ?_
                            refine g_bipush (v := 40) dX11_copy_162 (by decide) ?_
                            refine g_iload_n dX11_copy_164 rfl ?_
                            refine g_imul dX11_copy_165 ?_
                            refine g_iload dX11_copy_166 rfl ?_
                            refine g_iadd dX11_copy_168 ?_
                            refine g_iload dX11_copy_169 rfl ?_
                            refine g_iadd dX11_copy_171 ?_
                            refine g_aload_n dX11_copy_172 rfl ?_
                            refine t_getR dX11_copy_173 fl_X11_23 rfl (by decide) rfl (by decide) rfl ?_
                            refine g_iload dX11_copy_176 rfl ?_
                            refine t_iald dX11_copy_178 rfl (by decide) (in_nI (by omega) (by decide)) ?_
                            refine t_iast dX11_copy_179 rfl (by decide) (by rw [ix40, nI_add]; exact in_nI (by omega) (by decide)) ?_
                            refine g_iinc dX11_copy_180 rfl (by decide) ?_
                            show Go _ _ _ _ _ _ [_, _, _, _, _, _, _] _ _ _
                            refine g_goto (tgt := 151) dX11_copy_183 (by decide) ?_
                            rw [nI_inc, ix40, nI_add, cl_nI (by omega), cl_nI (by omega), show upR (upR I 53 T) 50 (foldN (fun (q : Nat) (g : Nat → Int32) => upd g (40 * y + b + q) (T q)) (I 50) q) 53 = T from (upR_n (by decide)).trans upR_s]
                            have e9 : upR (upR (upR I 53 T) 50 (foldN (fun (q : Nat) (g : Nat → Int32) => upd g (40 * y + b + q) (T q)) (I 50) q)) 50 (upd (upR (upR I 53 T) 50 (foldN (fun (q : Nat) (g : Nat → Int32) => upd g (40 * y + b + q) (T q)) (I 50) q) 50) (40 * y + b + q) (T q)) = upR (upR I 53 T) 50 (foldN (fun (q : Nat) (g : Nat → Int32) => upd g (40 * y + b + q) (T q)) (I 50) (q + 1)) := by
                              funext z
                              by_cases hz : z = 50
                              · subst hz; rw [upR_s, upR_s, upR_s]; rfl
                              · rw [upR_n hz, upR_n hz, upR_n hz]
                            rw [e9]
                            exact kk
                        · skip
                          refine g_iload dX11_copy_151 rfl ?_
                          refine g_iload dX11_copy_153 rfl ?_
                          refine g_icmp_ge (tgt := 186) dX11_copy_155 (by decide) (fun c155 => ?_) (fun c155 => ?_)
                          · skip
                            refine g_iconst (v := 1) dX11_copy_186 (by decide) ?_
                            refine g_iret dX11_copy_187 (fun ty h => by cases h; rfl) ?_
                            have hS : S_copy rw fn (nI x) (nI a) (nI y) (nI b) (nI c) = (1, tabCopy rw x a y b c, fn) := by
                              unfold S_copy; rw [look_nI (by decide) hx, look_nI (by decide) hy, htx, hty]; simp only [if_neg (Int32.not_lt.mpr c28), q1, q2, cl_nI (show a < 2 ^ 31 by omega), cl_nI (show b < 2 ^ 31 by omega), cl_nI (show c < 2 ^ 31 by omega)]; rfl
                            exact ⟨_, rfl, (FrM.rf.up (by decide)).up (by decide), by rw [hS], by rw [hS]; exact hA.upRw ((Fr.rf.up (by decide)).up (by decide)) (RwM.copy hA.1 hO.1 hx hy htx hty hax hby (fun q => hf2 c q (Nat.le_refl c)))⟩
                          · exact absurd (Int32.le_refl _) c155
                      · exact absurd (Int32.le_refl _) c118
                  · skip
                    refine g_aload_n dX11_copy_105 rfl ?_
                    refine g_iconst (v := 2) dX11_copy_106 (by decide) ?_
                    refine g_callVi dX11_copy_107 ln_X11_80 ⟨_, rfl⟩ rfl (by decide) ⟨_, _, rfl⟩ rfl (Nat.le_of_ble_eq_true rfl) (Nat.le_of_ble_eq_true rfl) (ct_finds (w := 2) (by decide)) rfl (fun r107 m107 h107 => ?_)
                    obtain ⟨rfl, rfl⟩ := h107
                    refine g_iret dX11_copy_110 (fun ty h => by cases h; rfl) ?_
                    have hS : S_copy rw fn (nI x) i (nI y) j n = (-3, rw, fndS 2 fn) := by
                      unfold S_copy; rw [look_nI (by decide) hx, look_nI (by decide) hy, htx, hty]; simp only [if_neg (Int32.not_lt.mpr c28)]
                      first
                        | (rw [hasN_no (fun q => absurd ((hasN_64 (by omega)).mp q).1 (Int32.not_le.mpr c62))]; rfl)
                        | (rw [hasN_no (s := cy) (fun q => absurd ((hasN_64 (by omega)).mp q).1 (Int32.not_le.mpr c67)), Bool.and_false]; rfl)
                        | (rw [hasN_no (s := cx) (fun q => absurd ((hasN_64 (by omega)).mp q).2.2 (lc_gt c84))]; rfl)
                        | (rw [hasN_no (s := cy) (fun q => absurd ((lg_cmp_le _ _).mpr ((hasN_64 (by omega)).mp q).2.2) c102), Bool.and_false]; rfl)
                    exact ⟨_, rfl, FrM.find, by rw [hS], by rw [hS]; exact hA.find (by decide)⟩
          · skip
            refine g_aload_n dX11_copy_55 rfl ?_
            refine g_iconst (v := 1) dX11_copy_56 (by decide) ?_
            refine g_callVi dX11_copy_57 ln_X11_80 ⟨_, rfl⟩ rfl (by decide) ⟨_, _, rfl⟩ rfl (Nat.le_of_ble_eq_true rfl) (Nat.le_of_ble_eq_true rfl) (ct_finds (w := 1) (by decide)) rfl (fun r57 m57 h57 => ?_)
            obtain ⟨rfl, rfl⟩ := h57
            refine g_iret dX11_copy_60 (fun ty h => by cases h; rfl) ?_
            have hS : S_copy rw fn (nI x) i (nI y) j n = (-3, rw, fndS 1 fn) := by
              unfold S_copy; rw [look_nI (by decide) hx, look_nI (by decide) hy]; simp only [if_neg (Int32.not_lt.mpr c28)]
              cases hox : rw.1 x with
              | none => rfl
              | some cx =>
                cases hoy : rw.1 y with
                | none => rfl
                | some cy =>
                  exfalso
                  have k1 := hO.1 x hx cx hox
                  have k2 := hO.1 y hy cy hoy
                  first
                    | (rw [hox] at c43; exact nI_neg (by omega) c43)
                    | (rw [hoy] at c52; exact c52 (nI_pos' (by omega)))
            exact ⟨_, rfl, FrM.find, by rw [hS], by rw [hS]; exact hA.find (by decide)⟩
      · skip
        refine g_aload_n dX11_copy_31 rfl ?_
        refine g_iconst (v := 5) dX11_copy_32 (by decide) ?_
        refine g_callVi dX11_copy_33 ln_X11_80 ⟨_, rfl⟩ rfl (by decide) ⟨_, _, rfl⟩ rfl (Nat.le_of_ble_eq_true rfl) (Nat.le_of_ble_eq_true rfl) (ct_finds (w := 5) (by decide)) rfl (fun r33 m33 h33 => ?_)
        obtain ⟨rfl, rfl⟩ := h33
        refine g_iret dX11_copy_36 (fun ty h => by cases h; rfl) ?_
        have hS : S_copy rw fn (nI x) i (nI y) j n = (-3, rw, fndS 5 fn) := by
          unfold S_copy; rw [look_nI (by decide) hx, look_nI (by decide) hy]; simp only [if_pos (Int32.not_le.mp c28)]
        exact ⟨_, rfl, FrM.find, by rw [hS], by rw [hS]; exact hA.find (by decide)⟩
    · skip
      refine g_iconst (v := -1) dX11_copy_24 (by decide) ?_
      refine g_iret dX11_copy_25 (fun ty h => by cases h; rfl) ?_
      first
        | (have hS : S_copy rw fn r i to j n = (-1, rw, fn) := by
             unfold S_copy; rw [look_bad (bI_eq c9)]
           exact ⟨_, rfl, FrM.rf, by rw [hS], by rw [hS]; exact hA⟩)
        | (have hS : S_copy rw fn (nI x) i to j n = (-1, rw, fn) := by
             unfold S_copy; rw [look_nI (by decide) hx, look_bad (bI_eq c21)]
           exact ⟨_, rfl, FrM.rf, by rw [hS], by rw [hS]; exact hA⟩)
theorem pm_mean {rw tx : Tab} {P : Pce} {ds : List Deed} {sh : Shf} {tl : Int32} {ch : Int64 × Int64} {fn : Fnd} {r : Int32} (hA : AbsM rw tx P ds sh tl ch fn I J) (hO : StOK rw tx P ds sh) : Ct X (d + 1) 66 M_X11_mean 66 [.ref 48, .int r] (I, J, rf0) (RI (fun x m => ∃ I', m = (I', J, rf0) ∧ FrM I I' ∧ x = (S_mean rw fn tl r).1 ∧ AbsM rw tx P ds sh (S_mean rw fn tl r).2.1 ch (S_mean rw fn tl r).2.2 I' J)) := by
  show Go _ _ _ _ _ _ [_, _, _, _, _] _ _ _
  refine g_iload_n dX11_mean_0 rfl ?_
  refine g_i2l dX11_mean_1 ?_
  refine g_lconst (v := 0) dX11_mean_2 (by decide) ?_
  refine g_ldc2 dX11_mean_3 tb_1084 ?_
  refine g_callSi dX11_mean_6 ln_X11_76 ⟨_, rfl⟩ rfl (Nat.le_of_ble_eq_true rfl) (Nat.le_of_ble_eq_true rfl) ct_in rfl (fun r6 m6 h6 => ?_)
  obtain ⟨rfl, rfl⟩ := h6
  rw [inJ_6]
  refine g_if_ne (tgt := 14) dX11_mean_9 (by decide) (fun c9 => ?_) (fun c9 => ?_)
  · skip
    obtain ⟨j, hj, rfl⟩ := inR_ix (by decide) (bI_ne c9)
    refine g_aload_n dX11_mean_14 rfl ?_
    refine t_getR dX11_mean_15 fl_X11_7 rfl (by decide) rfl (by decide) rfl ?_
    refine g_iload_n dX11_mean_18 rfl ?_
    refine t_iald dX11_mean_19 rfl (by decide) (in_nI hj (by decide)) ?_
    refine g_iconst (v := 1) dX11_mean_20 (by decide) ?_
    rw [cl_nI (by omega), (hA.1 j hj).1]
    refine g_icmp_ge (tgt := 43) dX11_mean_21 (by decide) (fun c21 => ?_) (fun c21 => ?_)
    · skip
      obtain ⟨c, htj⟩ : ∃ c, rw.1 j = some c := by
        cases hh : rw.1 j with
        | none => rw [hh] at c21; exact absurd c21 (by decide)
        | some q => exact ⟨q, rfl⟩
      have hc := hO.1 j hj c htj
      have hs : I 49 j = nI c := by have := (hA.1 j hj).1; rw [htj] at this; exact this
      have hc0 : 0 < c := by
        rcases Nat.eq_zero_or_pos c with q | q
        · subst q; rw [htj] at c21; exact absurd c21 (by decide)
        · exact q
      have hv : ∀ i, i < c → I 50 (40 * j + i) = rw.2 j i := fun i hi => (hA.1 j hj).2 c htj i hi
      refine g_lconst (v := 0) dX11_mean_43 (by decide) ?_
      refine g_lstore_n dX11_mean_44 (by decide) ?_
      show Go _ _ _ _ _ _ [_, _, _, _, _] _ _ _
      refine g_iconst (v := 0) dX11_mean_45 (by decide) ?_
      refine g_istore dX11_mean_46 (by decide) ?_
      show Go _ _ _ _ _ _ [_, _, _, _, _] _ _ _
      refine go_for (fun i a => a + (I 50 (40 * j + i)).toInt64) (0 : Int64) c (fun i a => Go X (d + 1) 66 M_X11_mean 66 48 [.ref 48, .int (nI j), .long a, .null, .int (nI i)] [] (I, J, rf0) (RI (fun x m => ∃ I', m = (I', J, rf0) ∧ FrM I I' ∧ x = (S_mean rw fn tl (nI j)).1 ∧ AbsM rw tx P ds sh (S_mean rw fn tl (nI j)).2.1 ch (S_mean rw fn tl (nI j)).2.2 I' J))) (fun i hi kk => ?_) ?_
      · skip
        refine g_iload dX11_mean_48 rfl ?_
        refine g_aload_n dX11_mean_50 rfl ?_
        refine t_getR dX11_mean_51 fl_X11_7 rfl (by decide) rfl (by decide) rfl ?_
        refine g_iload_n dX11_mean_54 rfl ?_
        refine t_iald dX11_mean_55 rfl (by decide) (in_nI hj (by decide)) ?_
        rw [cl_nI (by omega), hs]
        refine g_icmp_ge (tgt := 81) dX11_mean_56 (by decide) (fun c56 => ?_) (fun c56 => ?_)
        · exact absurd (nI_lt hi (by omega)) (Int32.not_lt.mpr c56)
        · skip
          refine g_lload_n dX11_mean_59 rfl ?_
          refine g_aload_n dX11_mean_60 rfl ?_
          refine t_getR dX11_mean_61 fl_X11_13 rfl (by decide) rfl (by decide) rfl ?_
          refine g_bipush (v := 40) dX11_mean_64 (by decide) ?_
          refine g_iload_n dX11_mean_66 rfl ?_
          refine g_imul dX11_mean_67 ?_
          refine g_iload dX11_mean_68 rfl ?_
          refine g_iadd dX11_mean_70 ?_
          refine t_iald dX11_mean_71 rfl (by decide) (by rw [ix40]; exact in_nI (by omega) (by decide)) ?_
          refine g_i2l dX11_mean_72 ?_
          refine g_ladd dX11_mean_73 ?_
          refine g_lstore_n dX11_mean_74 (by decide) ?_
          show Go _ _ _ _ _ _ [_, _, _, _, _] _ _ _
          refine g_iinc dX11_mean_75 rfl (by decide) ?_
          show Go _ _ _ _ _ _ [_, _, _, _, _] _ _ _
          refine g_goto (tgt := 48) dX11_mean_78 (by decide) ?_
          rw [nI_inc, ix40, cl_nI (by omega)]
          exact kk
      · skip
        refine g_iload dX11_mean_48 rfl ?_
        refine g_aload_n dX11_mean_50 rfl ?_
        refine t_getR dX11_mean_51 fl_X11_7 rfl (by decide) rfl (by decide) rfl ?_
        refine g_iload_n dX11_mean_54 rfl ?_
        refine t_iald dX11_mean_55 rfl (by decide) (in_nI hj (by decide)) ?_
        rw [cl_nI (by omega), hs]
        refine g_icmp_ge (tgt := 81) dX11_mean_56 (by decide) (fun c56 => ?_) (fun c56 => ?_)
        · skip
          refine g_aload_n dX11_mean_81 rfl ?_
          refine g_lload_n dX11_mean_82 rfl ?_
          refine g_aload_n dX11_mean_83 rfl ?_
          refine t_getR dX11_mean_84 fl_X11_7 rfl (by decide) rfl (by decide) rfl ?_
          refine g_iload_n dX11_mean_87 rfl ?_
          refine t_iald dX11_mean_88 rfl (by decide) (in_nI hj (by decide)) ?_
          refine g_i2l dX11_mean_89 ?_
          rw [cl_nI (by omega), hs, nI_l (by omega)]
          refine g_ldiv dX11_mean_90 (lN_ne0 hc0 (by omega)) ?_
          refine g_l2i dX11_mean_91 ?_
          refine g_iconst (v := 1) dX11_mean_92 (by decide) ?_
          refine g_callVi dX11_mean_93 ln_X11_84 ⟨_, rfl⟩ rfl (by decide) ⟨_, _, rfl⟩ rfl (Nat.le_of_ble_eq_true rfl) (Nat.le_of_ble_eq_true rfl) ct_asks rfl (fun r93 m93 h93 => ?_)
          obtain ⟨rfl, rfl⟩ := h93
          refine g_iret dX11_mean_96 (fun ty h => by cases h; rfl) ?_
          have hS : S_mean rw fn tl (nI j) = (1, (sumL (rw.2 j) c / lN c).toInt32, fn) := by unfold S_mean; rw [look_nI (by decide) hj, htj]; simp only [if_neg (show ¬ c = 0 by omega)]
          rw [show foldN (fun i a => a + (I 50 (40 * j + i)).toInt64) (0 : Int64) c = sumL (rw.2 j) c from foldN_congr (fun i hi a => by rw [hv i hi])]
          exact ⟨_, rfl, FrM.rf.up (by decide), by rw [hS], by rw [hS]; exact hA.told⟩
        · exact absurd (Int32.le_refl _) c56
    · skip
      refine g_aload_n dX11_mean_24 rfl ?_
      refine g_aload_n dX11_mean_25 rfl ?_
      refine t_getR dX11_mean_26 fl_X11_7 rfl (by decide) rfl (by decide) rfl ?_
      refine g_iload_n dX11_mean_29 rfl ?_
      refine t_iald dX11_mean_30 rfl (by decide) (in_nI hj (by decide)) ?_
      rw [cl_nI (by omega), (hA.1 j hj).1]
      refine g_if_ge (tgt := 38) dX11_mean_31 (by decide) (fun c31 => ?_) (fun c31 => ?_)
      · obtain ⟨c, htj⟩ : ∃ c, rw.1 j = some c := by
          cases hh : rw.1 j with
          | none => rw [hh] at c31; exact absurd c31 (by decide)
          | some q => exact ⟨q, rfl⟩
        have hc0 : c = 0 := by
          have hc := hO.1 j hj c htj
          rcases Nat.eq_zero_or_pos c with q | q
          · exact q
          · rw [htj] at c21; exact absurd (show (1 : Int32) ≤ nI c from nI_le q (by omega)) c21
        refine g_iconst (v := 4) dX11_mean_38 (by decide) ?_
        refine g_callVi dX11_mean_39 ln_X11_80 ⟨_, rfl⟩ rfl (by decide) ⟨_, _, rfl⟩ rfl (Nat.le_of_ble_eq_true rfl) (Nat.le_of_ble_eq_true rfl) (ct_finds (w := 4) (by decide)) rfl (fun r39 m39 h39 => ?_)
        obtain ⟨rfl, rfl⟩ := h39
        refine g_iret dX11_mean_42 (fun ty h => by cases h; rfl) ?_
        have hS : S_mean rw fn tl (nI j) = (-3, tl, fndS 4 fn) := by unfold S_mean; rw [look_nI (by decide) hj, htj]; simp only [if_pos hc0]
        exact ⟨_, rfl, FrM.find, by rw [hS], by rw [hS]; exact hA.find (by decide)⟩
      · have htj : rw.1 j = none := by
          cases hh : rw.1 j with
          | none => rfl
          | some c => rw [hh] at c31; exact absurd (nI_pos' (by have := hO.1 j hj c hh; omega)) c31
        refine g_iconst (v := 1) dX11_mean_34 (by decide) ?_
        refine g_goto (tgt := 39) dX11_mean_35 (by decide) ?_
        refine g_callVi dX11_mean_39 ln_X11_80 ⟨_, rfl⟩ rfl (by decide) ⟨_, _, rfl⟩ rfl (Nat.le_of_ble_eq_true rfl) (Nat.le_of_ble_eq_true rfl) (ct_finds (w := 1) (by decide)) rfl (fun r39 m39 h39 => ?_)
        obtain ⟨rfl, rfl⟩ := h39
        refine g_iret dX11_mean_42 (fun ty h => by cases h; rfl) ?_
        have hS : S_mean rw fn tl (nI j) = (-3, tl, fndS 1 fn) := by unfold S_mean; rw [look_nI (by decide) hj, htj]
        exact ⟨_, rfl, FrM.find, by rw [hS], by rw [hS]; exact hA.find (by decide)⟩
  · skip
    refine g_iconst (v := -1) dX11_mean_12 (by decide) ?_
    refine g_iret dX11_mean_13 (fun ty h => by cases h; rfl) ?_
    have hS : S_mean rw fn tl r = (-1, tl, fn) := by unfold S_mean; rw [look_bad (bI_eq c9)]
    exact ⟨_, rfl, FrM.rf, by rw [hS], by rw [hS]; exact hA⟩
end
