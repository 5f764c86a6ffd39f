section
variable {X : Nat × (Nat → Int32)} {d : Nat} {I : Nat → Nat → Int32} {J : Nat → Nat → Int64}
/-! ===== promise 43, model side ===== -/
theorem inJ_w {v lo hi : Int32} {lo' hi' : Int64} (h1 : lo' = lo.toInt64) (h2 : hi' = hi.toInt64) : inJ v.toInt64 lo' hi' = decide (lo ≤ v ∧ v ≤ hi) := by
  unfold inJ
  exact decide_eq_decide.mpr (by rw [h1, h2, Int64.le_iff_toInt_le, Int64.le_iff_toInt_le, Int32.toInt_toInt64, Int32.toInt_toInt64, Int32.toInt_toInt64, Int32.le_iff_toInt_le, Int32.le_iff_toInt_le])
theorem lots_fullM {rw tx : Tab} {P : Pce} {ds : List Deed} {sh : Shf} {tl : Int32} {ch : Int64 × Int64} {fn : Fnd} {n e c : Int32} {x : Int64} {f : Int32 → Mem → Prop} (hA : AbsM rw tx P ds sh tl ch fn I J) (hO : StOK rw tx P ds sh) (hful : 40 ≤ ds.length) (hf : f c (I, J, rf0)) : Go X (d + 7) 66 M_X11_lots 66 46 [.ref 48, .int n, .int e, .long x, .null, .int c, .null, .null] [] (I, J, rf0) (RI f) := by
  have hP := hA.2.2.1
  have hQ := hO.2.2.1
  have h14 := hQ.2.1
  have h4 := hQ.1
  have hEv := hA.2.2.2.1
  have hD := hO.2.2.2.1
  have hl40 := hD.1
  have hE := hEv.2.2
  have hR : EvR (evO P ds) := EvR.e.run hQ hD.2
  have hr14 := hR.1
  refine g_iload dX11_lots_46 rfl ?_
  refine g_iload_n dX11_lots_48 rfl ?_
  refine g_icmp_ge (tgt := 196) dX11_lots_49 (by decide) (fun c49 => ?_) (fun c49 => ?_)
  · skip
    refine g_iload dX11_lots_196 rfl ?_
    refine g_iret dX11_lots_198 (fun ty h => by cases h; rfl) ?_
    exact hf
  · skip
    refine g_aload_n dX11_lots_52 rfl ?_
    refine t_getI dX11_lots_53 fl_X11_176 rfl (by decide) rfl (by decide) ?_
    refine g_aload_n dX11_lots_56 rfl ?_
    refine t_getI dX11_lots_57 fl_X11_119 rfl (by decide) rfl (by decide) ?_
    refine g_icmp_ge (tgt := 196) dX11_lots_60 (by decide) (fun c60 => ?_) (fun c60 => ?_)
    · skip
      refine g_iload dX11_lots_196 rfl ?_
      refine g_iret dX11_lots_198 (fun ty h => by cases h; rfl) ?_
      exact hf
    · skip
      refine g_aload_n dX11_lots_63 rfl ?_
      refine g_callVi dX11_lots_64 ln_X11_192 ⟨_, rfl⟩ rfl (by decide) ⟨_, _, rfl⟩ rfl (Nat.le_of_ble_eq_true rfl) (Nat.le_of_ble_eq_true rfl) (ct_isFullM hEv.1 hl40) rfl (fun r64 m64 h64 => ?_)
      obtain ⟨rfl, rfl⟩ := h64
      refine g_if_ne (tgt := 196) dX11_lots_67 (by decide) (fun c67 => ?_) (fun c67 => ?_)
      · skip
        refine g_iload dX11_lots_196 rfl ?_
        refine g_iret dX11_lots_198 (fun ty h => by cases h; rfl) ?_
        exact hf
      · exact absurd (bI_eq c67) (by rw [decide_eq_true hful]; decide)
theorem pm_lots {rw tx : Tab} {P : Pce} {ds : List Deed} {sh : Shf} {tl : Int32} {ch : Int64 × Int64} {fn : Fnd} {n e : Int32} (hA : AbsM rw tx P ds sh tl ch fn I J) (hO : StOK rw tx P ds sh) : Ct X (d + 7) 66 M_X11_lots 66 [.ref 48, .int n, .int e] (I, J, rf0) (RI (fun y9 m => ∃ I', m = (I', J, rf0) ∧ FrM I I' ∧ y9 = (S_lots P ds n e).1 ∧ AbsM rw tx P (S_lots P ds n e).2 sh tl ch fn I' J)) := by
  have hP := hA.2.2.1
  have hQ := hO.2.2.1
  have h14 := hQ.2.1
  have h4 := hQ.1
  have hEv := hA.2.2.2.1
  have hD := hO.2.2.2.1
  have hl40 := hD.1
  have hE := hEv.2.2
  have hR : EvR (evO P ds) := EvR.e.run hQ hD.2
  have hr14 := hR.1
  show Go _ _ _ _ _ _ [_, _, _, _, _, _, _, _] _ _ _
  refine g_iload_n dX11_lots_0 rfl ?_
  refine g_i2l dX11_lots_1 ?_
  refine g_lconst (v := 1) dX11_lots_2 (by decide) ?_
  refine g_ldc2 dX11_lots_3 tb_1423 ?_
  refine g_callSi dX11_lots_6 ln_X11_76 ⟨_, rfl⟩ rfl (Nat.le_of_ble_eq_true rfl) (Nat.le_of_ble_eq_true rfl) ct_in rfl (fun r6 m6 h6 => ?_)
  obtain ⟨rfl, rfl⟩ := h6
  rw [inJ_w (lo := 1) (hi := 20) (by decide) (by decide)]
  refine g_if_eq (tgt := 24) dX11_lots_9 (by decide) (fun c9 => ?_) (fun c9 => ?_)
  · skip
    refine g_iconst (v := -1) dX11_lots_24 (by decide) ?_
    refine g_iret dX11_lots_25 (fun ty h => by cases h; rfl) ?_
    have hS : S_lots P ds n e = (-1, ds) := by
      unfold S_lots
      rw [if_neg (fun q => by
        first
          | exact absurd q.1 (of_decide_eq_false (bI_eq c9))
          | exact absurd q.2 (of_decide_eq_false (bI_eq c21)))]
    exact ⟨_, rfl, FrM.rf, by rw [hS], by rw [hS]; exact hA⟩
  · skip
    refine g_iload_n dX11_lots_12 rfl ?_
    refine g_i2l dX11_lots_13 ?_
    refine g_lconst (v := 1) dX11_lots_14 (by decide) ?_
    refine g_ldc2 dX11_lots_15 tb_1424 ?_
    refine g_callSi dX11_lots_18 ln_X11_76 ⟨_, rfl⟩ rfl (Nat.le_of_ble_eq_true rfl) (Nat.le_of_ble_eq_true rfl) ct_in rfl (fun r18 m18 h18 => ?_)
    obtain ⟨rfl, rfl⟩ := h18
    rw [inJ_w (lo := 1) (hi := 2147483646) (by decide) (by decide)]
    refine g_if_ne (tgt := 26) dX11_lots_21 (by decide) (fun c21 => ?_) (fun c21 => ?_)
    · skip
      have q1 := of_decide_eq_true (bI_ne c9)
      have q2 := of_decide_eq_true (bI_ne c21)
      obtain ⟨N, hN, rfl⟩ := lot_n q1.1 (lot_b (m := 21) q1.2 (by decide) (by decide)) (by decide)
      obtain ⟨sd, hsd, rfl⟩ := lot_n q2.1 (lot_b (m := 2147483647) q2.2 (by decide) (by decide)) (by decide)
      have hcond : ((1 : Int32) ≤ nI N ∧ nI N ≤ 20) ∧ ((1 : Int32) ≤ nI sd ∧ nI sd ≤ 2147483646) := ⟨q1, q2⟩
      refine g_aload_n dX11_lots_26 rfl ?_
      refine t_getI dX11_lots_27 fl_X11_176 rfl (by decide) rfl (by decide) ?_
      rw [hE.1]
      refine g_aload_n dX11_lots_30 rfl ?_
      refine t_getI dX11_lots_31 fl_X11_119 rfl (by decide) rfl (by decide) ?_
      rw [hP.2.1]
      refine g_icmp_lt (tgt := 40) dX11_lots_34 (by decide) (fun c34 => ?_) (fun c34 => ?_)
      · skip
        refine g_iload_n dX11_lots_40 rfl ?_
        refine g_i2l dX11_lots_41 ?_
        rw [nI_l (by omega)]
        refine g_lstore_n dX11_lots_42 (by decide) ?_
        show Go _ _ _ _ _ _ [_, _, _, _, _, _, _, _] _ _ _
        refine g_iconst (v := 0) dX11_lots_43 (by decide) ?_
        refine g_istore dX11_lots_44 (by decide) ?_
        show Go _ _ _ _ _ _ [_, _, _, _, _, _, _, _] _ _ _
        have hnov : ¬ P.2.1 ≤ (evO P ds).1 := fun q => absurd c34 (Int32.not_lt.mpr (nI_le q (by omega)))
        have hSl : S_lots P ds (nI N) (nI sd) = (nI (lo P N sd ds 0).1, (lo P N sd ds 0).2) := by unfold S_lots; rw [if_pos hcond, if_neg hnov, cl_nI (by omega), cl_nI (by omega)]
        refine go_rec (σ := ((Nat → Nat → Int32) × List Deed × Nat × Nat)) (fun k t => AbsM rw tx P t.2.1 sh tl ch fn t.1 J → StOK rw tx P t.2.1 sh → FrM I t.1 → t.2.2.1 < 2147483647 → t.2.2.2 + k = N → lo P k t.2.2.1 t.2.1 t.2.2.2 = lo P N sd ds 0 → Go X (d + 7) 66 M_X11_lots 66 46 [.ref 48, .int (nI N), .int (nI sd), .long (lN t.2.2.1), .null, .int (nI t.2.2.2), .null, .null] [] (t.1, J, rf0) (RI (fun y9 m => ∃ I', m = (I', J, rf0) ∧ FrM I I' ∧ y9 = (S_lots P ds (nI N) (nI sd)).1 ∧ AbsM rw tx P (S_lots P ds (nI N) (nI sd)).2 sh tl ch fn I' J))) (fun k kk t hA2 hO2 hf2 hx2 hc2 hlo => ?_) (fun t hA2 hO2 hf2 hx2 hc2 hlo => ?_) N (I, ds, sd, 0) hA hO FrM.rf hsd (Nat.zero_add N) rfl
        · have hP2 := hA2.2.2.1
          have hEv2 := hA2.2.2.2.1
          have hE2 := hEv2.2.2
          have hR2 : EvR (evO P t.2.1) := EvR.e.run hQ hO2.2.2.2.1.2
          have hr2 := hR2.1
          have hl2 := hO2.2.2.2.1.1
          refine g_iload dX11_lots_46 rfl ?_
          refine g_iload_n dX11_lots_48 rfl ?_
          refine g_icmp_ge (tgt := 196) dX11_lots_49 (by decide) (fun c49 => ?_) (fun c49 => ?_)
          · exact absurd (nI_lt (show t.2.2.2 < N by omega) (by omega)) (Int32.not_lt.mpr c49)
          · skip
            refine g_aload_n dX11_lots_52 rfl ?_
            refine t_getI dX11_lots_53 fl_X11_176 rfl (by decide) rfl (by decide) ?_
            rw [hE2.1]
            refine g_aload_n dX11_lots_56 rfl ?_
            refine t_getI dX11_lots_57 fl_X11_119 rfl (by decide) rfl (by decide) ?_
            rw [hP2.2.1]
            refine g_icmp_ge (tgt := 196) dX11_lots_60 (by decide) (fun c60 => ?_) (fun c60 => ?_)
            · skip
              refine g_iload dX11_lots_196 rfl ?_
              refine g_iret dX11_lots_198 (fun ty h => by cases h; rfl) ?_
              first
                | (rw [lo_0] at hlo
                   exact ⟨_, rfl, hf2, by rw [hSl, ← hlo], by rw [hSl, ← hlo]; exact hA2⟩)
                | (rw [lo_s, if_pos (Or.inl ((nI_leI (by omega) (by omega)).mp c60))] at hlo
                   exact ⟨_, rfl, hf2, by rw [hSl, ← hlo], by rw [hSl, ← hlo]; exact hA2⟩)
                | (rw [lo_s, if_pos (Or.inr (of_decide_eq_true (bI_ne c67)))] at hlo
                   exact ⟨_, rfl, hf2, by rw [hSl, ← hlo], by rw [hSl, ← hlo]; exact hA2⟩)
                | fail "no way"
            · skip
              refine g_aload_n dX11_lots_63 rfl ?_
              refine g_callVi dX11_lots_64 ln_X11_192 ⟨_, rfl⟩ rfl (by decide) ⟨_, _, rfl⟩ rfl (Nat.le_of_ble_eq_true rfl) (Nat.le_of_ble_eq_true rfl) (ct_isFullM hEv2.1 hl2) rfl (fun r64 m64 h64 => ?_)
              obtain ⟨rfl, rfl⟩ := h64
              refine g_if_ne (tgt := 196) dX11_lots_67 (by decide) (fun c67 => ?_) (fun c67 => ?_)
              · skip
                refine g_iload dX11_lots_196 rfl ?_
                refine g_iret dX11_lots_198 (fun ty h => by cases h; rfl) ?_
                first
                  | (rw [lo_0] at hlo
                     exact ⟨_, rfl, hf2, by rw [hSl, ← hlo], by rw [hSl, ← hlo]; exact hA2⟩)
                  | (rw [lo_s, if_pos (Or.inl ((nI_leI (by omega) (by omega)).mp c60))] at hlo
                     exact ⟨_, rfl, hf2, by rw [hSl, ← hlo], by rw [hSl, ← hlo]; exact hA2⟩)
                  | (rw [lo_s, if_pos (Or.inr (of_decide_eq_true (bI_ne c67)))] at hlo
                     exact ⟨_, rfl, hf2, by rw [hSl, ← hlo], by rw [hSl, ← hlo]; exact hA2⟩)
                  | fail "no way"
              · skip
                have hov : ¬ P.2.1 ≤ (evO P t.2.1).1 := fun q => c60 (nI_le q (by omega))
                have hfu := of_decide_eq_false (bI_eq c67)
                have h2p : 2 ≤ P.1 := hQ.2.2.1.resolve_left (by omega)
                have hnl := nxL_lt t.2.2.1
                have hmp : (nxL t.2.2.1) % P.1 < P.1 := Nat.mod_lt _ (by omega)
                have hz := szL_z (nxL t.2.2.1)
                have hrp := hR2.2.2.1 ((nxL t.2.2.1) % P.1) (by omega)
                refine g_lload_n dX11_lots_70 rfl ?_
                refine g_ldc2 dX11_lots_71 tb_1425 ?_
                rw [show (48271 : Int64) = lN 48271 from rfl]
                refine g_lmul dX11_lots_74 ?_
                rw [lN_mul]
                refine g_ldc2 dX11_lots_75 tb_1426 ?_
                refine g_lrem dX11_lots_78 (by decide) ?_
                rw [show (2147483647 : Int64) = lN 2147483647 from rfl, pk_lRem (by omega) (by decide) (by decide), Nat.mul_comm, show 48271 * t.2.2.1 % 2147483647 = nxL t.2.2.1 from rfl]
                refine g_lstore_n dX11_lots_79 (by decide) ?_
                show Go _ _ _ _ _ _ [_, _, _, _, _, _, _, _] _ _ _
                refine g_lload_n dX11_lots_80 rfl ?_
                refine g_aload_n dX11_lots_81 rfl ?_
                refine t_getI dX11_lots_82 fl_X11_116 rfl (by decide) rfl (by decide) ?_
                rw [hP2.1]
                refine g_i2l dX11_lots_85 ?_
                rw [nI_l (by omega)]
                refine g_lrem dX11_lots_86 (fun q => by have := (lN_eq (by omega) (by decide)).mp (show lN P.1 = lN 0 from q); omega) ?_
                rw [pk_lRem (by omega) (by omega) (by omega)]
                refine g_l2i dX11_lots_87 ?_
                rw [lN_i]
                refine g_istore dX11_lots_88 (by decide) ?_
                show Go _ _ _ _ _ _ [_, _, _, _, _, _, _, _] _ _ _
                refine g_lload_n dX11_lots_90 rfl ?_
                refine g_ldc2 dX11_lots_91 tb_1427 ?_
                refine g_ldiv dX11_lots_94 (by decide) ?_
                rw [show (1024 : Int64) = lN 1024 from rfl, pk_lDiv (by omega) (by decide) (by decide)]
                refine g_ldc2 dX11_lots_95 tb_1187 ?_
                refine g_lrem dX11_lots_98 (by decide) ?_
                rw [show (2 : Int64) = lN 2 from rfl, pk_lRem (by omega) (by decide) (by decide)]
                refine g_lconst (v := 1) dX11_lots_99 (by decide) ?_
                refine g_lcmp dX11_lots_100 ?_
                refine g_if_ne (tgt := 108) dX11_lots_101 (by decide) (fun c101 => ?_) (fun c101 => ?_)
                · skip
                  refine g_iconst (v := -1) dX11_lots_108 (by decide) ?_
                  refine t_ist (fun dv hdv => ?_)
                  refine g_istore dX11_lots_109 (by decide) ?_
                  show Go _ _ _ _ _ _ [_, _, _, _, _, _, _, _] _ _ _
                  have hdz : dv = zI (szL (nxL t.2.2.1)) := by
                    have hm2 : (nxL t.2.2.1) / 1024 % 2 < 2 := Nat.mod_lt _ (by decide)
                    first
                      | (rw [hdv, show szL (nxL t.2.2.1) = 1 from if_pos ((lN_eq (by omega) (by decide)).mp (show lN ((nxL t.2.2.1) / 1024 % 2) = lN 1 from (lg_cmp_eq _ _).mp c101))]; rfl)
                      | (rw [hdv, show szL (nxL t.2.2.1) = -1 from if_neg (fun (q : (nxL t.2.2.1) / 1024 % 2 = 1) => c101 ((lg_cmp_eq _ _).mpr (by rw [q]; rfl)))]; decide)
                      | fail "no way"
                  rw [hdz]
                  refine g_lload_n dX11_lots_111 rfl ?_
                  refine g_ldc2 dX11_lots_112 tb_1428 ?_
                  refine g_ldiv dX11_lots_115 (by decide) ?_
                  rw [show (64 : Int64) = lN 64 from rfl, pk_lDiv (by omega) (by decide) (by decide)]
                  refine g_aload_n dX11_lots_116 rfl ?_
                  refine t_getR dX11_lots_117 fl_X11_26 rfl (by decide) rfl (by decide) rfl ?_
                  refine g_aload_n dX11_lots_120 rfl ?_
                  refine t_getI dX11_lots_121 fl_X11_176 rfl (by decide) rfl (by decide) ?_
                  rw [hE2.1]
                  refine t_iald dX11_lots_124 rfl (by decide) (in_nI (by omega) (by decide)) ?_
                  rw [cl_nI (by omega), hP2.2.2.1 _ (by omega)]
                  refine g_iconst (v := 4) dX11_lots_125 (by decide) ?_
                  refine g_icmp_ne (tgt := 135) dX11_lots_126 (by decide) (fun c126 => ?_) (fun c126 => ?_)
                  · skip
                    refine g_ldc2 dX11_lots_135 tb_1429 ?_
                    refine g_lrem dX11_lots_138 (by decide) ?_
                    first
                      | rw [show (2 : Int64) = lN 2 from rfl, pk_lRem (by omega) (by decide) (by decide)]
                      | rw [show (4 : Int64) = lN 4 from rfl, pk_lRem (by omega) (by decide) (by decide)]
                      | fail "no way"
                    refine g_lconst (v := 0) dX11_lots_139 (by decide) ?_
                    refine g_lcmp dX11_lots_140 ?_
                    refine g_if_ne (tgt := 176) dX11_lots_141 (by decide) (fun c141 => ?_) (fun c141 => ?_)
                    · skip
                      refine g_forget 6 ?_
                      refine g_forget 7 ?_
                      show Go _ _ _ _ _ _ [_, _, _, _, _, _, _, _] _ _ _
                      refine g_abs (fun I3 => FrM t.1 I3 ∧ AbsM rw tx P (slD P t.2.1 (nxL t.2.2.1)) sh tl ch fn I3 J) (by
                        have h64a : (nxL t.2.2.1) / 64 % 2 < 2 := Nat.mod_lt _ (by decide)
                        have h64b : (nxL t.2.2.1) / 64 % 4 < 4 := Nat.mod_lt _ (by decide)
                        have hkk := hQ.2.2.2.1 (evO P t.2.1).1
                        first
                          | (refine ⟨FrM.rf, ?_⟩
                             rw [slD_n (by
                               unfold ltsB
                               first
                                 | (rw [bI_eq c164, Bool.and_false])
                                 | (rw [(isK4 hkk).mpr c126, decide_eq_false (show ¬ (nxL t.2.2.1) / 64 % (if true = true then 2 else 4) = 0 from fun (q : (nxL t.2.2.1) / 64 % 2 = 0) => c141 ((lg_cmp_eq _ _).mpr (by rw [q]; rfl)))]; rfl)
                                 | (rw [isK_no (fun q => c126 ((isK4 hkk).mp q)), decide_eq_false (show ¬ (nxL t.2.2.1) / 64 % (if false = true then 2 else 4) = 0 from fun (q : (nxL t.2.2.1) / 64 % 4 = 0) => c141 ((lg_cmp_eq _ _).mpr (by rw [q]; rfl)))]; rfl))]
                             exact hA2)
                          | (refine ⟨FrM.of hf1 (by decide), ?_⟩
                             rw [slD_y (by
                               unfold ltsB
                               first
                                 | (rw [(isK4 hkk).mpr c126, bI_ne c164, Bool.and_true]; show decide ((nxL t.2.2.1) / 64 % 2 = 0) = true; exact decide_eq_true ((lN_eq (by omega) (by decide)).mp (show lN ((nxL t.2.2.1) / 64 % 2) = lN 0 from (lg_cmp_eq _ _).mp c141)))
                                 | (rw [isK_no (fun q => c126 ((isK4 hkk).mp q)), bI_ne c164, Bool.and_true]; show decide ((nxL t.2.2.1) / 64 % 4 = 0) = true; exact decide_eq_true ((lN_eq (by omega) (by decide)).mp (show lN ((nxL t.2.2.1) / 64 % 4) = lN 0 from (lg_cmp_eq _ _).mp c141))))]
                             exact hA2.upEv hf1 h01 h581 h591 hE1)) (fun I3 h3 => ?_)
                      obtain ⟨hf3, hA3⟩ := h3
                      have hO3 := slD_ok (x := (nxL t.2.2.1)) hO2 (Nat.lt_of_not_le hfu) h2p
                      refine g_aload_n dX11_lots_176 rfl ?_
                      refine g_callVi dX11_lots_177 ln_X11_192 ⟨_, rfl⟩ rfl (by decide) ⟨_, _, rfl⟩ rfl (Nat.le_of_ble_eq_true rfl) (Nat.le_of_ble_eq_true rfl) (ct_isFullM hA3.2.2.2.1.1 hO3.2.2.2.1.1) rfl (fun r177 m177 h177 => ?_)
                      obtain ⟨rfl, rfl⟩ := h177
                      refine g_if_ne (tgt := 193) dX11_lots_180 (by decide) (fun c180 => ?_) (fun c180 => ?_)
                      · skip
                        refine g_goto (tgt := 46) dX11_lots_193 (by decide) ?_
                        refine g_forget 6 ?_
                        refine g_forget 7 ?_
                        show Go _ _ _ _ _ _ [_, _, _, _, _, _, _, _] _ _ _
                        rw [lo_s, if_neg (fun q => q.elim hov hfu)] at hlo
                        first
                          | (have hfu3 := of_decide_eq_true (bI_ne c180)
                             rw [if_pos hfu3] at hlo
                             refine lots_fullM hA3 hO3 hfu3 ?_
                             exact ⟨_, rfl, hf2.tr hf3, by rw [hSl, ← hlo], by rw [hSl, ← hlo]; exact hA3⟩)
                          | (rw [if_neg hfu3] at hlo
                             rw [nI_inc]
                             exact kk (I4, slD P t.2.1 (nxL t.2.2.1) ++ [(0, 0, 0)], nxL t.2.2.1, t.2.2.2 + 1) hA4 (hO3.ds (hO3.2.2.2.1.app (Nat.lt_of_not_le hfu3) hok3)) ((hf2.tr hf3).tr (FrM.of hf4 (by decide))) (nxL_lt _) (by show t.2.2.2 + 1 + k = N; omega) hlo)
                          | fail "no way"
                      · skip
                        have hfu3 := of_decide_eq_false (bI_eq c180)
                        have hok3 : evOK P (evO P (slD P t.2.1 (nxL t.2.2.1))) (0, 0, 0) := ⟨by rw [slD_at]; exact Nat.lt_of_not_le hov, rfl, rfl⟩
                        refine g_aload_n dX11_lots_183 rfl ?_
                        refine g_iconst (v := 0) dX11_lots_184 (by decide) ?_
                        refine g_iconst (v := 0) dX11_lots_185 (by decide) ?_
                        refine g_iconst (v := 0) dX11_lots_186 (by decide) ?_
                        refine g_callVv dX11_lots_187 ln_X11_196 rfl rfl (by decide) ⟨_, _, rfl⟩ rfl (Nat.le_of_ble_eq_true rfl) (Nat.le_of_ble_eq_true rfl) (ct_does (e := (0, 0, 0)) hA3.2.2.1 hQ hA3.2.2.2.1 hO3.2.2.2.1 (Nat.lt_of_not_le hfu3) hok3 (howM_n (e := (0, 0, 0)) (by decide)).symm) rfl (fun m187 h187 => ?_)
                        obtain ⟨I4, rfl, hf4, h04, h584, h594, hE4⟩ := h187
                        have hA4 := hA3.upEv hf4 h04 h584 h594 hE4
                        refine g_iinc dX11_lots_190 rfl (by decide) ?_
                        show Go _ _ _ _ _ _ [_, _, _, _, _, _, _, _] _ _ _
                        refine g_goto (tgt := 46) dX11_lots_193 (by decide) ?_
                        refine g_forget 6 ?_
                        refine g_forget 7 ?_
                        show Go _ _ _ _ _ _ [_, _, _, _, _, _, _, _] _ _ _
                        rw [lo_s, if_neg (fun q => q.elim hov hfu)] at hlo
                        first
                          | (have hfu3 := of_decide_eq_true (bI_ne c180)
                             rw [if_pos hfu3] at hlo
                             refine lots_fullM hA3 hO3 hfu3 ?_
                             exact ⟨_, rfl, hf2.tr hf3, by rw [hSl, ← hlo], by rw [hSl, ← hlo]; exact hA3⟩)
                          | (rw [if_neg hfu3] at hlo
                             rw [nI_inc]
                             exact kk (I4, slD P t.2.1 (nxL t.2.2.1) ++ [(0, 0, 0)], nxL t.2.2.1, t.2.2.2 + 1) hA4 (hO3.ds (hO3.2.2.2.1.app (Nat.lt_of_not_le hfu3) hok3)) ((hf2.tr hf3).tr (FrM.of hf4 (by decide))) (nxL_lt _) (by show t.2.2.2 + 1 + k = N; omega) hlo)
                          | fail "no way"
                    · skip
                      refine g_aload_n dX11_lots_144 rfl ?_
                      refine t_getR dX11_lots_145 fl_X11_44 rfl (by decide) rfl (by decide) rfl ?_
                      refine g_iload dX11_lots_148 rfl ?_
                      refine t_iald dX11_lots_150 rfl (by decide) (in_nI (by omega) (by decide)) ?_
                      rw [cl_nI (by omega), hE2.2.2.2.1 _ (by omega)]
                      refine g_iload dX11_lots_151 rfl ?_
                      refine g_iadd dX11_lots_153 ?_
                      rw [z_add]
                      refine g_i2l dX11_lots_154 ?_
                      refine g_ldc2 dX11_lots_155 tb_1251 ?_
                      refine g_ldc2 dX11_lots_158 tb_1187 ?_
                      refine g_callSi dX11_lots_161 ln_X11_76 ⟨_, rfl⟩ rfl (Nat.le_of_ble_eq_true rfl) (Nat.le_of_ble_eq_true rfl) ct_in rfl (fun r161 m161 h161 => ?_)
                      obtain ⟨rfl, rfl⟩ := h161
                      rw [inJ_22 (by omega)]
                      refine g_if_eq (tgt := 176) dX11_lots_164 (by decide) (fun c164 => ?_) (fun c164 => ?_)
                      · skip
                        refine g_forget 6 ?_
                        refine g_forget 7 ?_
                        show Go _ _ _ _ _ _ [_, _, _, _, _, _, _, _] _ _ _
                        refine g_abs (fun I3 => FrM t.1 I3 ∧ AbsM rw tx P (slD P t.2.1 (nxL t.2.2.1)) sh tl ch fn I3 J) (by
                          have h64a : (nxL t.2.2.1) / 64 % 2 < 2 := Nat.mod_lt _ (by decide)
                          have h64b : (nxL t.2.2.1) / 64 % 4 < 4 := Nat.mod_lt _ (by decide)
                          have hkk := hQ.2.2.2.1 (evO P t.2.1).1
                          first
                            | (refine ⟨FrM.rf, ?_⟩
                               rw [slD_n (by
                                 unfold ltsB
                                 first
                                   | (rw [bI_eq c164, Bool.and_false])
                                   | (rw [(isK4 hkk).mpr c126, decide_eq_false (show ¬ (nxL t.2.2.1) / 64 % (if true = true then 2 else 4) = 0 from fun (q : (nxL t.2.2.1) / 64 % 2 = 0) => c141 ((lg_cmp_eq _ _).mpr (by rw [q]; rfl)))]; rfl)
                                   | (rw [isK_no (fun q => c126 ((isK4 hkk).mp q)), decide_eq_false (show ¬ (nxL t.2.2.1) / 64 % (if false = true then 2 else 4) = 0 from fun (q : (nxL t.2.2.1) / 64 % 4 = 0) => c141 ((lg_cmp_eq _ _).mpr (by rw [q]; rfl)))]; rfl))]
                               exact hA2)
                            | (refine ⟨FrM.of hf1 (by decide), ?_⟩
                               rw [slD_y (by
                                 unfold ltsB
                                 first
                                   | (rw [(isK4 hkk).mpr c126, bI_ne c164, Bool.and_true]; show decide ((nxL t.2.2.1) / 64 % 2 = 0) = true; exact decide_eq_true ((lN_eq (by omega) (by decide)).mp (show lN ((nxL t.2.2.1) / 64 % 2) = lN 0 from (lg_cmp_eq _ _).mp c141)))
                                   | (rw [isK_no (fun q => c126 ((isK4 hkk).mp q)), bI_ne c164, Bool.and_true]; show decide ((nxL t.2.2.1) / 64 % 4 = 0) = true; exact decide_eq_true ((lN_eq (by omega) (by decide)).mp (show lN ((nxL t.2.2.1) / 64 % 4) = lN 0 from (lg_cmp_eq _ _).mp c141))))]
                               exact hA2.upEv hf1 h01 h581 h591 hE1)) (fun I3 h3 => ?_)
                        obtain ⟨hf3, hA3⟩ := h3
                        have hO3 := slD_ok (x := (nxL t.2.2.1)) hO2 (Nat.lt_of_not_le hfu) h2p
                        refine g_aload_n dX11_lots_176 rfl ?_
                        refine g_callVi dX11_lots_177 ln_X11_192 ⟨_, rfl⟩ rfl (by decide) ⟨_, _, rfl⟩ rfl (Nat.le_of_ble_eq_true rfl) (Nat.le_of_ble_eq_true rfl) (ct_isFullM hA3.2.2.2.1.1 hO3.2.2.2.1.1) rfl (fun r177 m177 h177 => ?_)
                        obtain ⟨rfl, rfl⟩ := h177
                        refine g_if_ne (tgt := 193) dX11_lots_180 (by decide) (fun c180 => ?_) (fun c180 => ?_)
                        · skip
                          refine g_goto (tgt := 46) dX11_lots_193 (by decide) ?_
                          refine g_forget 6 ?_
                          refine g_forget 7 ?_
                          show Go _ _ _ _ _ _ [_, _, _, _, _, _, _, _] _ _ _
                          rw [lo_s, if_neg (fun q => q.elim hov hfu)] at hlo
                          first
                            | (have hfu3 := of_decide_eq_true (bI_ne c180)
                               rw [if_pos hfu3] at hlo
                               refine lots_fullM hA3 hO3 hfu3 ?_
                               exact ⟨_, rfl, hf2.tr hf3, by rw [hSl, ← hlo], by rw [hSl, ← hlo]; exact hA3⟩)
                            | (rw [if_neg hfu3] at hlo
                               rw [nI_inc]
                               exact kk (I4, slD P t.2.1 (nxL t.2.2.1) ++ [(0, 0, 0)], nxL t.2.2.1, t.2.2.2 + 1) hA4 (hO3.ds (hO3.2.2.2.1.app (Nat.lt_of_not_le hfu3) hok3)) ((hf2.tr hf3).tr (FrM.of hf4 (by decide))) (nxL_lt _) (by show t.2.2.2 + 1 + k = N; omega) hlo)
                            | fail "no way"
                        · skip
                          have hfu3 := of_decide_eq_false (bI_eq c180)
                          have hok3 : evOK P (evO P (slD P t.2.1 (nxL t.2.2.1))) (0, 0, 0) := ⟨by rw [slD_at]; exact Nat.lt_of_not_le hov, rfl, rfl⟩
                          refine g_aload_n dX11_lots_183 rfl ?_
                          refine g_iconst (v := 0) dX11_lots_184 (by decide) ?_
                          refine g_iconst (v := 0) dX11_lots_185 (by decide) ?_
                          refine g_iconst (v := 0) dX11_lots_186 (by decide) ?_
                          refine g_callVv dX11_lots_187 ln_X11_196 rfl rfl (by decide) ⟨_, _, rfl⟩ rfl (Nat.le_of_ble_eq_true rfl) (Nat.le_of_ble_eq_true rfl) (ct_does (e := (0, 0, 0)) hA3.2.2.1 hQ hA3.2.2.2.1 hO3.2.2.2.1 (Nat.lt_of_not_le hfu3) hok3 (howM_n (e := (0, 0, 0)) (by decide)).symm) rfl (fun m187 h187 => ?_)
                          obtain ⟨I4, rfl, hf4, h04, h584, h594, hE4⟩ := h187
                          have hA4 := hA3.upEv hf4 h04 h584 h594 hE4
                          refine g_iinc dX11_lots_190 rfl (by decide) ?_
                          show Go _ _ _ _ _ _ [_, _, _, _, _, _, _, _] _ _ _
                          refine g_goto (tgt := 46) dX11_lots_193 (by decide) ?_
                          refine g_forget 6 ?_
                          refine g_forget 7 ?_
                          show Go _ _ _ _ _ _ [_, _, _, _, _, _, _, _] _ _ _
                          rw [lo_s, if_neg (fun q => q.elim hov hfu)] at hlo
                          first
                            | (have hfu3 := of_decide_eq_true (bI_ne c180)
                               rw [if_pos hfu3] at hlo
                               refine lots_fullM hA3 hO3 hfu3 ?_
                               exact ⟨_, rfl, hf2.tr hf3, by rw [hSl, ← hlo], by rw [hSl, ← hlo]; exact hA3⟩)
                            | (rw [if_neg hfu3] at hlo
                               rw [nI_inc]
                               exact kk (I4, slD P t.2.1 (nxL t.2.2.1) ++ [(0, 0, 0)], nxL t.2.2.1, t.2.2.2 + 1) hA4 (hO3.ds (hO3.2.2.2.1.app (Nat.lt_of_not_le hfu3) hok3)) ((hf2.tr hf3).tr (FrM.of hf4 (by decide))) (nxL_lt _) (by show t.2.2.2 + 1 + k = N; omega) hlo)
                            | fail "no way"
                      · skip
                        have hcs := of_decide_eq_true (bI_ne c164)
                        have hhow : zI (szL (nxL t.2.2.1)) = howM (slE P (nxL t.2.2.1)) := by
                          rw [howM_1 (e := slE P (nxL t.2.2.1)) rfl, show ((slE P (nxL t.2.2.1)).2.2 : Int) - 1 = szL (nxL t.2.2.1) by show (((szL (nxL t.2.2.1) + 1).toNat : Nat) : Int) - 1 = szL (nxL t.2.2.1); omega]
                        refine g_aload_n dX11_lots_167 rfl ?_
                        refine g_iconst (v := 1) dX11_lots_168 (by decide) ?_
                        refine g_iload dX11_lots_169 rfl ?_
                        refine g_iload dX11_lots_171 rfl ?_
                        refine g_callVv dX11_lots_173 ln_X11_196 rfl rfl (by decide) ⟨_, _, rfl⟩ rfl (Nat.le_of_ble_eq_true rfl) (Nat.le_of_ble_eq_true rfl) (ct_does (e := slE P (nxL t.2.2.1)) hP2 hQ hEv2 hO2.2.2.2.1 (Nat.lt_of_not_le hfu) (sl_ok hmp hcs) hhow) rfl (fun m173 h173 => ?_)
                        obtain ⟨I1, rfl, hf1, h01, h581, h591, hE1⟩ := h173
                        refine g_forget 6 ?_
                        refine g_forget 7 ?_
                        show Go _ _ _ _ _ _ [_, _, _, _, _, _, _, _] _ _ _
                        refine g_abs (fun I3 => FrM t.1 I3 ∧ AbsM rw tx P (slD P t.2.1 (nxL t.2.2.1)) sh tl ch fn I3 J) (by
                          have h64a : (nxL t.2.2.1) / 64 % 2 < 2 := Nat.mod_lt _ (by decide)
                          have h64b : (nxL t.2.2.1) / 64 % 4 < 4 := Nat.mod_lt _ (by decide)
                          have hkk := hQ.2.2.2.1 (evO P t.2.1).1
                          first
                            | (refine ⟨FrM.rf, ?_⟩
                               rw [slD_n (by
                                 unfold ltsB
                                 first
                                   | (rw [bI_eq c164, Bool.and_false])
                                   | (rw [(isK4 hkk).mpr c126, decide_eq_false (show ¬ (nxL t.2.2.1) / 64 % (if true = true then 2 else 4) = 0 from fun (q : (nxL t.2.2.1) / 64 % 2 = 0) => c141 ((lg_cmp_eq _ _).mpr (by rw [q]; rfl)))]; rfl)
                                   | (rw [isK_no (fun q => c126 ((isK4 hkk).mp q)), decide_eq_false (show ¬ (nxL t.2.2.1) / 64 % (if false = true then 2 else 4) = 0 from fun (q : (nxL t.2.2.1) / 64 % 4 = 0) => c141 ((lg_cmp_eq _ _).mpr (by rw [q]; rfl)))]; rfl))]
                               exact hA2)
                            | (refine ⟨FrM.of hf1 (by decide), ?_⟩
                               rw [slD_y (by
                                 unfold ltsB
                                 first
                                   | (rw [(isK4 hkk).mpr c126, bI_ne c164, Bool.and_true]; show decide ((nxL t.2.2.1) / 64 % 2 = 0) = true; exact decide_eq_true ((lN_eq (by omega) (by decide)).mp (show lN ((nxL t.2.2.1) / 64 % 2) = lN 0 from (lg_cmp_eq _ _).mp c141)))
                                   | (rw [isK_no (fun q => c126 ((isK4 hkk).mp q)), bI_ne c164, Bool.and_true]; show decide ((nxL t.2.2.1) / 64 % 4 = 0) = true; exact decide_eq_true ((lN_eq (by omega) (by decide)).mp (show lN ((nxL t.2.2.1) / 64 % 4) = lN 0 from (lg_cmp_eq _ _).mp c141))))]
                               exact hA2.upEv hf1 h01 h581 h591 hE1)) (fun I3 h3 => ?_)
                        obtain ⟨hf3, hA3⟩ := h3
                        have hO3 := slD_ok (x := (nxL t.2.2.1)) hO2 (Nat.lt_of_not_le hfu) h2p
                        refine g_aload_n dX11_lots_176 rfl ?_
                        refine g_callVi dX11_lots_177 ln_X11_192 ⟨_, rfl⟩ rfl (by decide) ⟨_, _, rfl⟩ rfl (Nat.le_of_ble_eq_true rfl) (Nat.le_of_ble_eq_true rfl) (ct_isFullM hA3.2.2.2.1.1 hO3.2.2.2.1.1) rfl (fun r177 m177 h177 => ?_)
                        obtain ⟨rfl, rfl⟩ := h177
                        refine g_if_ne (tgt := 193) dX11_lots_180 (by decide) (fun c180 => ?_) (fun c180 => ?_)
                        · skip
                          refine g_goto (tgt := 46) dX11_lots_193 (by decide) ?_
                          refine g_forget 6 ?_
                          refine g_forget 7 ?_
                          show Go _ _ _ _ _ _ [_, _, _, _, _, _, _, _] _ _ _
                          rw [lo_s, if_neg (fun q => q.elim hov hfu)] at hlo
                          first
                            | (have hfu3 := of_decide_eq_true (bI_ne c180)
                               rw [if_pos hfu3] at hlo
                               refine lots_fullM hA3 hO3 hfu3 ?_
                               exact ⟨_, rfl, hf2.tr hf3, by rw [hSl, ← hlo], by rw [hSl, ← hlo]; exact hA3⟩)
                            | (rw [if_neg hfu3] at hlo
                               rw [nI_inc]
                               exact kk (I4, slD P t.2.1 (nxL t.2.2.1) ++ [(0, 0, 0)], nxL t.2.2.1, t.2.2.2 + 1) hA4 (hO3.ds (hO3.2.2.2.1.app (Nat.lt_of_not_le hfu3) hok3)) ((hf2.tr hf3).tr (FrM.of hf4 (by decide))) (nxL_lt _) (by show t.2.2.2 + 1 + k = N; omega) hlo)
                            | fail "no way"
                        · skip
                          have hfu3 := of_decide_eq_false (bI_eq c180)
                          have hok3 : evOK P (evO P (slD P t.2.1 (nxL t.2.2.1))) (0, 0, 0) := ⟨by rw [slD_at]; exact Nat.lt_of_not_le hov, rfl, rfl⟩
                          refine g_aload_n dX11_lots_183 rfl ?_
                          refine g_iconst (v := 0) dX11_lots_184 (by decide) ?_
                          refine g_iconst (v := 0) dX11_lots_185 (by decide) ?_
                          refine g_iconst (v := 0) dX11_lots_186 (by decide) ?_
                          refine g_callVv dX11_lots_187 ln_X11_196 rfl rfl (by decide) ⟨_, _, rfl⟩ rfl (Nat.le_of_ble_eq_true rfl) (Nat.le_of_ble_eq_true rfl) (ct_does (e := (0, 0, 0)) hA3.2.2.1 hQ hA3.2.2.2.1 hO3.2.2.2.1 (Nat.lt_of_not_le hfu3) hok3 (howM_n (e := (0, 0, 0)) (by decide)).symm) rfl (fun m187 h187 => ?_)
                          obtain ⟨I4, rfl, hf4, h04, h584, h594, hE4⟩ := h187
                          have hA4 := hA3.upEv hf4 h04 h584 h594 hE4
                          refine g_iinc dX11_lots_190 rfl (by decide) ?_
                          show Go _ _ _ _ _ _ [_, _, _, _, _, _, _, _] _ _ _
                          refine g_goto (tgt := 46) dX11_lots_193 (by decide) ?_
                          refine g_forget 6 ?_
                          refine g_forget 7 ?_
                          show Go _ _ _ _ _ _ [_, _, _, _, _, _, _, _] _ _ _
                          rw [lo_s, if_neg (fun q => q.elim hov hfu)] at hlo
                          first
                            | (have hfu3 := of_decide_eq_true (bI_ne c180)
                               rw [if_pos hfu3] at hlo
                               refine lots_fullM hA3 hO3 hfu3 ?_
                               exact ⟨_, rfl, hf2.tr hf3, by rw [hSl, ← hlo], by rw [hSl, ← hlo]; exact hA3⟩)
                            | (rw [if_neg hfu3] at hlo
                               rw [nI_inc]
                               exact kk (I4, slD P t.2.1 (nxL t.2.2.1) ++ [(0, 0, 0)], nxL t.2.2.1, t.2.2.2 + 1) hA4 (hO3.ds (hO3.2.2.2.1.app (Nat.lt_of_not_le hfu3) hok3)) ((hf2.tr hf3).tr (FrM.of hf4 (by decide))) (nxL_lt _) (by show t.2.2.2 + 1 + k = N; omega) hlo)
                            | fail "no way"
                  · skip
                    refine g_ldc2 dX11_lots_129 tb_1187 ?_
                    refine g_goto (tgt := 138) dX11_lots_132 (by decide) ?_
                    refine g_lrem dX11_lots_138 (by decide) ?_
                    first
                      | rw [show (2 : Int64) = lN 2 from rfl, pk_lRem (by omega) (by decide) (by decide)]
                      | rw [show (4 : Int64) = lN 4 from rfl, pk_lRem (by omega) (by decide) (by decide)]
                      | fail "no way"
                    refine g_lconst (v := 0) dX11_lots_139 (by decide) ?_
                    refine g_lcmp dX11_lots_140 ?_
                    refine g_if_ne (tgt := 176) dX11_lots_141 (by decide) (fun c141 => ?_) (fun c141 => ?_)
                    · skip
                      refine g_forget 6 ?_
                      refine g_forget 7 ?_
                      show Go _ _ _ _ _ _ [_, _, _, _, _, _, _, _] _ _ _
                      refine g_abs (fun I3 => FrM t.1 I3 ∧ AbsM rw tx P (slD P t.2.1 (nxL t.2.2.1)) sh tl ch fn I3 J) (by
                        have h64a : (nxL t.2.2.1) / 64 % 2 < 2 := Nat.mod_lt _ (by decide)
                        have h64b : (nxL t.2.2.1) / 64 % 4 < 4 := Nat.mod_lt _ (by decide)
                        have hkk := hQ.2.2.2.1 (evO P t.2.1).1
                        first
                          | (refine ⟨FrM.rf, ?_⟩
                             rw [slD_n (by
                               unfold ltsB
                               first
                                 | (rw [bI_eq c164, Bool.and_false])
                                 | (rw [(isK4 hkk).mpr c126, decide_eq_false (show ¬ (nxL t.2.2.1) / 64 % (if true = true then 2 else 4) = 0 from fun (q : (nxL t.2.2.1) / 64 % 2 = 0) => c141 ((lg_cmp_eq _ _).mpr (by rw [q]; rfl)))]; rfl)
                                 | (rw [isK_no (fun q => c126 ((isK4 hkk).mp q)), decide_eq_false (show ¬ (nxL t.2.2.1) / 64 % (if false = true then 2 else 4) = 0 from fun (q : (nxL t.2.2.1) / 64 % 4 = 0) => c141 ((lg_cmp_eq _ _).mpr (by rw [q]; rfl)))]; rfl))]
                             exact hA2)
                          | (refine ⟨FrM.of hf1 (by decide), ?_⟩
                             rw [slD_y (by
                               unfold ltsB
                               first
                                 | (rw [(isK4 hkk).mpr c126, bI_ne c164, Bool.and_true]; show decide ((nxL t.2.2.1) / 64 % 2 = 0) = true; exact decide_eq_true ((lN_eq (by omega) (by decide)).mp (show lN ((nxL t.2.2.1) / 64 % 2) = lN 0 from (lg_cmp_eq _ _).mp c141)))
                                 | (rw [isK_no (fun q => c126 ((isK4 hkk).mp q)), bI_ne c164, Bool.and_true]; show decide ((nxL t.2.2.1) / 64 % 4 = 0) = true; exact decide_eq_true ((lN_eq (by omega) (by decide)).mp (show lN ((nxL t.2.2.1) / 64 % 4) = lN 0 from (lg_cmp_eq _ _).mp c141))))]
                             exact hA2.upEv hf1 h01 h581 h591 hE1)) (fun I3 h3 => ?_)
                      obtain ⟨hf3, hA3⟩ := h3
                      have hO3 := slD_ok (x := (nxL t.2.2.1)) hO2 (Nat.lt_of_not_le hfu) h2p
                      refine g_aload_n dX11_lots_176 rfl ?_
                      refine g_callVi dX11_lots_177 ln_X11_192 ⟨_, rfl⟩ rfl (by decide) ⟨_, _, rfl⟩ rfl (Nat.le_of_ble_eq_true rfl) (Nat.le_of_ble_eq_true rfl) (ct_isFullM hA3.2.2.2.1.1 hO3.2.2.2.1.1) rfl (fun r177 m177 h177 => ?_)
                      obtain ⟨rfl, rfl⟩ := h177
                      refine g_if_ne (tgt := 193) dX11_lots_180 (by decide) (fun c180 => ?_) (fun c180 => ?_)
                      · skip
                        refine g_goto (tgt := 46) dX11_lots_193 (by decide) ?_
                        refine g_forget 6 ?_
                        refine g_forget 7 ?_
                        show Go _ _ _ _ _ _ [_, _, _, _, _, _, _, _] _ _ _
                        rw [lo_s, if_neg (fun q => q.elim hov hfu)] at hlo
                        first
                          | (have hfu3 := of_decide_eq_true (bI_ne c180)
                             rw [if_pos hfu3] at hlo
                             refine lots_fullM hA3 hO3 hfu3 ?_
                             exact ⟨_, rfl, hf2.tr hf3, by rw [hSl, ← hlo], by rw [hSl, ← hlo]; exact hA3⟩)
                          | (rw [if_neg hfu3] at hlo
                             rw [nI_inc]
                             exact kk (I4, slD P t.2.1 (nxL t.2.2.1) ++ [(0, 0, 0)], nxL t.2.2.1, t.2.2.2 + 1) hA4 (hO3.ds (hO3.2.2.2.1.app (Nat.lt_of_not_le hfu3) hok3)) ((hf2.tr hf3).tr (FrM.of hf4 (by decide))) (nxL_lt _) (by show t.2.2.2 + 1 + k = N; omega) hlo)
                          | fail "no way"
                      · skip
                        have hfu3 := of_decide_eq_false (bI_eq c180)
                        have hok3 : evOK P (evO P (slD P t.2.1 (nxL t.2.2.1))) (0, 0, 0) := ⟨by rw [slD_at]; exact Nat.lt_of_not_le hov, rfl, rfl⟩
                        refine g_aload_n dX11_lots_183 rfl ?_
                        refine g_iconst (v := 0) dX11_lots_184 (by decide) ?_
                        refine g_iconst (v := 0) dX11_lots_185 (by decide) ?_
                        refine g_iconst (v := 0) dX11_lots_186 (by decide) ?_
                        refine g_callVv dX11_lots_187 ln_X11_196 rfl rfl (by decide) ⟨_, _, rfl⟩ rfl (Nat.le_of_ble_eq_true rfl) (Nat.le_of_ble_eq_true rfl) (ct_does (e := (0, 0, 0)) hA3.2.2.1 hQ hA3.2.2.2.1 hO3.2.2.2.1 (Nat.lt_of_not_le hfu3) hok3 (howM_n (e := (0, 0, 0)) (by decide)).symm) rfl (fun m187 h187 => ?_)
                        obtain ⟨I4, rfl, hf4, h04, h584, h594, hE4⟩ := h187
                        have hA4 := hA3.upEv hf4 h04 h584 h594 hE4
                        refine g_iinc dX11_lots_190 rfl (by decide) ?_
                        show Go _ _ _ _ _ _ [_, _, _, _, _, _, _, _] _ _ _
                        refine g_goto (tgt := 46) dX11_lots_193 (by decide) ?_
                        refine g_forget 6 ?_
                        refine g_forget 7 ?_
                        show Go _ _ _ _ _ _ [_, _, _, _, _, _, _, _] _ _ _
                        rw [lo_s, if_neg (fun q => q.elim hov hfu)] at hlo
                        first
                          | (have hfu3 := of_decide_eq_true (bI_ne c180)
                             rw [if_pos hfu3] at hlo
                             refine lots_fullM hA3 hO3 hfu3 ?_
                             exact ⟨_, rfl, hf2.tr hf3, by rw [hSl, ← hlo], by rw [hSl, ← hlo]; exact hA3⟩)
                          | (rw [if_neg hfu3] at hlo
                             rw [nI_inc]
                             exact kk (I4, slD P t.2.1 (nxL t.2.2.1) ++ [(0, 0, 0)], nxL t.2.2.1, t.2.2.2 + 1) hA4 (hO3.ds (hO3.2.2.2.1.app (Nat.lt_of_not_le hfu3) hok3)) ((hf2.tr hf3).tr (FrM.of hf4 (by decide))) (nxL_lt _) (by show t.2.2.2 + 1 + k = N; omega) hlo)
                          | fail "no way"
                    · skip
                      refine g_aload_n dX11_lots_144 rfl ?_
                      refine t_getR dX11_lots_145 fl_X11_44 rfl (by decide) rfl (by decide) rfl ?_
                      refine g_iload dX11_lots_148 rfl ?_
                      refine t_iald dX11_lots_150 rfl (by decide) (in_nI (by omega) (by decide)) ?_
                      rw [cl_nI (by omega), hE2.2.2.2.1 _ (by omega)]
                      refine g_iload dX11_lots_151 rfl ?_
                      refine g_iadd dX11_lots_153 ?_
                      rw [z_add]
                      refine g_i2l dX11_lots_154 ?_
                      refine g_ldc2 dX11_lots_155 tb_1251 ?_
                      refine g_ldc2 dX11_lots_158 tb_1187 ?_
                      refine g_callSi dX11_lots_161 ln_X11_76 ⟨_, rfl⟩ rfl (Nat.le_of_ble_eq_true rfl) (Nat.le_of_ble_eq_true rfl) ct_in rfl (fun r161 m161 h161 => ?_)
                      obtain ⟨rfl, rfl⟩ := h161
                      rw [inJ_22 (by omega)]
                      refine g_if_eq (tgt := 176) dX11_lots_164 (by decide) (fun c164 => ?_) (fun c164 => ?_)
                      · skip
                        refine g_forget 6 ?_
                        refine g_forget 7 ?_
                        show Go _ _ _ _ _ _ [_, _, _, _, _, _, _, _] _ _ _
                        refine g_abs (fun I3 => FrM t.1 I3 ∧ AbsM rw tx P (slD P t.2.1 (nxL t.2.2.1)) sh tl ch fn I3 J) (by
                          have h64a : (nxL t.2.2.1) / 64 % 2 < 2 := Nat.mod_lt _ (by decide)
                          have h64b : (nxL t.2.2.1) / 64 % 4 < 4 := Nat.mod_lt _ (by decide)
                          have hkk := hQ.2.2.2.1 (evO P t.2.1).1
                          first
                            | (refine ⟨FrM.rf, ?_⟩
                               rw [slD_n (by
                                 unfold ltsB
                                 first
                                   | (rw [bI_eq c164, Bool.and_false])
                                   | (rw [(isK4 hkk).mpr c126, decide_eq_false (show ¬ (nxL t.2.2.1) / 64 % (if true = true then 2 else 4) = 0 from fun (q : (nxL t.2.2.1) / 64 % 2 = 0) => c141 ((lg_cmp_eq _ _).mpr (by rw [q]; rfl)))]; rfl)
                                   | (rw [isK_no (fun q => c126 ((isK4 hkk).mp q)), decide_eq_false (show ¬ (nxL t.2.2.1) / 64 % (if false = true then 2 else 4) = 0 from fun (q : (nxL t.2.2.1) / 64 % 4 = 0) => c141 ((lg_cmp_eq _ _).mpr (by rw [q]; rfl)))]; rfl))]
                               exact hA2)
                            | (refine ⟨FrM.of hf1 (by decide), ?_⟩
                               rw [slD_y (by
                                 unfold ltsB
                                 first
                                   | (rw [(isK4 hkk).mpr c126, bI_ne c164, Bool.and_true]; show decide ((nxL t.2.2.1) / 64 % 2 = 0) = true; exact decide_eq_true ((lN_eq (by omega) (by decide)).mp (show lN ((nxL t.2.2.1) / 64 % 2) = lN 0 from (lg_cmp_eq _ _).mp c141)))
                                   | (rw [isK_no (fun q => c126 ((isK4 hkk).mp q)), bI_ne c164, Bool.and_true]; show decide ((nxL t.2.2.1) / 64 % 4 = 0) = true; exact decide_eq_true ((lN_eq (by omega) (by decide)).mp (show lN ((nxL t.2.2.1) / 64 % 4) = lN 0 from (lg_cmp_eq _ _).mp c141))))]
                               exact hA2.upEv hf1 h01 h581 h591 hE1)) (fun I3 h3 => ?_)
                        obtain ⟨hf3, hA3⟩ := h3
                        have hO3 := slD_ok (x := (nxL t.2.2.1)) hO2 (Nat.lt_of_not_le hfu) h2p
                        refine g_aload_n dX11_lots_176 rfl ?_
                        refine g_callVi dX11_lots_177 ln_X11_192 ⟨_, rfl⟩ rfl (by decide) ⟨_, _, rfl⟩ rfl (Nat.le_of_ble_eq_true rfl) (Nat.le_of_ble_eq_true rfl) (ct_isFullM hA3.2.2.2.1.1 hO3.2.2.2.1.1) rfl (fun r177 m177 h177 => ?_)
                        obtain ⟨rfl, rfl⟩ := h177
                        refine g_if_ne (tgt := 193) dX11_lots_180 (by decide) (fun c180 => ?_) (fun c180 => ?_)
                        · skip
                          refine g_goto (tgt := 46) dX11_lots_193 (by decide) ?_
                          refine g_forget 6 ?_
                          refine g_forget 7 ?_
                          show Go _ _ _ _ _ _ [_, _, _, _, _, _, _, _] _ _ _
                          rw [lo_s, if_neg (fun q => q.elim hov hfu)] at hlo
                          first
                            | (have hfu3 := of_decide_eq_true (bI_ne c180)
                               rw [if_pos hfu3] at hlo
                               refine lots_fullM hA3 hO3 hfu3 ?_
                               exact ⟨_, rfl, hf2.tr hf3, by rw [hSl, ← hlo], by rw [hSl, ← hlo]; exact hA3⟩)
                            | (rw [if_neg hfu3] at hlo
                               rw [nI_inc]
                               exact kk (I4, slD P t.2.1 (nxL t.2.2.1) ++ [(0, 0, 0)], nxL t.2.2.1, t.2.2.2 + 1) hA4 (hO3.ds (hO3.2.2.2.1.app (Nat.lt_of_not_le hfu3) hok3)) ((hf2.tr hf3).tr (FrM.of hf4 (by decide))) (nxL_lt _) (by show t.2.2.2 + 1 + k = N; omega) hlo)
                            | fail "no way"
                        · skip
                          have hfu3 := of_decide_eq_false (bI_eq c180)
                          have hok3 : evOK P (evO P (slD P t.2.1 (nxL t.2.2.1))) (0, 0, 0) := ⟨by rw [slD_at]; exact Nat.lt_of_not_le hov, rfl, rfl⟩
                          refine g_aload_n dX11_lots_183 rfl ?_
                          refine g_iconst (v := 0) dX11_lots_184 (by decide) ?_
                          refine g_iconst (v := 0) dX11_lots_185 (by decide) ?_
                          refine g_iconst (v := 0) dX11_lots_186 (by decide) ?_
                          refine g_callVv dX11_lots_187 ln_X11_196 rfl rfl (by decide) ⟨_, _, rfl⟩ rfl (Nat.le_of_ble_eq_true rfl) (Nat.le_of_ble_eq_true rfl) (ct_does (e := (0, 0, 0)) hA3.2.2.1 hQ hA3.2.2.2.1 hO3.2.2.2.1 (Nat.lt_of_not_le hfu3) hok3 (howM_n (e := (0, 0, 0)) (by decide)).symm) rfl (fun m187 h187 => ?_)
                          obtain ⟨I4, rfl, hf4, h04, h584, h594, hE4⟩ := h187
                          have hA4 := hA3.upEv hf4 h04 h584 h594 hE4
                          refine g_iinc dX11_lots_190 rfl (by decide) ?_
                          show Go _ _ _ _ _ _ [_, _, _, _, _, _, _, _] _ _ _
                          refine g_goto (tgt := 46) dX11_lots_193 (by decide) ?_
                          refine g_forget 6 ?_
                          refine g_forget 7 ?_
                          show Go _ _ _ _ _ _ [_, _, _, _, _, _, _, _] _ _ _
                          rw [lo_s, if_neg (fun q => q.elim hov hfu)] at hlo
                          first
                            | (have hfu3 := of_decide_eq_true (bI_ne c180)
                               rw [if_pos hfu3] at hlo
                               refine lots_fullM hA3 hO3 hfu3 ?_
                               exact ⟨_, rfl, hf2.tr hf3, by rw [hSl, ← hlo], by rw [hSl, ← hlo]; exact hA3⟩)
                            | (rw [if_neg hfu3] at hlo
                               rw [nI_inc]
                               exact kk (I4, slD P t.2.1 (nxL t.2.2.1) ++ [(0, 0, 0)], nxL t.2.2.1, t.2.2.2 + 1) hA4 (hO3.ds (hO3.2.2.2.1.app (Nat.lt_of_not_le hfu3) hok3)) ((hf2.tr hf3).tr (FrM.of hf4 (by decide))) (nxL_lt _) (by show t.2.2.2 + 1 + k = N; omega) hlo)
                            | fail "no way"
                      · skip
                        have hcs := of_decide_eq_true (bI_ne c164)
                        have hhow : zI (szL (nxL t.2.2.1)) = howM (slE P (nxL t.2.2.1)) := by
                          rw [howM_1 (e := slE P (nxL t.2.2.1)) rfl, show ((slE P (nxL t.2.2.1)).2.2 : Int) - 1 = szL (nxL t.2.2.1) by show (((szL (nxL t.2.2.1) + 1).toNat : Nat) : Int) - 1 = szL (nxL t.2.2.1); omega]
                        refine g_aload_n dX11_lots_167 rfl ?_
                        refine g_iconst (v := 1) dX11_lots_168 (by decide) ?_
                        refine g_iload dX11_lots_169 rfl ?_
                        refine g_iload dX11_lots_171 rfl ?_
                        refine g_callVv dX11_lots_173 ln_X11_196 rfl rfl (by decide) ⟨_, _, rfl⟩ rfl (Nat.le_of_ble_eq_true rfl) (Nat.le_of_ble_eq_true rfl) (ct_does (e := slE P (nxL t.2.2.1)) hP2 hQ hEv2 hO2.2.2.2.1 (Nat.lt_of_not_le hfu) (sl_ok hmp hcs) hhow) rfl (fun m173 h173 => ?_)
                        obtain ⟨I1, rfl, hf1, h01, h581, h591, hE1⟩ := h173
                        refine g_forget 6 ?_
                        refine g_forget 7 ?_
                        show Go _ _ _ _ _ _ [_, _, _, _, _, _, _, _] _ _ _
                        refine g_abs (fun I3 => FrM t.1 I3 ∧ AbsM rw tx P (slD P t.2.1 (nxL t.2.2.1)) sh tl ch fn I3 J) (by
                          have h64a : (nxL t.2.2.1) / 64 % 2 < 2 := Nat.mod_lt _ (by decide)
                          have h64b : (nxL t.2.2.1) / 64 % 4 < 4 := Nat.mod_lt _ (by decide)
                          have hkk := hQ.2.2.2.1 (evO P t.2.1).1
                          first
                            | (refine ⟨FrM.rf, ?_⟩
                               rw [slD_n (by
                                 unfold ltsB
                                 first
                                   | (rw [bI_eq c164, Bool.and_false])
                                   | (rw [(isK4 hkk).mpr c126, decide_eq_false (show ¬ (nxL t.2.2.1) / 64 % (if true = true then 2 else 4) = 0 from fun (q : (nxL t.2.2.1) / 64 % 2 = 0) => c141 ((lg_cmp_eq _ _).mpr (by rw [q]; rfl)))]; rfl)
                                   | (rw [isK_no (fun q => c126 ((isK4 hkk).mp q)), decide_eq_false (show ¬ (nxL t.2.2.1) / 64 % (if false = true then 2 else 4) = 0 from fun (q : (nxL t.2.2.1) / 64 % 4 = 0) => c141 ((lg_cmp_eq _ _).mpr (by rw [q]; rfl)))]; rfl))]
                               exact hA2)
                            | (refine ⟨FrM.of hf1 (by decide), ?_⟩
                               rw [slD_y (by
                                 unfold ltsB
                                 first
                                   | (rw [(isK4 hkk).mpr c126, bI_ne c164, Bool.and_true]; show decide ((nxL t.2.2.1) / 64 % 2 = 0) = true; exact decide_eq_true ((lN_eq (by omega) (by decide)).mp (show lN ((nxL t.2.2.1) / 64 % 2) = lN 0 from (lg_cmp_eq _ _).mp c141)))
                                   | (rw [isK_no (fun q => c126 ((isK4 hkk).mp q)), bI_ne c164, Bool.and_true]; show decide ((nxL t.2.2.1) / 64 % 4 = 0) = true; exact decide_eq_true ((lN_eq (by omega) (by decide)).mp (show lN ((nxL t.2.2.1) / 64 % 4) = lN 0 from (lg_cmp_eq _ _).mp c141))))]
                               exact hA2.upEv hf1 h01 h581 h591 hE1)) (fun I3 h3 => ?_)
                        obtain ⟨hf3, hA3⟩ := h3
                        have hO3 := slD_ok (x := (nxL t.2.2.1)) hO2 (Nat.lt_of_not_le hfu) h2p
                        refine g_aload_n dX11_lots_176 rfl ?_
                        refine g_callVi dX11_lots_177 ln_X11_192 ⟨_, rfl⟩ rfl (by decide) ⟨_, _, rfl⟩ rfl (Nat.le_of_ble_eq_true rfl) (Nat.le_of_ble_eq_true rfl) (ct_isFullM hA3.2.2.2.1.1 hO3.2.2.2.1.1) rfl (fun r177 m177 h177 => ?_)
                        obtain ⟨rfl, rfl⟩ := h177
                        refine g_if_ne (tgt := 193) dX11_lots_180 (by decide) (fun c180 => ?_) (fun c180 => ?_)
                        · skip
                          refine g_goto (tgt := 46) dX11_lots_193 (by decide) ?_
                          refine g_forget 6 ?_
                          refine g_forget 7 ?_
                          show Go _ _ _ _ _ _ [_, _, _, _, _, _, _, _] _ _ _
                          rw [lo_s, if_neg (fun q => q.elim hov hfu)] at hlo
                          first
                            | (have hfu3 := of_decide_eq_true (bI_ne c180)
                               rw [if_pos hfu3] at hlo
                               refine lots_fullM hA3 hO3 hfu3 ?_
                               exact ⟨_, rfl, hf2.tr hf3, by rw [hSl, ← hlo], by rw [hSl, ← hlo]; exact hA3⟩)
                            | (rw [if_neg hfu3] at hlo
                               rw [nI_inc]
                               exact kk (I4, slD P t.2.1 (nxL t.2.2.1) ++ [(0, 0, 0)], nxL t.2.2.1, t.2.2.2 + 1) hA4 (hO3.ds (hO3.2.2.2.1.app (Nat.lt_of_not_le hfu3) hok3)) ((hf2.tr hf3).tr (FrM.of hf4 (by decide))) (nxL_lt _) (by show t.2.2.2 + 1 + k = N; omega) hlo)
                            | fail "no way"
                        · skip
                          have hfu3 := of_decide_eq_false (bI_eq c180)
                          have hok3 : evOK P (evO P (slD P t.2.1 (nxL t.2.2.1))) (0, 0, 0) := ⟨by rw [slD_at]; exact Nat.lt_of_not_le hov, rfl, rfl⟩
                          refine g_aload_n dX11_lots_183 rfl ?_
                          refine g_iconst (v := 0) dX11_lots_184 (by decide) ?_
                          refine g_iconst (v := 0) dX11_lots_185 (by decide) ?_
                          refine g_iconst (v := 0) dX11_lots_186 (by decide) ?_
                          refine g_callVv dX11_lots_187 ln_X11_196 rfl rfl (by decide) ⟨_, _, rfl⟩ rfl (Nat.le_of_ble_eq_true rfl) (Nat.le_of_ble_eq_true rfl) (ct_does (e := (0, 0, 0)) hA3.2.2.1 hQ hA3.2.2.2.1 hO3.2.2.2.1 (Nat.lt_of_not_le hfu3) hok3 (howM_n (e := (0, 0, 0)) (by decide)).symm) rfl (fun m187 h187 => ?_)
                          obtain ⟨I4, rfl, hf4, h04, h584, h594, hE4⟩ := h187
                          have hA4 := hA3.upEv hf4 h04 h584 h594 hE4
                          refine g_iinc dX11_lots_190 rfl (by decide) ?_
                          show Go _ _ _ _ _ _ [_, _, _, _, _, _, _, _] _ _ _
                          refine g_goto (tgt := 46) dX11_lots_193 (by decide) ?_
                          refine g_forget 6 ?_
                          refine g_forget 7 ?_
                          show Go _ _ _ _ _ _ [_, _, _, _, _, _, _, _] _ _ _
                          rw [lo_s, if_neg (fun q => q.elim hov hfu)] at hlo
                          first
                            | (have hfu3 := of_decide_eq_true (bI_ne c180)
                               rw [if_pos hfu3] at hlo
                               refine lots_fullM hA3 hO3 hfu3 ?_
                               exact ⟨_, rfl, hf2.tr hf3, by rw [hSl, ← hlo], by rw [hSl, ← hlo]; exact hA3⟩)
                            | (rw [if_neg hfu3] at hlo
                               rw [nI_inc]
                               exact kk (I4, slD P t.2.1 (nxL t.2.2.1) ++ [(0, 0, 0)], nxL t.2.2.1, t.2.2.2 + 1) hA4 (hO3.ds (hO3.2.2.2.1.app (Nat.lt_of_not_le hfu3) hok3)) ((hf2.tr hf3).tr (FrM.of hf4 (by decide))) (nxL_lt _) (by show t.2.2.2 + 1 + k = N; omega) hlo)
                            | fail "no way"
                · skip
                  refine g_iconst (v := 1) dX11_lots_104 (by decide) ?_
                  refine g_goto (tgt := 109) dX11_lots_105 (by decide) ?_
                  refine t_ist (fun dv hdv => ?_)
                  refine g_istore dX11_lots_109 (by decide) ?_
                  show Go _ _ _ _ _ _ [_, _, _, _, _, _, _, _] _ _ _
                  have hdz : dv = zI (szL (nxL t.2.2.1)) := by
                    have hm2 : (nxL t.2.2.1) / 1024 % 2 < 2 := Nat.mod_lt _ (by decide)
                    first
                      | (rw [hdv, show szL (nxL t.2.2.1) = 1 from if_pos ((lN_eq (by omega) (by decide)).mp (show lN ((nxL t.2.2.1) / 1024 % 2) = lN 1 from (lg_cmp_eq _ _).mp c101))]; rfl)
                      | (rw [hdv, show szL (nxL t.2.2.1) = -1 from if_neg (fun (q : (nxL t.2.2.1) / 1024 % 2 = 1) => c101 ((lg_cmp_eq _ _).mpr (by rw [q]; rfl)))]; decide)
                      | fail "no way"
                  rw [hdz]
                  refine g_lload_n dX11_lots_111 rfl ?_
                  refine g_ldc2 dX11_lots_112 tb_1428 ?_
                  refine g_ldiv dX11_lots_115 (by decide) ?_
                  rw [show (64 : Int64) = lN 64 from rfl, pk_lDiv (by omega) (by decide) (by decide)]
                  refine g_aload_n dX11_lots_116 rfl ?_
                  refine t_getR dX11_lots_117 fl_X11_26 rfl (by decide) rfl (by decide) rfl ?_
                  refine g_aload_n dX11_lots_120 rfl ?_
                  refine t_getI dX11_lots_121 fl_X11_176 rfl (by decide) rfl (by decide) ?_
                  rw [hE2.1]
                  refine t_iald dX11_lots_124 rfl (by decide) (in_nI (by omega) (by decide)) ?_
                  rw [cl_nI (by omega), hP2.2.2.1 _ (by omega)]
                  refine g_iconst (v := 4) dX11_lots_125 (by decide) ?_
                  refine g_icmp_ne (tgt := 135) dX11_lots_126 (by decide) (fun c126 => ?_) (fun c126 => ?_)
                  · skip
                    refine g_ldc2 dX11_lots_135 tb_1429 ?_
                    refine g_lrem dX11_lots_138 (by decide) ?_
                    first
                      | rw [show (2 : Int64) = lN 2 from rfl, pk_lRem (by omega) (by decide) (by decide)]
                      | rw [show (4 : Int64) = lN 4 from rfl, pk_lRem (by omega) (by decide) (by decide)]
                      | fail "no way"
                    refine g_lconst (v := 0) dX11_lots_139 (by decide) ?_
                    refine g_lcmp dX11_lots_140 ?_
                    refine g_if_ne (tgt := 176) dX11_lots_141 (by decide) (fun c141 => ?_) (fun c141 => ?_)
                    · skip
                      refine g_forget 6 ?_
                      refine g_forget 7 ?_
                      show Go _ _ _ _ _ _ [_, _, _, _, _, _, _, _] _ _ _
                      refine g_abs (fun I3 => FrM t.1 I3 ∧ AbsM rw tx P (slD P t.2.1 (nxL t.2.2.1)) sh tl ch fn I3 J) (by
                        have h64a : (nxL t.2.2.1) / 64 % 2 < 2 := Nat.mod_lt _ (by decide)
                        have h64b : (nxL t.2.2.1) / 64 % 4 < 4 := Nat.mod_lt _ (by decide)
                        have hkk := hQ.2.2.2.1 (evO P t.2.1).1
                        first
                          | (refine ⟨FrM.rf, ?_⟩
                             rw [slD_n (by
                               unfold ltsB
                               first
                                 | (rw [bI_eq c164, Bool.and_false])
                                 | (rw [(isK4 hkk).mpr c126, decide_eq_false (show ¬ (nxL t.2.2.1) / 64 % (if true = true then 2 else 4) = 0 from fun (q : (nxL t.2.2.1) / 64 % 2 = 0) => c141 ((lg_cmp_eq _ _).mpr (by rw [q]; rfl)))]; rfl)
                                 | (rw [isK_no (fun q => c126 ((isK4 hkk).mp q)), decide_eq_false (show ¬ (nxL t.2.2.1) / 64 % (if false = true then 2 else 4) = 0 from fun (q : (nxL t.2.2.1) / 64 % 4 = 0) => c141 ((lg_cmp_eq _ _).mpr (by rw [q]; rfl)))]; rfl))]
                             exact hA2)
                          | (refine ⟨FrM.of hf1 (by decide), ?_⟩
                             rw [slD_y (by
                               unfold ltsB
                               first
                                 | (rw [(isK4 hkk).mpr c126, bI_ne c164, Bool.and_true]; show decide ((nxL t.2.2.1) / 64 % 2 = 0) = true; exact decide_eq_true ((lN_eq (by omega) (by decide)).mp (show lN ((nxL t.2.2.1) / 64 % 2) = lN 0 from (lg_cmp_eq _ _).mp c141)))
                                 | (rw [isK_no (fun q => c126 ((isK4 hkk).mp q)), bI_ne c164, Bool.and_true]; show decide ((nxL t.2.2.1) / 64 % 4 = 0) = true; exact decide_eq_true ((lN_eq (by omega) (by decide)).mp (show lN ((nxL t.2.2.1) / 64 % 4) = lN 0 from (lg_cmp_eq _ _).mp c141))))]
                             exact hA2.upEv hf1 h01 h581 h591 hE1)) (fun I3 h3 => ?_)
                      obtain ⟨hf3, hA3⟩ := h3
                      have hO3 := slD_ok (x := (nxL t.2.2.1)) hO2 (Nat.lt_of_not_le hfu) h2p
                      refine g_aload_n dX11_lots_176 rfl ?_
                      refine g_callVi dX11_lots_177 ln_X11_192 ⟨_, rfl⟩ rfl (by decide) ⟨_, _, rfl⟩ rfl (Nat.le_of_ble_eq_true rfl) (Nat.le_of_ble_eq_true rfl) (ct_isFullM hA3.2.2.2.1.1 hO3.2.2.2.1.1) rfl (fun r177 m177 h177 => ?_)
                      obtain ⟨rfl, rfl⟩ := h177
                      refine g_if_ne (tgt := 193) dX11_lots_180 (by decide) (fun c180 => ?_) (fun c180 => ?_)
                      · skip
                        refine g_goto (tgt := 46) dX11_lots_193 (by decide) ?_
                        refine g_forget 6 ?_
                        refine g_forget 7 ?_
                        show Go _ _ _ _ _ _ [_, _, _, _, _, _, _, _] _ _ _
                        rw [lo_s, if_neg (fun q => q.elim hov hfu)] at hlo
                        first
                          | (have hfu3 := of_decide_eq_true (bI_ne c180)
                             rw [if_pos hfu3] at hlo
                             refine lots_fullM hA3 hO3 hfu3 ?_
                             exact ⟨_, rfl, hf2.tr hf3, by rw [hSl, ← hlo], by rw [hSl, ← hlo]; exact hA3⟩)
                          | (rw [if_neg hfu3] at hlo
                             rw [nI_inc]
                             exact kk (I4, slD P t.2.1 (nxL t.2.2.1) ++ [(0, 0, 0)], nxL t.2.2.1, t.2.2.2 + 1) hA4 (hO3.ds (hO3.2.2.2.1.app (Nat.lt_of_not_le hfu3) hok3)) ((hf2.tr hf3).tr (FrM.of hf4 (by decide))) (nxL_lt _) (by show t.2.2.2 + 1 + k = N; omega) hlo)
                          | fail "no way"
                      · skip
                        have hfu3 := of_decide_eq_false (bI_eq c180)
                        have hok3 : evOK P (evO P (slD P t.2.1 (nxL t.2.2.1))) (0, 0, 0) := ⟨by rw [slD_at]; exact Nat.lt_of_not_le hov, rfl, rfl⟩
                        refine g_aload_n dX11_lots_183 rfl ?_
                        refine g_iconst (v := 0) dX11_lots_184 (by decide) ?_
                        refine g_iconst (v := 0) dX11_lots_185 (by decide) ?_
                        refine g_iconst (v := 0) dX11_lots_186 (by decide) ?_
                        refine g_callVv dX11_lots_187 ln_X11_196 rfl rfl (by decide) ⟨_, _, rfl⟩ rfl (Nat.le_of_ble_eq_true rfl) (Nat.le_of_ble_eq_true rfl) (ct_does (e := (0, 0, 0)) hA3.2.2.1 hQ hA3.2.2.2.1 hO3.2.2.2.1 (Nat.lt_of_not_le hfu3) hok3 (howM_n (e := (0, 0, 0)) (by decide)).symm) rfl (fun m187 h187 => ?_)
                        obtain ⟨I4, rfl, hf4, h04, h584, h594, hE4⟩ := h187
                        have hA4 := hA3.upEv hf4 h04 h584 h594 hE4
                        refine g_iinc dX11_lots_190 rfl (by decide) ?_
                        show Go _ _ _ _ _ _ [_, _, _, _, _, _, _, _] _ _ _
                        refine g_goto (tgt := 46) dX11_lots_193 (by decide) ?_
                        refine g_forget 6 ?_
                        refine g_forget 7 ?_
                        show Go _ _ _ _ _ _ [_, _, _, _, _, _, _, _] _ _ _
                        rw [lo_s, if_neg (fun q => q.elim hov hfu)] at hlo
                        first
                          | (have hfu3 := of_decide_eq_true (bI_ne c180)
                             rw [if_pos hfu3] at hlo
                             refine lots_fullM hA3 hO3 hfu3 ?_
                             exact ⟨_, rfl, hf2.tr hf3, by rw [hSl, ← hlo], by rw [hSl, ← hlo]; exact hA3⟩)
                          | (rw [if_neg hfu3] at hlo
                             rw [nI_inc]
                             exact kk (I4, slD P t.2.1 (nxL t.2.2.1) ++ [(0, 0, 0)], nxL t.2.2.1, t.2.2.2 + 1) hA4 (hO3.ds (hO3.2.2.2.1.app (Nat.lt_of_not_le hfu3) hok3)) ((hf2.tr hf3).tr (FrM.of hf4 (by decide))) (nxL_lt _) (by show t.2.2.2 + 1 + k = N; omega) hlo)
                          | fail "no way"
                    · skip
                      refine g_aload_n dX11_lots_144 rfl ?_
                      refine t_getR dX11_lots_145 fl_X11_44 rfl (by decide) rfl (by decide) rfl ?_
                      refine g_iload dX11_lots_148 rfl ?_
                      refine t_iald dX11_lots_150 rfl (by decide) (in_nI (by omega) (by decide)) ?_
                      rw [cl_nI (by omega), hE2.2.2.2.1 _ (by omega)]
                      refine g_iload dX11_lots_151 rfl ?_
                      refine g_iadd dX11_lots_153 ?_
                      rw [z_add]
                      refine g_i2l dX11_lots_154 ?_
                      refine g_ldc2 dX11_lots_155 tb_1251 ?_
                      refine g_ldc2 dX11_lots_158 tb_1187 ?_
                      refine g_callSi dX11_lots_161 ln_X11_76 ⟨_, rfl⟩ rfl (Nat.le_of_ble_eq_true rfl) (Nat.le_of_ble_eq_true rfl) ct_in rfl (fun r161 m161 h161 => ?_)
                      obtain ⟨rfl, rfl⟩ := h161
                      rw [inJ_22 (by omega)]
                      refine g_if_eq (tgt := 176) dX11_lots_164 (by decide) (fun c164 => ?_) (fun c164 => ?_)
                      · skip
                        refine g_forget 6 ?_
                        refine g_forget 7 ?_
                        show Go _ _ _ _ _ _ [_, _, _, _, _, _, _, _] _ _ _
                        refine g_abs (fun I3 => FrM t.1 I3 ∧ AbsM rw tx P (slD P t.2.1 (nxL t.2.2.1)) sh tl ch fn I3 J) (by
                          have h64a : (nxL t.2.2.1) / 64 % 2 < 2 := Nat.mod_lt _ (by decide)
                          have h64b : (nxL t.2.2.1) / 64 % 4 < 4 := Nat.mod_lt _ (by decide)
                          have hkk := hQ.2.2.2.1 (evO P t.2.1).1
                          first
                            | (refine ⟨FrM.rf, ?_⟩
                               rw [slD_n (by
                                 unfold ltsB
                                 first
                                   | (rw [bI_eq c164, Bool.and_false])
                                   | (rw [(isK4 hkk).mpr c126, decide_eq_false (show ¬ (nxL t.2.2.1) / 64 % (if true = true then 2 else 4) = 0 from fun (q : (nxL t.2.2.1) / 64 % 2 = 0) => c141 ((lg_cmp_eq _ _).mpr (by rw [q]; rfl)))]; rfl)
                                   | (rw [isK_no (fun q => c126 ((isK4 hkk).mp q)), decide_eq_false (show ¬ (nxL t.2.2.1) / 64 % (if false = true then 2 else 4) = 0 from fun (q : (nxL t.2.2.1) / 64 % 4 = 0) => c141 ((lg_cmp_eq _ _).mpr (by rw [q]; rfl)))]; rfl))]
                               exact hA2)
                            | (refine ⟨FrM.of hf1 (by decide), ?_⟩
                               rw [slD_y (by
                                 unfold ltsB
                                 first
                                   | (rw [(isK4 hkk).mpr c126, bI_ne c164, Bool.and_true]; show decide ((nxL t.2.2.1) / 64 % 2 = 0) = true; exact decide_eq_true ((lN_eq (by omega) (by decide)).mp (show lN ((nxL t.2.2.1) / 64 % 2) = lN 0 from (lg_cmp_eq _ _).mp c141)))
                                   | (rw [isK_no (fun q => c126 ((isK4 hkk).mp q)), bI_ne c164, Bool.and_true]; show decide ((nxL t.2.2.1) / 64 % 4 = 0) = true; exact decide_eq_true ((lN_eq (by omega) (by decide)).mp (show lN ((nxL t.2.2.1) / 64 % 4) = lN 0 from (lg_cmp_eq _ _).mp c141))))]
                               exact hA2.upEv hf1 h01 h581 h591 hE1)) (fun I3 h3 => ?_)
                        obtain ⟨hf3, hA3⟩ := h3
                        have hO3 := slD_ok (x := (nxL t.2.2.1)) hO2 (Nat.lt_of_not_le hfu) h2p
                        refine g_aload_n dX11_lots_176 rfl ?_
                        refine g_callVi dX11_lots_177 ln_X11_192 ⟨_, rfl⟩ rfl (by decide) ⟨_, _, rfl⟩ rfl (Nat.le_of_ble_eq_true rfl) (Nat.le_of_ble_eq_true rfl) (ct_isFullM hA3.2.2.2.1.1 hO3.2.2.2.1.1) rfl (fun r177 m177 h177 => ?_)
                        obtain ⟨rfl, rfl⟩ := h177
                        refine g_if_ne (tgt := 193) dX11_lots_180 (by decide) (fun c180 => ?_) (fun c180 => ?_)
                        · skip
                          refine g_goto (tgt := 46) dX11_lots_193 (by decide) ?_
                          refine g_forget 6 ?_
                          refine g_forget 7 ?_
                          show Go _ _ _ _ _ _ [_, _, _, _, _, _, _, _] _ _ _
                          rw [lo_s, if_neg (fun q => q.elim hov hfu)] at hlo
                          first
                            | (have hfu3 := of_decide_eq_true (bI_ne c180)
                               rw [if_pos hfu3] at hlo
                               refine lots_fullM hA3 hO3 hfu3 ?_
                               exact ⟨_, rfl, hf2.tr hf3, by rw [hSl, ← hlo], by rw [hSl, ← hlo]; exact hA3⟩)
                            | (rw [if_neg hfu3] at hlo
                               rw [nI_inc]
                               exact kk (I4, slD P t.2.1 (nxL t.2.2.1) ++ [(0, 0, 0)], nxL t.2.2.1, t.2.2.2 + 1) hA4 (hO3.ds (hO3.2.2.2.1.app (Nat.lt_of_not_le hfu3) hok3)) ((hf2.tr hf3).tr (FrM.of hf4 (by decide))) (nxL_lt _) (by show t.2.2.2 + 1 + k = N; omega) hlo)
                            | fail "no way"
                        · skip
                          have hfu3 := of_decide_eq_false (bI_eq c180)
                          have hok3 : evOK P (evO P (slD P t.2.1 (nxL t.2.2.1))) (0, 0, 0) := ⟨by rw [slD_at]; exact Nat.lt_of_not_le hov, rfl, rfl⟩
                          refine g_aload_n dX11_lots_183 rfl ?_
                          refine g_iconst (v := 0) dX11_lots_184 (by decide) ?_
                          refine g_iconst (v := 0) dX11_lots_185 (by decide) ?_
                          refine g_iconst (v := 0) dX11_lots_186 (by decide) ?_
                          refine g_callVv dX11_lots_187 ln_X11_196 rfl rfl (by decide) ⟨_, _, rfl⟩ rfl (Nat.le_of_ble_eq_true rfl) (Nat.le_of_ble_eq_true rfl) (ct_does (e := (0, 0, 0)) hA3.2.2.1 hQ hA3.2.2.2.1 hO3.2.2.2.1 (Nat.lt_of_not_le hfu3) hok3 (howM_n (e := (0, 0, 0)) (by decide)).symm) rfl (fun m187 h187 => ?_)
                          obtain ⟨I4, rfl, hf4, h04, h584, h594, hE4⟩ := h187
                          have hA4 := hA3.upEv hf4 h04 h584 h594 hE4
                          refine g_iinc dX11_lots_190 rfl (by decide) ?_
                          show Go _ _ _ _ _ _ [_, _, _, _, _, _, _, _] _ _ _
                          refine g_goto (tgt := 46) dX11_lots_193 (by decide) ?_
                          refine g_forget 6 ?_
                          refine g_forget 7 ?_
                          show Go _ _ _ _ _ _ [_, _, _, _, _, _, _, _] _ _ _
                          rw [lo_s, if_neg (fun q => q.elim hov hfu)] at hlo
                          first
                            | (have hfu3 := of_decide_eq_true (bI_ne c180)
                               rw [if_pos hfu3] at hlo
                               refine lots_fullM hA3 hO3 hfu3 ?_
                               exact ⟨_, rfl, hf2.tr hf3, by rw [hSl, ← hlo], by rw [hSl, ← hlo]; exact hA3⟩)
                            | (rw [if_neg hfu3] at hlo
                               rw [nI_inc]
                               exact kk (I4, slD P t.2.1 (nxL t.2.2.1) ++ [(0, 0, 0)], nxL t.2.2.1, t.2.2.2 + 1) hA4 (hO3.ds (hO3.2.2.2.1.app (Nat.lt_of_not_le hfu3) hok3)) ((hf2.tr hf3).tr (FrM.of hf4 (by decide))) (nxL_lt _) (by show t.2.2.2 + 1 + k = N; omega) hlo)
                            | fail "no way"
                      · skip
                        have hcs := of_decide_eq_true (bI_ne c164)
                        have hhow : zI (szL (nxL t.2.2.1)) = howM (slE P (nxL t.2.2.1)) := by
                          rw [howM_1 (e := slE P (nxL t.2.2.1)) rfl, show ((slE P (nxL t.2.2.1)).2.2 : Int) - 1 = szL (nxL t.2.2.1) by show (((szL (nxL t.2.2.1) + 1).toNat : Nat) : Int) - 1 = szL (nxL t.2.2.1); omega]
                        refine g_aload_n dX11_lots_167 rfl ?_
                        refine g_iconst (v := 1) dX11_lots_168 (by decide) ?_
                        refine g_iload dX11_lots_169 rfl ?_
                        refine g_iload dX11_lots_171 rfl ?_
                        refine g_callVv dX11_lots_173 ln_X11_196 rfl rfl (by decide) ⟨_, _, rfl⟩ rfl (Nat.le_of_ble_eq_true rfl) (Nat.le_of_ble_eq_true rfl) (ct_does (e := slE P (nxL t.2.2.1)) hP2 hQ hEv2 hO2.2.2.2.1 (Nat.lt_of_not_le hfu) (sl_ok hmp hcs) hhow) rfl (fun m173 h173 => ?_)
                        obtain ⟨I1, rfl, hf1, h01, h581, h591, hE1⟩ := h173
                        refine g_forget 6 ?_
                        refine g_forget 7 ?_
                        show Go _ _ _ _ _ _ [_, _, _, _, _, _, _, _] _ _ _
                        refine g_abs (fun I3 => FrM t.1 I3 ∧ AbsM rw tx P (slD P t.2.1 (nxL t.2.2.1)) sh tl ch fn I3 J) (by
                          have h64a : (nxL t.2.2.1) / 64 % 2 < 2 := Nat.mod_lt _ (by decide)
                          have h64b : (nxL t.2.2.1) / 64 % 4 < 4 := Nat.mod_lt _ (by decide)
                          have hkk := hQ.2.2.2.1 (evO P t.2.1).1
                          first
                            | (refine ⟨FrM.rf, ?_⟩
                               rw [slD_n (by
                                 unfold ltsB
                                 first
                                   | (rw [bI_eq c164, Bool.and_false])
                                   | (rw [(isK4 hkk).mpr c126, decide_eq_false (show ¬ (nxL t.2.2.1) / 64 % (if true = true then 2 else 4) = 0 from fun (q : (nxL t.2.2.1) / 64 % 2 = 0) => c141 ((lg_cmp_eq _ _).mpr (by rw [q]; rfl)))]; rfl)
                                   | (rw [isK_no (fun q => c126 ((isK4 hkk).mp q)), decide_eq_false (show ¬ (nxL t.2.2.1) / 64 % (if false = true then 2 else 4) = 0 from fun (q : (nxL t.2.2.1) / 64 % 4 = 0) => c141 ((lg_cmp_eq _ _).mpr (by rw [q]; rfl)))]; rfl))]
                               exact hA2)
                            | (refine ⟨FrM.of hf1 (by decide), ?_⟩
                               rw [slD_y (by
                                 unfold ltsB
                                 first
                                   | (rw [(isK4 hkk).mpr c126, bI_ne c164, Bool.and_true]; show decide ((nxL t.2.2.1) / 64 % 2 = 0) = true; exact decide_eq_true ((lN_eq (by omega) (by decide)).mp (show lN ((nxL t.2.2.1) / 64 % 2) = lN 0 from (lg_cmp_eq _ _).mp c141)))
                                   | (rw [isK_no (fun q => c126 ((isK4 hkk).mp q)), bI_ne c164, Bool.and_true]; show decide ((nxL t.2.2.1) / 64 % 4 = 0) = true; exact decide_eq_true ((lN_eq (by omega) (by decide)).mp (show lN ((nxL t.2.2.1) / 64 % 4) = lN 0 from (lg_cmp_eq _ _).mp c141))))]
                               exact hA2.upEv hf1 h01 h581 h591 hE1)) (fun I3 h3 => ?_)
                        obtain ⟨hf3, hA3⟩ := h3
                        have hO3 := slD_ok (x := (nxL t.2.2.1)) hO2 (Nat.lt_of_not_le hfu) h2p
                        refine g_aload_n dX11_lots_176 rfl ?_
                        refine g_callVi dX11_lots_177 ln_X11_192 ⟨_, rfl⟩ rfl (by decide) ⟨_, _, rfl⟩ rfl (Nat.le_of_ble_eq_true rfl) (Nat.le_of_ble_eq_true rfl) (ct_isFullM hA3.2.2.2.1.1 hO3.2.2.2.1.1) rfl (fun r177 m177 h177 => ?_)
                        obtain ⟨rfl, rfl⟩ := h177
                        refine g_if_ne (tgt := 193) dX11_lots_180 (by decide) (fun c180 => ?_) (fun c180 => ?_)
                        · skip
                          refine g_goto (tgt := 46) dX11_lots_193 (by decide) ?_
                          refine g_forget 6 ?_
                          refine g_forget 7 ?_
                          show Go _ _ _ _ _ _ [_, _, _, _, _, _, _, _] _ _ _
                          rw [lo_s, if_neg (fun q => q.elim hov hfu)] at hlo
                          first
                            | (have hfu3 := of_decide_eq_true (bI_ne c180)
                               rw [if_pos hfu3] at hlo
                               refine lots_fullM hA3 hO3 hfu3 ?_
                               exact ⟨_, rfl, hf2.tr hf3, by rw [hSl, ← hlo], by rw [hSl, ← hlo]; exact hA3⟩)
                            | (rw [if_neg hfu3] at hlo
                               rw [nI_inc]
                               exact kk (I4, slD P t.2.1 (nxL t.2.2.1) ++ [(0, 0, 0)], nxL t.2.2.1, t.2.2.2 + 1) hA4 (hO3.ds (hO3.2.2.2.1.app (Nat.lt_of_not_le hfu3) hok3)) ((hf2.tr hf3).tr (FrM.of hf4 (by decide))) (nxL_lt _) (by show t.2.2.2 + 1 + k = N; omega) hlo)
                            | fail "no way"
                        · skip
                          have hfu3 := of_decide_eq_false (bI_eq c180)
                          have hok3 : evOK P (evO P (slD P t.2.1 (nxL t.2.2.1))) (0, 0, 0) := ⟨by rw [slD_at]; exact Nat.lt_of_not_le hov, rfl, rfl⟩
                          refine g_aload_n dX11_lots_183 rfl ?_
                          refine g_iconst (v := 0) dX11_lots_184 (by decide) ?_
                          refine g_iconst (v := 0) dX11_lots_185 (by decide) ?_
                          refine g_iconst (v := 0) dX11_lots_186 (by decide) ?_
                          refine g_callVv dX11_lots_187 ln_X11_196 rfl rfl (by decide) ⟨_, _, rfl⟩ rfl (Nat.le_of_ble_eq_true rfl) (Nat.le_of_ble_eq_true rfl) (ct_does (e := (0, 0, 0)) hA3.2.2.1 hQ hA3.2.2.2.1 hO3.2.2.2.1 (Nat.lt_of_not_le hfu3) hok3 (howM_n (e := (0, 0, 0)) (by decide)).symm) rfl (fun m187 h187 => ?_)
                          obtain ⟨I4, rfl, hf4, h04, h584, h594, hE4⟩ := h187
                          have hA4 := hA3.upEv hf4 h04 h584 h594 hE4
                          refine g_iinc dX11_lots_190 rfl (by decide) ?_
                          show Go _ _ _ _ _ _ [_, _, _, _, _, _, _, _] _ _ _
                          refine g_goto (tgt := 46) dX11_lots_193 (by decide) ?_
                          refine g_forget 6 ?_
                          refine g_forget 7 ?_
                          show Go _ _ _ _ _ _ [_, _, _, _, _, _, _, _] _ _ _
                          rw [lo_s, if_neg (fun q => q.elim hov hfu)] at hlo
                          first
                            | (have hfu3 := of_decide_eq_true (bI_ne c180)
                               rw [if_pos hfu3] at hlo
                               refine lots_fullM hA3 hO3 hfu3 ?_
                               exact ⟨_, rfl, hf2.tr hf3, by rw [hSl, ← hlo], by rw [hSl, ← hlo]; exact hA3⟩)
                            | (rw [if_neg hfu3] at hlo
                               rw [nI_inc]
                               exact kk (I4, slD P t.2.1 (nxL t.2.2.1) ++ [(0, 0, 0)], nxL t.2.2.1, t.2.2.2 + 1) hA4 (hO3.ds (hO3.2.2.2.1.app (Nat.lt_of_not_le hfu3) hok3)) ((hf2.tr hf3).tr (FrM.of hf4 (by decide))) (nxL_lt _) (by show t.2.2.2 + 1 + k = N; omega) hlo)
                            | fail "no way"
                  · skip
                    refine g_ldc2 dX11_lots_129 tb_1187 ?_
                    refine g_goto (tgt := 138) dX11_lots_132 (by decide) ?_
                    refine g_lrem dX11_lots_138 (by decide) ?_
                    first
                      | rw [show (2 : Int64) = lN 2 from rfl, pk_lRem (by omega) (by decide) (by decide)]
                      | rw [show (4 : Int64) = lN 4 from rfl, pk_lRem (by omega) (by decide) (by decide)]
                      | fail "no way"
                    refine g_lconst (v := 0) dX11_lots_139 (by decide) ?_
                    refine g_lcmp dX11_lots_140 ?_
                    refine g_if_ne (tgt := 176) dX11_lots_141 (by decide) (fun c141 => ?_) (fun c141 => ?_)
                    · skip
                      refine g_forget 6 ?_
                      refine g_forget 7 ?_
                      show Go _ _ _ _ _ _ [_, _, _, _, _, _, _, _] _ _ _
                      refine g_abs (fun I3 => FrM t.1 I3 ∧ AbsM rw tx P (slD P t.2.1 (nxL t.2.2.1)) sh tl ch fn I3 J) (by
                        have h64a : (nxL t.2.2.1) / 64 % 2 < 2 := Nat.mod_lt _ (by decide)
                        have h64b : (nxL t.2.2.1) / 64 % 4 < 4 := Nat.mod_lt _ (by decide)
                        have hkk := hQ.2.2.2.1 (evO P t.2.1).1
                        first
                          | (refine ⟨FrM.rf, ?_⟩
                             rw [slD_n (by
                               unfold ltsB
                               first
                                 | (rw [bI_eq c164, Bool.and_false])
                                 | (rw [(isK4 hkk).mpr c126, decide_eq_false (show ¬ (nxL t.2.2.1) / 64 % (if true = true then 2 else 4) = 0 from fun (q : (nxL t.2.2.1) / 64 % 2 = 0) => c141 ((lg_cmp_eq _ _).mpr (by rw [q]; rfl)))]; rfl)
                                 | (rw [isK_no (fun q => c126 ((isK4 hkk).mp q)), decide_eq_false (show ¬ (nxL t.2.2.1) / 64 % (if false = true then 2 else 4) = 0 from fun (q : (nxL t.2.2.1) / 64 % 4 = 0) => c141 ((lg_cmp_eq _ _).mpr (by rw [q]; rfl)))]; rfl))]
                             exact hA2)
                          | (refine ⟨FrM.of hf1 (by decide), ?_⟩
                             rw [slD_y (by
                               unfold ltsB
                               first
                                 | (rw [(isK4 hkk).mpr c126, bI_ne c164, Bool.and_true]; show decide ((nxL t.2.2.1) / 64 % 2 = 0) = true; exact decide_eq_true ((lN_eq (by omega) (by decide)).mp (show lN ((nxL t.2.2.1) / 64 % 2) = lN 0 from (lg_cmp_eq _ _).mp c141)))
                                 | (rw [isK_no (fun q => c126 ((isK4 hkk).mp q)), bI_ne c164, Bool.and_true]; show decide ((nxL t.2.2.1) / 64 % 4 = 0) = true; exact decide_eq_true ((lN_eq (by omega) (by decide)).mp (show lN ((nxL t.2.2.1) / 64 % 4) = lN 0 from (lg_cmp_eq _ _).mp c141))))]
                             exact hA2.upEv hf1 h01 h581 h591 hE1)) (fun I3 h3 => ?_)
                      obtain ⟨hf3, hA3⟩ := h3
                      have hO3 := slD_ok (x := (nxL t.2.2.1)) hO2 (Nat.lt_of_not_le hfu) h2p
                      refine g_aload_n dX11_lots_176 rfl ?_
                      refine g_callVi dX11_lots_177 ln_X11_192 ⟨_, rfl⟩ rfl (by decide) ⟨_, _, rfl⟩ rfl (Nat.le_of_ble_eq_true rfl) (Nat.le_of_ble_eq_true rfl) (ct_isFullM hA3.2.2.2.1.1 hO3.2.2.2.1.1) rfl (fun r177 m177 h177 => ?_)
                      obtain ⟨rfl, rfl⟩ := h177
                      refine g_if_ne (tgt := 193) dX11_lots_180 (by decide) (fun c180 => ?_) (fun c180 => ?_)
                      · skip
                        refine g_goto (tgt := 46) dX11_lots_193 (by decide) ?_
                        refine g_forget 6 ?_
                        refine g_forget 7 ?_
                        show Go _ _ _ _ _ _ [_, _, _, _, _, _, _, _] _ _ _
                        rw [lo_s, if_neg (fun q => q.elim hov hfu)] at hlo
                        first
                          | (have hfu3 := of_decide_eq_true (bI_ne c180)
                             rw [if_pos hfu3] at hlo
                             refine lots_fullM hA3 hO3 hfu3 ?_
                             exact ⟨_, rfl, hf2.tr hf3, by rw [hSl, ← hlo], by rw [hSl, ← hlo]; exact hA3⟩)
                          | (rw [if_neg hfu3] at hlo
                             rw [nI_inc]
                             exact kk (I4, slD P t.2.1 (nxL t.2.2.1) ++ [(0, 0, 0)], nxL t.2.2.1, t.2.2.2 + 1) hA4 (hO3.ds (hO3.2.2.2.1.app (Nat.lt_of_not_le hfu3) hok3)) ((hf2.tr hf3).tr (FrM.of hf4 (by decide))) (nxL_lt _) (by show t.2.2.2 + 1 + k = N; omega) hlo)
                          | fail "no way"
                      · skip
                        have hfu3 := of_decide_eq_false (bI_eq c180)
                        have hok3 : evOK P (evO P (slD P t.2.1 (nxL t.2.2.1))) (0, 0, 0) := ⟨by rw [slD_at]; exact Nat.lt_of_not_le hov, rfl, rfl⟩
                        refine g_aload_n dX11_lots_183 rfl ?_
                        refine g_iconst (v := 0) dX11_lots_184 (by decide) ?_
                        refine g_iconst (v := 0) dX11_lots_185 (by decide) ?_
                        refine g_iconst (v := 0) dX11_lots_186 (by decide) ?_
                        refine g_callVv dX11_lots_187 ln_X11_196 rfl rfl (by decide) ⟨_, _, rfl⟩ rfl (Nat.le_of_ble_eq_true rfl) (Nat.le_of_ble_eq_true rfl) (ct_does (e := (0, 0, 0)) hA3.2.2.1 hQ hA3.2.2.2.1 hO3.2.2.2.1 (Nat.lt_of_not_le hfu3) hok3 (howM_n (e := (0, 0, 0)) (by decide)).symm) rfl (fun m187 h187 => ?_)
                        obtain ⟨I4, rfl, hf4, h04, h584, h594, hE4⟩ := h187
                        have hA4 := hA3.upEv hf4 h04 h584 h594 hE4
                        refine g_iinc dX11_lots_190 rfl (by decide) ?_
                        show Go _ _ _ _ _ _ [_, _, _, _, _, _, _, _] _ _ _
                        refine g_goto (tgt := 46) dX11_lots_193 (by decide) ?_
                        refine g_forget 6 ?_
                        refine g_forget 7 ?_
                        show Go _ _ _ _ _ _ [_, _, _, _, _, _, _, _] _ _ _
                        rw [lo_s, if_neg (fun q => q.elim hov hfu)] at hlo
                        first
                          | (have hfu3 := of_decide_eq_true (bI_ne c180)
                             rw [if_pos hfu3] at hlo
                             refine lots_fullM hA3 hO3 hfu3 ?_
                             exact ⟨_, rfl, hf2.tr hf3, by rw [hSl, ← hlo], by rw [hSl, ← hlo]; exact hA3⟩)
                          | (rw [if_neg hfu3] at hlo
                             rw [nI_inc]
                             exact kk (I4, slD P t.2.1 (nxL t.2.2.1) ++ [(0, 0, 0)], nxL t.2.2.1, t.2.2.2 + 1) hA4 (hO3.ds (hO3.2.2.2.1.app (Nat.lt_of_not_le hfu3) hok3)) ((hf2.tr hf3).tr (FrM.of hf4 (by decide))) (nxL_lt _) (by show t.2.2.2 + 1 + k = N; omega) hlo)
                          | fail "no way"
                    · skip
                      refine g_aload_n dX11_lots_144 rfl ?_
                      refine t_getR dX11_lots_145 fl_X11_44 rfl (by decide) rfl (by decide) rfl ?_
                      refine g_iload dX11_lots_148 rfl ?_
                      refine t_iald dX11_lots_150 rfl (by decide) (in_nI (by omega) (by decide)) ?_
                      rw [cl_nI (by omega), hE2.2.2.2.1 _ (by omega)]
                      refine g_iload dX11_lots_151 rfl ?_
                      refine g_iadd dX11_lots_153 ?_
                      rw [z_add]
                      refine g_i2l dX11_lots_154 ?_
                      refine g_ldc2 dX11_lots_155 tb_1251 ?_
                      refine g_ldc2 dX11_lots_158 tb_1187 ?_
                      refine g_callSi dX11_lots_161 ln_X11_76 ⟨_, rfl⟩ rfl (Nat.le_of_ble_eq_true rfl) (Nat.le_of_ble_eq_true rfl) ct_in rfl (fun r161 m161 h161 => ?_)
                      obtain ⟨rfl, rfl⟩ := h161
                      rw [inJ_22 (by omega)]
                      refine g_if_eq (tgt := 176) dX11_lots_164 (by decide) (fun c164 => ?_) (fun c164 => ?_)
                      · skip
                        refine g_forget 6 ?_
                        refine g_forget 7 ?_
                        show Go _ _ _ _ _ _ [_, _, _, _, _, _, _, _] _ _ _
                        refine g_abs (fun I3 => FrM t.1 I3 ∧ AbsM rw tx P (slD P t.2.1 (nxL t.2.2.1)) sh tl ch fn I3 J) (by
                          have h64a : (nxL t.2.2.1) / 64 % 2 < 2 := Nat.mod_lt _ (by decide)
                          have h64b : (nxL t.2.2.1) / 64 % 4 < 4 := Nat.mod_lt _ (by decide)
                          have hkk := hQ.2.2.2.1 (evO P t.2.1).1
                          first
                            | (refine ⟨FrM.rf, ?_⟩
                               rw [slD_n (by
                                 unfold ltsB
                                 first
                                   | (rw [bI_eq c164, Bool.and_false])
                                   | (rw [(isK4 hkk).mpr c126, decide_eq_false (show ¬ (nxL t.2.2.1) / 64 % (if true = true then 2 else 4) = 0 from fun (q : (nxL t.2.2.1) / 64 % 2 = 0) => c141 ((lg_cmp_eq _ _).mpr (by rw [q]; rfl)))]; rfl)
                                   | (rw [isK_no (fun q => c126 ((isK4 hkk).mp q)), decide_eq_false (show ¬ (nxL t.2.2.1) / 64 % (if false = true then 2 else 4) = 0 from fun (q : (nxL t.2.2.1) / 64 % 4 = 0) => c141 ((lg_cmp_eq _ _).mpr (by rw [q]; rfl)))]; rfl))]
                               exact hA2)
                            | (refine ⟨FrM.of hf1 (by decide), ?_⟩
                               rw [slD_y (by
                                 unfold ltsB
                                 first
                                   | (rw [(isK4 hkk).mpr c126, bI_ne c164, Bool.and_true]; show decide ((nxL t.2.2.1) / 64 % 2 = 0) = true; exact decide_eq_true ((lN_eq (by omega) (by decide)).mp (show lN ((nxL t.2.2.1) / 64 % 2) = lN 0 from (lg_cmp_eq _ _).mp c141)))
                                   | (rw [isK_no (fun q => c126 ((isK4 hkk).mp q)), bI_ne c164, Bool.and_true]; show decide ((nxL t.2.2.1) / 64 % 4 = 0) = true; exact decide_eq_true ((lN_eq (by omega) (by decide)).mp (show lN ((nxL t.2.2.1) / 64 % 4) = lN 0 from (lg_cmp_eq _ _).mp c141))))]
                               exact hA2.upEv hf1 h01 h581 h591 hE1)) (fun I3 h3 => ?_)
                        obtain ⟨hf3, hA3⟩ := h3
                        have hO3 := slD_ok (x := (nxL t.2.2.1)) hO2 (Nat.lt_of_not_le hfu) h2p
                        refine g_aload_n dX11_lots_176 rfl ?_
                        refine g_callVi dX11_lots_177 ln_X11_192 ⟨_, rfl⟩ rfl (by decide) ⟨_, _, rfl⟩ rfl (Nat.le_of_ble_eq_true rfl) (Nat.le_of_ble_eq_true rfl) (ct_isFullM hA3.2.2.2.1.1 hO3.2.2.2.1.1) rfl (fun r177 m177 h177 => ?_)
                        obtain ⟨rfl, rfl⟩ := h177
                        refine g_if_ne (tgt := 193) dX11_lots_180 (by decide) (fun c180 => ?_) (fun c180 => ?_)
                        · skip
                          refine g_goto (tgt := 46) dX11_lots_193 (by decide) ?_
                          refine g_forget 6 ?_
                          refine g_forget 7 ?_
                          show Go _ _ _ _ _ _ [_, _, _, _, _, _, _, _] _ _ _
                          rw [lo_s, if_neg (fun q => q.elim hov hfu)] at hlo
                          first
                            | (have hfu3 := of_decide_eq_true (bI_ne c180)
                               rw [if_pos hfu3] at hlo
                               refine lots_fullM hA3 hO3 hfu3 ?_
                               exact ⟨_, rfl, hf2.tr hf3, by rw [hSl, ← hlo], by rw [hSl, ← hlo]; exact hA3⟩)
                            | (rw [if_neg hfu3] at hlo
                               rw [nI_inc]
                               exact kk (I4, slD P t.2.1 (nxL t.2.2.1) ++ [(0, 0, 0)], nxL t.2.2.1, t.2.2.2 + 1) hA4 (hO3.ds (hO3.2.2.2.1.app (Nat.lt_of_not_le hfu3) hok3)) ((hf2.tr hf3).tr (FrM.of hf4 (by decide))) (nxL_lt _) (by show t.2.2.2 + 1 + k = N; omega) hlo)
                            | fail "no way"
                        · skip
                          have hfu3 := of_decide_eq_false (bI_eq c180)
                          have hok3 : evOK P (evO P (slD P t.2.1 (nxL t.2.2.1))) (0, 0, 0) := ⟨by rw [slD_at]; exact Nat.lt_of_not_le hov, rfl, rfl⟩
                          refine g_aload_n dX11_lots_183 rfl ?_
                          refine g_iconst (v := 0) dX11_lots_184 (by decide) ?_
                          refine g_iconst (v := 0) dX11_lots_185 (by decide) ?_
                          refine g_iconst (v := 0) dX11_lots_186 (by decide) ?_
                          refine g_callVv dX11_lots_187 ln_X11_196 rfl rfl (by decide) ⟨_, _, rfl⟩ rfl (Nat.le_of_ble_eq_true rfl) (Nat.le_of_ble_eq_true rfl) (ct_does (e := (0, 0, 0)) hA3.2.2.1 hQ hA3.2.2.2.1 hO3.2.2.2.1 (Nat.lt_of_not_le hfu3) hok3 (howM_n (e := (0, 0, 0)) (by decide)).symm) rfl (fun m187 h187 => ?_)
                          obtain ⟨I4, rfl, hf4, h04, h584, h594, hE4⟩ := h187
                          have hA4 := hA3.upEv hf4 h04 h584 h594 hE4
                          refine g_iinc dX11_lots_190 rfl (by decide) ?_
                          show Go _ _ _ _ _ _ [_, _, _, _, _, _, _, _] _ _ _
                          refine g_goto (tgt := 46) dX11_lots_193 (by decide) ?_
                          refine g_forget 6 ?_
                          refine g_forget 7 ?_
                          show Go _ _ _ _ _ _ [_, _, _, _, _, _, _, _] _ _ _
                          rw [lo_s, if_neg (fun q => q.elim hov hfu)] at hlo
                          first
                            | (have hfu3 := of_decide_eq_true (bI_ne c180)
                               rw [if_pos hfu3] at hlo
                               refine lots_fullM hA3 hO3 hfu3 ?_
                               exact ⟨_, rfl, hf2.tr hf3, by rw [hSl, ← hlo], by rw [hSl, ← hlo]; exact hA3⟩)
                            | (rw [if_neg hfu3] at hlo
                               rw [nI_inc]
                               exact kk (I4, slD P t.2.1 (nxL t.2.2.1) ++ [(0, 0, 0)], nxL t.2.2.1, t.2.2.2 + 1) hA4 (hO3.ds (hO3.2.2.2.1.app (Nat.lt_of_not_le hfu3) hok3)) ((hf2.tr hf3).tr (FrM.of hf4 (by decide))) (nxL_lt _) (by show t.2.2.2 + 1 + k = N; omega) hlo)
                            | fail "no way"
                      · skip
                        have hcs := of_decide_eq_true (bI_ne c164)
                        have hhow : zI (szL (nxL t.2.2.1)) = howM (slE P (nxL t.2.2.1)) := by
                          rw [howM_1 (e := slE P (nxL t.2.2.1)) rfl, show ((slE P (nxL t.2.2.1)).2.2 : Int) - 1 = szL (nxL t.2.2.1) by show (((szL (nxL t.2.2.1) + 1).toNat : Nat) : Int) - 1 = szL (nxL t.2.2.1); omega]
                        refine g_aload_n dX11_lots_167 rfl ?_
                        refine g_iconst (v := 1) dX11_lots_168 (by decide) ?_
                        refine g_iload dX11_lots_169 rfl ?_
                        refine g_iload dX11_lots_171 rfl ?_
                        refine g_callVv dX11_lots_173 ln_X11_196 rfl rfl (by decide) ⟨_, _, rfl⟩ rfl (Nat.le_of_ble_eq_true rfl) (Nat.le_of_ble_eq_true rfl) (ct_does (e := slE P (nxL t.2.2.1)) hP2 hQ hEv2 hO2.2.2.2.1 (Nat.lt_of_not_le hfu) (sl_ok hmp hcs) hhow) rfl (fun m173 h173 => ?_)
                        obtain ⟨I1, rfl, hf1, h01, h581, h591, hE1⟩ := h173
                        refine g_forget 6 ?_
                        refine g_forget 7 ?_
                        show Go _ _ _ _ _ _ [_, _, _, _, _, _, _, _] _ _ _
                        refine g_abs (fun I3 => FrM t.1 I3 ∧ AbsM rw tx P (slD P t.2.1 (nxL t.2.2.1)) sh tl ch fn I3 J) (by
                          have h64a : (nxL t.2.2.1) / 64 % 2 < 2 := Nat.mod_lt _ (by decide)
                          have h64b : (nxL t.2.2.1) / 64 % 4 < 4 := Nat.mod_lt _ (by decide)
                          have hkk := hQ.2.2.2.1 (evO P t.2.1).1
                          first
                            | (refine ⟨FrM.rf, ?_⟩
                               rw [slD_n (by
                                 unfold ltsB
                                 first
                                   | (rw [bI_eq c164, Bool.and_false])
                                   | (rw [(isK4 hkk).mpr c126, decide_eq_false (show ¬ (nxL t.2.2.1) / 64 % (if true = true then 2 else 4) = 0 from fun (q : (nxL t.2.2.1) / 64 % 2 = 0) => c141 ((lg_cmp_eq _ _).mpr (by rw [q]; rfl)))]; rfl)
                                   | (rw [isK_no (fun q => c126 ((isK4 hkk).mp q)), decide_eq_false (show ¬ (nxL t.2.2.1) / 64 % (if false = true then 2 else 4) = 0 from fun (q : (nxL t.2.2.1) / 64 % 4 = 0) => c141 ((lg_cmp_eq _ _).mpr (by rw [q]; rfl)))]; rfl))]
                               exact hA2)
                            | (refine ⟨FrM.of hf1 (by decide), ?_⟩
                               rw [slD_y (by
                                 unfold ltsB
                                 first
                                   | (rw [(isK4 hkk).mpr c126, bI_ne c164, Bool.and_true]; show decide ((nxL t.2.2.1) / 64 % 2 = 0) = true; exact decide_eq_true ((lN_eq (by omega) (by decide)).mp (show lN ((nxL t.2.2.1) / 64 % 2) = lN 0 from (lg_cmp_eq _ _).mp c141)))
                                   | (rw [isK_no (fun q => c126 ((isK4 hkk).mp q)), bI_ne c164, Bool.and_true]; show decide ((nxL t.2.2.1) / 64 % 4 = 0) = true; exact decide_eq_true ((lN_eq (by omega) (by decide)).mp (show lN ((nxL t.2.2.1) / 64 % 4) = lN 0 from (lg_cmp_eq _ _).mp c141))))]
                               exact hA2.upEv hf1 h01 h581 h591 hE1)) (fun I3 h3 => ?_)
                        obtain ⟨hf3, hA3⟩ := h3
                        have hO3 := slD_ok (x := (nxL t.2.2.1)) hO2 (Nat.lt_of_not_le hfu) h2p
                        refine g_aload_n dX11_lots_176 rfl ?_
                        refine g_callVi dX11_lots_177 ln_X11_192 ⟨_, rfl⟩ rfl (by decide) ⟨_, _, rfl⟩ rfl (Nat.le_of_ble_eq_true rfl) (Nat.le_of_ble_eq_true rfl) (ct_isFullM hA3.2.2.2.1.1 hO3.2.2.2.1.1) rfl (fun r177 m177 h177 => ?_)
                        obtain ⟨rfl, rfl⟩ := h177
                        refine g_if_ne (tgt := 193) dX11_lots_180 (by decide) (fun c180 => ?_) (fun c180 => ?_)
                        · skip
                          refine g_goto (tgt := 46) dX11_lots_193 (by decide) ?_
                          refine g_forget 6 ?_
                          refine g_forget 7 ?_
                          show Go _ _ _ _ _ _ [_, _, _, _, _, _, _, _] _ _ _
                          rw [lo_s, if_neg (fun q => q.elim hov hfu)] at hlo
                          first
                            | (have hfu3 := of_decide_eq_true (bI_ne c180)
                               rw [if_pos hfu3] at hlo
                               refine lots_fullM hA3 hO3 hfu3 ?_
                               exact ⟨_, rfl, hf2.tr hf3, by rw [hSl, ← hlo], by rw [hSl, ← hlo]; exact hA3⟩)
                            | (rw [if_neg hfu3] at hlo
                               rw [nI_inc]
                               exact kk (I4, slD P t.2.1 (nxL t.2.2.1) ++ [(0, 0, 0)], nxL t.2.2.1, t.2.2.2 + 1) hA4 (hO3.ds (hO3.2.2.2.1.app (Nat.lt_of_not_le hfu3) hok3)) ((hf2.tr hf3).tr (FrM.of hf4 (by decide))) (nxL_lt _) (by show t.2.2.2 + 1 + k = N; omega) hlo)
                            | fail "no way"
                        · skip
                          have hfu3 := of_decide_eq_false (bI_eq c180)
                          have hok3 : evOK P (evO P (slD P t.2.1 (nxL t.2.2.1))) (0, 0, 0) := ⟨by rw [slD_at]; exact Nat.lt_of_not_le hov, rfl, rfl⟩
                          refine g_aload_n dX11_lots_183 rfl ?_
                          refine g_iconst (v := 0) dX11_lots_184 (by decide) ?_
                          refine g_iconst (v := 0) dX11_lots_185 (by decide) ?_
                          refine g_iconst (v := 0) dX11_lots_186 (by decide) ?_
                          refine g_callVv dX11_lots_187 ln_X11_196 rfl rfl (by decide) ⟨_, _, rfl⟩ rfl (Nat.le_of_ble_eq_true rfl) (Nat.le_of_ble_eq_true rfl) (ct_does (e := (0, 0, 0)) hA3.2.2.1 hQ hA3.2.2.2.1 hO3.2.2.2.1 (Nat.lt_of_not_le hfu3) hok3 (howM_n (e := (0, 0, 0)) (by decide)).symm) rfl (fun m187 h187 => ?_)
                          obtain ⟨I4, rfl, hf4, h04, h584, h594, hE4⟩ := h187
                          have hA4 := hA3.upEv hf4 h04 h584 h594 hE4
                          refine g_iinc dX11_lots_190 rfl (by decide) ?_
                          show Go _ _ _ _ _ _ [_, _, _, _, _, _, _, _] _ _ _
                          refine g_goto (tgt := 46) dX11_lots_193 (by decide) ?_
                          refine g_forget 6 ?_
                          refine g_forget 7 ?_
                          show Go _ _ _ _ _ _ [_, _, _, _, _, _, _, _] _ _ _
                          rw [lo_s, if_neg (fun q => q.elim hov hfu)] at hlo
                          first
                            | (have hfu3 := of_decide_eq_true (bI_ne c180)
                               rw [if_pos hfu3] at hlo
                               refine lots_fullM hA3 hO3 hfu3 ?_
                               exact ⟨_, rfl, hf2.tr hf3, by rw [hSl, ← hlo], by rw [hSl, ← hlo]; exact hA3⟩)
                            | (rw [if_neg hfu3] at hlo
                               rw [nI_inc]
                               exact kk (I4, slD P t.2.1 (nxL t.2.2.1) ++ [(0, 0, 0)], nxL t.2.2.1, t.2.2.2 + 1) hA4 (hO3.ds (hO3.2.2.2.1.app (Nat.lt_of_not_le hfu3) hok3)) ((hf2.tr hf3).tr (FrM.of hf4 (by decide))) (nxL_lt _) (by show t.2.2.2 + 1 + k = N; omega) hlo)
                            | fail "no way"
        · have hP2 := hA2.2.2.1
          have hEv2 := hA2.2.2.2.1
          have hE2 := hEv2.2.2
          have hR2 : EvR (evO P t.2.1) := EvR.e.run hQ hO2.2.2.2.1.2
          have hr2 := hR2.1
          have hl2 := hO2.2.2.2.1.1
          refine g_iload dX11_lots_46 rfl ?_
          refine g_iload_n dX11_lots_48 rfl ?_
          refine g_icmp_ge (tgt := 196) dX11_lots_49 (by decide) (fun c49 => ?_) (fun c49 => ?_)
          · skip
            refine g_iload dX11_lots_196 rfl ?_
            refine g_iret dX11_lots_198 (fun ty h => by cases h; rfl) ?_
            first
              | (rw [lo_0] at hlo
                 exact ⟨_, rfl, hf2, by rw [hSl, ← hlo], by rw [hSl, ← hlo]; exact hA2⟩)
              | (rw [lo_s, if_pos (Or.inl ((nI_leI (by omega) (by omega)).mp c60))] at hlo
                 exact ⟨_, rfl, hf2, by rw [hSl, ← hlo], by rw [hSl, ← hlo]; exact hA2⟩)
              | (rw [lo_s, if_pos (Or.inr (of_decide_eq_true (bI_ne c67)))] at hlo
                 exact ⟨_, rfl, hf2, by rw [hSl, ← hlo], by rw [hSl, ← hlo]; exact hA2⟩)
              | fail "no way"
          · exact absurd (nI_le (show N ≤ t.2.2.2 by omega) (by omega)) c49
      · skip
        refine g_bipush (v := -4) dX11_lots_37 (by decide) ?_
        refine g_iret dX11_lots_39 (fun ty h => by cases h; rfl) ?_
        have hS : S_lots P ds (nI N) (nI sd) = (-4, ds) := by unfold S_lots; rw [if_pos hcond, if_pos (Nat.le_of_not_lt (fun q => c34 (nI_lt q (by omega))))]
        exact ⟨_, rfl, FrM.rf, by rw [hS], by rw [hS]; exact hA⟩
    · skip
      refine g_iconst (v := -1) dX11_lots_24 (by decide) ?_
      refine g_iret dX11_lots_25 (fun ty h => by cases h; rfl) ?_
      have hS : S_lots P ds n e = (-1, ds) := by
        unfold S_lots
        rw [if_neg (fun q => by
          first
            | exact absurd q.1 (of_decide_eq_false (bI_eq c9))
            | exact absurd q.2 (of_decide_eq_false (bI_eq c21)))]
      exact ⟨_, rfl, FrM.rf, by rw [hS], by rw [hS]; exact hA⟩
end
