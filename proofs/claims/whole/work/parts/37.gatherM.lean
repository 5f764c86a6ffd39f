section
variable {X : Nat × (Nat → Int32)} {d : Nat} {I : Nat → Nat → Int32} {J : Nat → Nat → Int64}
/-! ===== promises 37 to 39, model side ===== -/
theorem eqP_s (n : Nat) (s : Nat → Int32) : eqP (n + 1) s = (eqP n s && decide (s n = s 0)) := by
  unfold eqP
  rw [← Bool.decide_and]
  exact decide_eq_decide.mpr ⟨fun h => ⟨fun p hp => h p (by omega), h n (by omega)⟩, fun h p hp => by
    rcases Nat.lt_or_ge p n with q | q
    · exact h.1 p q
    · rw [show p = n by omega]; exact h.2⟩
theorem lwF_s (s : Nat → Int32) (p : Nat) : lwF s (p + 1) = if s p < lwF s p then s p else lwF s p := rfl
theorem hgF_s (s : Nat → Int32) (p : Nat) : hgF s (p + 1) = if hgF s p < s p then s p else hgF s p := rfl
theorem fstN_all {p : Nat → Bool} : ∀ {n : Nat}, fstN p n = none → ∀ i, i < n → p i = false
  | 0, _, i, hi => absurd hi (Nat.not_lt_zero i)
  | n + 1, h, i, hi => by
    rw [fstN_s] at h
    cases hf : fstN p n with
    | some j => rw [hf] at h; cases h
    | none =>
      rw [hf] at h
      rcases Nat.lt_or_ge i n with q | q
      · exact fstN_all hf i q
      · rw [show i = n by omega]
        cases hp : p n with
        | false => rfl
        | true => rw [hp] at h; cases h
theorem wy_1 {n : Nat} {s : Nat → Int32} (h : wyS n 1 s = none) : False := by
  have e : eqP n (itS n 1 s 1) = false := fstN_all h 1 (by decide)
  have e2 : eqP n (itS n 1 s 1) = true := decide_eq_true (fun p hp => rfl)
  rw [e2] at e
  cases e
theorem ru_up {n : Nat} {s : Nat → Int32} {r : Nat} (h : ¬ ruF n s r = none) : ¬ ruF n s (r + 1) = none := by
  rw [ruF_s]
  unfold ruT
  cases hw : wyS n r s with
  | none => exact h
  | some k =>
    cases hf : ruF n s r with
    | none => exact absurd hf h
    | some b =>
      dsimp only
      split <;> exact fun q => by cases q
theorem ru_2 {n : Nat} {s : Nat → Int32} : ¬ ruF n s 2 = none := by
  rw [show (2 : Nat) = 1 + 1 from rfl, ruF_s]
  unfold ruT
  cases hw : wyS n 1 s with
  | none => exact absurd hw (fun q => wy_1 q)
  | some k =>
    cases hf : ruF n s 1 with
    | none => exact fun q => by cases q
    | some b =>
      dsimp only
      split <;> exact fun q => by cases q
theorem ru_6 {n : Nat} {s : Nat → Int32} : ¬ ruF n s 6 = none := ru_up (ru_up (ru_up (ru_up ru_2)))
def ruC (o : Option (Nat × Nat)) : Int32 := match o with
  | none => 0
  | some b => nI b.1
def ruD (o : Option (Nat × Nat)) : Int32 := match o with
  | none => 99
  | some b => nI b.2
theorem ru_ltM {n : Nat} {s : Nat → Int32} {r k : Nat} (h : wyS n r s = some k) (hl : nI k < ruD (ruF n s r)) : ruF n s (r + 1) = some (r, k) := by
  have hk := (fstN_spec h).1
  rw [ruF_s]
  unfold ruT
  rw [h]
  cases hf : ruF n s r with
  | none => rfl
  | some c =>
    rw [hf] at hl
    have hc := ru_b hf
    exact if_pos ((nI_ltI (by omega) (by omega)).mp hl)
theorem ru_geM {n : Nat} {s : Nat → Int32} {r k : Nat} (h : wyS n r s = some k) (hl : ¬ nI k < ruD (ruF n s r)) : ruF n s (r + 1) = ruF n s r := by
  have hk := (fstN_spec h).1
  rw [ruF_s]
  unfold ruT
  rw [h]
  cases hf : ruF n s r with
  | none => rw [hf] at hl; exact absurd (nI_lt (show k < 99 by omega) (by decide)) hl
  | some c =>
    rw [hf] at hl
    have hc := ru_b hf
    exact if_neg (fun q => hl (nI_lt q (by omega)))
theorem PcM.g {P : Pce} {I' : Nat → Nat → Int32} (h : PcM P I) (hf : Fr [63, 64] I I') : PcM P I' := h.keep (by rw [hf 48 (by decide)]) (by rw [hf 48 (by decide)]) (hf 54 (by decide)) (hf 55 (by decide))
theorem inJ_05 {i : Int32} : inJ i.toInt64 0 5 = inR i 6 := by
  rw [← inJ_sz (by decide), show (nI 6 - 1).toInt64 = 5 by decide]
theorem AbsM.g {rw tx : Tab} {P : Pce} {ds : List Deed} {sh : Shf} {tl : Int32} {ch : Int64 × Int64} {fn : Fnd} {I' : Nat → Nat → Int32} (h : AbsM rw tx P ds sh tl ch fn I J) (hf : Fr [63, 64] I I') : AbsM rw tx P ds sh tl ch fn I' J := h.scr (hf.mono (by decide))
theorem ct_areOne {n : Nat} {s : Nat → Int32} (hn : I 48 5 = nI (n + 1)) (h4 : n + 1 ≤ 4) (hs : ∀ q, q < n + 1 → I 63 q = s q) : Ct X d 66 M_X11_areOne 66 [.ref 48] (I, J, rf0) (RI (fun y9 m => y9 = bI (eqP (n + 1) s) ∧ m = (I, J, rf0))) := by
  show Go _ _ _ _ _ _ [_, _, _] _ _ _
  refine g_iconst (v := 1) dX11_areOne_0 (by decide) ?_
  refine g_istore_n dX11_areOne_1 (by decide) ?_
  show Go _ _ _ _ _ _ [_, _, _] _ _ _
  refine g_iconst (v := 1) dX11_areOne_2 (by decide) ?_
  refine g_istore_n dX11_areOne_3 (by decide) ?_
  show Go _ _ _ _ _ _ [_, _, _] _ _ _
  refine go_ix n (fun i => ∀ b, b = eqP (i + 1) s → Go X d 66 M_X11_areOne 66 4 [.ref 48, .int (bI b), .int (nI (i + 1))] [] (I, J, rf0) (RI (fun y9 m => y9 = bI (eqP (n + 1) s) ∧ m = (I, J, rf0)))) (fun i hi kk b hb => ?_) (fun b hb => ?_) true (decide_eq_true (fun p hp => by rw [show p = 0 by omega])).symm
  · skip
    refine g_iload_n dX11_areOne_4 rfl ?_
    refine g_aload_n dX11_areOne_5 rfl ?_
    refine t_getI dX11_areOne_6 fl_X11_116 rfl (by decide) rfl (by decide) ?_
    rw [hn]
    refine g_icmp_ge (tgt := 43) dX11_areOne_9 (by decide) (fun c9 => ?_) (fun c9 => ?_)
    · exact absurd (nI_lt (show i + 1 < n + 1 by omega) (by omega)) (Int32.not_lt.mpr c9)
    · skip
      refine g_iload_n dX11_areOne_12 rfl ?_
      refine g_if_eq (tgt := 35) dX11_areOne_13 (by decide) (fun c13 => ?_) (fun c13 => ?_)
      · skip
        refine g_iconst (v := 0) dX11_areOne_35 (by decide) ?_
        refine g_istore_n dX11_areOne_36 (by decide) ?_
        show Go _ _ _ _ _ _ [_, _, _] _ _ _
        refine g_iinc dX11_areOne_37 rfl (by decide) ?_
        show Go _ _ _ _ _ _ [_, _, _] _ _ _
        refine g_goto (tgt := 4) dX11_areOne_40 (by decide) ?_
        rw [nI_inc]
        first
          | exact kk true (by rw [eqP_s, ← hb, bI_ne c13, decide_eq_true c28]; rfl)
          | exact kk false (by rw [eqP_s, ← hb, bI_ne c13, decide_eq_false c28]; rfl)
          | exact kk false (by rw [eqP_s, ← hb, bI_eq c13]; rfl)
          | fail "no way"
      · skip
        refine g_aload_n dX11_areOne_16 rfl ?_
        refine t_getR dX11_areOne_17 fl_X11_57 rfl (by decide) rfl (by decide) rfl ?_
        refine g_iload_n dX11_areOne_20 rfl ?_
        refine t_iald dX11_areOne_21 rfl (by decide) (in_nI (by omega) (by decide)) ?_
        rw [cl_nI (by omega), hs (i + 1) (by omega)]
        refine g_aload_n dX11_areOne_22 rfl ?_
        refine t_getR dX11_areOne_23 fl_X11_57 rfl (by decide) rfl (by decide) rfl ?_
        refine g_iconst (v := 0) dX11_areOne_26 (by decide) ?_
        refine t_iald dX11_areOne_27 rfl (by decide) (in_nI (j := 0) (by decide) (by decide)) ?_
        rw [show (0 : Int32).toNatClampNeg = 0 by decide, hs 0 (by omega)]
        refine g_icmp_ne (tgt := 35) dX11_areOne_28 (by decide) (fun c28 => ?_) (fun c28 => ?_)
        · skip
          refine g_iconst (v := 0) dX11_areOne_35 (by decide) ?_
          refine g_istore_n dX11_areOne_36 (by decide) ?_
          show Go _ _ _ _ _ _ [_, _, _] _ _ _
          refine g_iinc dX11_areOne_37 rfl (by decide) ?_
          show Go _ _ _ _ _ _ [_, _, _] _ _ _
          refine g_goto (tgt := 4) dX11_areOne_40 (by decide) ?_
          rw [nI_inc]
          first
            | exact kk true (by rw [eqP_s, ← hb, bI_ne c13, decide_eq_true c28]; rfl)
            | exact kk false (by rw [eqP_s, ← hb, bI_ne c13, decide_eq_false c28]; rfl)
            | exact kk false (by rw [eqP_s, ← hb, bI_eq c13]; rfl)
            | fail "no way"
        · skip
          refine g_iconst (v := 1) dX11_areOne_31 (by decide) ?_
          refine g_goto (tgt := 36) dX11_areOne_32 (by decide) ?_
          refine g_istore_n dX11_areOne_36 (by decide) ?_
          show Go _ _ _ _ _ _ [_, _, _] _ _ _
          refine g_iinc dX11_areOne_37 rfl (by decide) ?_
          show Go _ _ _ _ _ _ [_, _, _] _ _ _
          refine g_goto (tgt := 4) dX11_areOne_40 (by decide) ?_
          rw [nI_inc]
          first
            | exact kk true (by rw [eqP_s, ← hb, bI_ne c13, decide_eq_true c28]; rfl)
            | exact kk false (by rw [eqP_s, ← hb, bI_ne c13, decide_eq_false c28]; rfl)
            | exact kk false (by rw [eqP_s, ← hb, bI_eq c13]; rfl)
            | fail "no way"
  · skip
    refine g_iload_n dX11_areOne_4 rfl ?_
    refine g_aload_n dX11_areOne_5 rfl ?_
    refine t_getI dX11_areOne_6 fl_X11_116 rfl (by decide) rfl (by decide) ?_
    rw [hn]
    refine g_icmp_ge (tgt := 43) dX11_areOne_9 (by decide) (fun c9 => ?_) (fun c9 => ?_)
    · skip
      refine g_iload_n dX11_areOne_43 rfl ?_
      refine g_iret dX11_areOne_44 (fun ty h => by cases h; exact bI_narrow _) ?_
      refine ⟨?_, rfl⟩
      rw [hb]
    · exact absurd (Int32.le_refl _) c9
theorem ct_most {n : Nat} {s : Nat → Int32} (hn : I 48 5 = nI (n + 1)) (h4 : n + 1 ≤ 4) (hs : ∀ q, q < n + 1 → I 63 q = s q) : Ct X d 66 M_X11_most 66 [.ref 48] (I, J, rf0) (RI (fun y9 m => y9 = (flF (n + 1) s 5).1 ∧ m = (I, J, rf0))) := by
  show Go _ _ _ _ _ _ [_, _, _, _, _, _] _ _ _
  refine g_iconst (v := 0) dX11_most_0 (by decide) ?_
  refine g_istore_n dX11_most_1 (by decide) ?_
  show Go _ _ _ _ _ _ [_, _, _, _, _, _] _ _ _
  refine g_iconst (v := 0) dX11_most_2 (by decide) ?_
  refine g_istore_n dX11_most_3 (by decide) ?_
  show Go _ _ _ _ _ _ [_, _, _, _, _, _] _ _ _
  refine g_bipush (v := -2) dX11_most_4 (by decide) ?_
  refine g_istore_n dX11_most_6 (by decide) ?_
  show Go _ _ _ _ _ _ [_, _, _, _, _, _] _ _ _
  refine go_ix 5 (fun i => Go X d 66 M_X11_most 66 7 [.ref 48, .int (flF (n + 1) s i).1, .int (nI (flF (n + 1) s i).2), .int (zI ((i : Int) - 2)), .null, .null] [] (I, J, rf0) (RI (fun y9 m => y9 = (flF (n + 1) s 5).1 ∧ m = (I, J, rf0)))) (fun i hi kk => ?_) ?_
  · skip
    refine g_iload_n dX11_most_7 rfl ?_
    refine g_iconst (v := 3) dX11_most_8 (by decide) ?_
    refine g_icmp_ge (tgt := 85) dX11_most_9 (by decide) (fun c9 => ?_) (fun c9 => ?_)
    · exact absurd c9 (by rw [show (3 : Int32) = zI 3 from rfl, z_le (by omega) (by omega)]; omega)
    · skip
      refine g_iconst (v := 0) dX11_most_12 (by decide) ?_
      refine g_istore dX11_most_13 (by decide) ?_
      show Go _ _ _ _ _ _ [_, _, _, _, _, _] _ _ _
      refine g_iconst (v := 0) dX11_most_15 (by decide) ?_
      refine g_istore dX11_most_16 (by decide) ?_
      show Go _ _ _ _ _ _ [_, _, _, _, _, _] _ _ _
      refine go_ix (n + 1) (fun p => Go X d 66 M_X11_most 66 18 [.ref 48, .int (flF (n + 1) s i).1, .int (nI (flF (n + 1) s i).2), .int (zI ((i : Int) - 2)), .int (nI (atN s (zI ((i : Int) - 2)) p)), .int (nI p)] [] (I, J, rf0) (RI (fun y9 m => y9 = (flF (n + 1) s 5).1 ∧ m = (I, J, rf0)))) (fun p hp kk2 => ?_) ?_
      · skip
        refine g_iload dX11_most_18 rfl ?_
        refine g_aload_n dX11_most_20 rfl ?_
        refine t_getI dX11_most_21 fl_X11_116 rfl (by decide) rfl (by decide) ?_
        rw [hn]
        refine g_icmp_ge (tgt := 54) dX11_most_24 (by decide) (fun c24 => ?_) (fun c24 => ?_)
        · exact absurd (nI_lt hp (by omega)) (Int32.not_lt.mpr c24)
        · skip
          refine g_iload dX11_most_27 rfl ?_
          refine g_aload_n dX11_most_29 rfl ?_
          refine t_getR dX11_most_30 fl_X11_57 rfl (by decide) rfl (by decide) rfl ?_
          refine g_iload dX11_most_33 rfl ?_
          refine t_iald dX11_most_35 rfl (by decide) (in_nI (by omega) (by decide)) ?_
          rw [cl_nI (by omega), hs p hp]
          refine g_iload_n dX11_most_36 rfl ?_
          refine g_icmp_ne (tgt := 44) dX11_most_37 (by decide) (fun c37 => ?_) (fun c37 => ?_)
          · skip
            refine g_iconst (v := 0) dX11_most_44 (by decide) ?_
            refine g_iadd dX11_most_45 ?_
            refine g_istore dX11_most_46 (by decide) ?_
            show Go _ _ _ _ _ _ [_, _, _, _, _, _] _ _ _
            refine g_iinc dX11_most_48 rfl (by decide) ?_
            show Go _ _ _ _ _ _ [_, _, _, _, _, _] _ _ _
            refine g_goto (tgt := 18) dX11_most_51 (by decide) ?_
            rw [show atN s (zI ((i : Int) - 2)) (p + 1) = if decide (s p = zI ((i : Int) - 2)) then atN s (zI ((i : Int) - 2)) p + 1 else atN s (zI ((i : Int) - 2)) p from rfl] at kk2
            rw [nI_inc]
            first
              | (rw [if_pos (decide_eq_true c37)] at kk2
                 rw [show (1 : Int32) = nI 1 from rfl, nI_add]
                 exact kk2)
              | (rw [if_neg (show ¬ decide (s p = zI ((i : Int) - 2)) = true by rw [decide_eq_false c37]; decide)] at kk2
                 rw [show (0 : Int32) = nI 0 from rfl, nI_add]
                 exact kk2)
              | fail "no way"
          · skip
            refine g_iconst (v := 1) dX11_most_40 (by decide) ?_
            refine g_goto (tgt := 45) dX11_most_41 (by decide) ?_
            refine g_iadd dX11_most_45 ?_
            refine g_istore dX11_most_46 (by decide) ?_
            show Go _ _ _ _ _ _ [_, _, _, _, _, _] _ _ _
            refine g_iinc dX11_most_48 rfl (by decide) ?_
            show Go _ _ _ _ _ _ [_, _, _, _, _, _] _ _ _
            refine g_goto (tgt := 18) dX11_most_51 (by decide) ?_
            rw [show atN s (zI ((i : Int) - 2)) (p + 1) = if decide (s p = zI ((i : Int) - 2)) then atN s (zI ((i : Int) - 2)) p + 1 else atN s (zI ((i : Int) - 2)) p from rfl] at kk2
            rw [nI_inc]
            first
              | (rw [if_pos (decide_eq_true c37)] at kk2
                 rw [show (1 : Int32) = nI 1 from rfl, nI_add]
                 exact kk2)
              | (rw [if_neg (show ¬ decide (s p = zI ((i : Int) - 2)) = true by rw [decide_eq_false c37]; decide)] at kk2
                 rw [show (0 : Int32) = nI 0 from rfl, nI_add]
                 exact kk2)
              | fail "no way"
      · skip
        refine g_iload dX11_most_18 rfl ?_
        refine g_aload_n dX11_most_20 rfl ?_
        refine t_getI dX11_most_21 fl_X11_116 rfl (by decide) rfl (by decide) ?_
        rw [hn]
        refine g_icmp_ge (tgt := 54) dX11_most_24 (by decide) (fun c24 => ?_) (fun c24 => ?_)
        · skip
          refine g_iload dX11_most_54 rfl ?_
          refine g_iload_n dX11_most_56 rfl ?_
          refine g_icmp_le (tgt := 64) dX11_most_57 (by decide) (fun c57 => ?_) (fun c57 => ?_)
          · skip
            refine g_iload_n dX11_most_64 rfl ?_
            refine g_istore_n dX11_most_65 (by decide) ?_
            show Go _ _ _ _ _ _ [_, _, _, _, _, _] _ _ _
            refine g_iload dX11_most_66 rfl ?_
            refine g_iload_n dX11_most_68 rfl ?_
            refine g_icmp_le (tgt := 77) dX11_most_69 (by decide) (fun c69 => ?_) (fun c69 => ?_)
            · skip
              refine g_iload_n dX11_most_77 rfl ?_
              refine g_istore_n dX11_most_78 (by decide) ?_
              show Go _ _ _ _ _ _ [_, _, _, _, _, _] _ _ _
              refine g_iinc dX11_most_79 rfl (by decide) ?_
              show Go _ _ _ _ _ _ [_, _, _, _, _, _] _ _ _
              refine g_goto (tgt := 7) dX11_most_82 (by decide) ?_
              refine g_forget 4 ?_
              refine g_forget 5 ?_
              show Go _ _ _ _ _ _ [_, _, _, _, _, _] _ _ _
              rw [ze_inc]
              rw [flF_s] at kk
              have b1 := flF_le (n + 1) s i
              have b2 : atN s (zI ((i : Int) - 2)) (n + 1) ≤ n + 1 := cntP_le _ _
              first
                | exact absurd c57 c69
                | exact absurd c69 c57
                | (rw [if_pos ((nI_ltI (by omega) (by omega)).mp (Int32.not_le.mp c57))] at kk
                   exact kk)
                | (rw [if_neg (fun q => absurd (nI_lt q (by omega)) (Int32.not_lt.mpr c57))] at kk
                   exact kk)
                | fail "no way"
            · skip
              refine g_iload dX11_most_72 rfl ?_
              refine g_goto (tgt := 78) dX11_most_74 (by decide) ?_
              refine g_istore_n dX11_most_78 (by decide) ?_
              show Go _ _ _ _ _ _ [_, _, _, _, _, _] _ _ _
              refine g_iinc dX11_most_79 rfl (by decide) ?_
              show Go _ _ _ _ _ _ [_, _, _, _, _, _] _ _ _
              refine g_goto (tgt := 7) dX11_most_82 (by decide) ?_
              refine g_forget 4 ?_
              refine g_forget 5 ?_
              show Go _ _ _ _ _ _ [_, _, _, _, _, _] _ _ _
              rw [ze_inc]
              rw [flF_s] at kk
              have b1 := flF_le (n + 1) s i
              have b2 : atN s (zI ((i : Int) - 2)) (n + 1) ≤ n + 1 := cntP_le _ _
              first
                | exact absurd c57 c69
                | exact absurd c69 c57
                | (rw [if_pos ((nI_ltI (by omega) (by omega)).mp (Int32.not_le.mp c57))] at kk
                   exact kk)
                | (rw [if_neg (fun q => absurd (nI_lt q (by omega)) (Int32.not_lt.mpr c57))] at kk
                   exact kk)
                | fail "no way"
          · skip
            refine g_iload_n dX11_most_60 rfl ?_
            refine g_goto (tgt := 65) dX11_most_61 (by decide) ?_
            refine g_istore_n dX11_most_65 (by decide) ?_
            show Go _ _ _ _ _ _ [_, _, _, _, _, _] _ _ _
            refine g_iload dX11_most_66 rfl ?_
            refine g_iload_n dX11_most_68 rfl ?_
            refine g_icmp_le (tgt := 77) dX11_most_69 (by decide) (fun c69 => ?_) (fun c69 => ?_)
            · skip
              refine g_iload_n dX11_most_77 rfl ?_
              refine g_istore_n dX11_most_78 (by decide) ?_
              show Go _ _ _ _ _ _ [_, _, _, _, _, _] _ _ _
              refine g_iinc dX11_most_79 rfl (by decide) ?_
              show Go _ _ _ _ _ _ [_, _, _, _, _, _] _ _ _
              refine g_goto (tgt := 7) dX11_most_82 (by decide) ?_
              refine g_forget 4 ?_
              refine g_forget 5 ?_
              show Go _ _ _ _ _ _ [_, _, _, _, _, _] _ _ _
              rw [ze_inc]
              rw [flF_s] at kk
              have b1 := flF_le (n + 1) s i
              have b2 : atN s (zI ((i : Int) - 2)) (n + 1) ≤ n + 1 := cntP_le _ _
              first
                | exact absurd c57 c69
                | exact absurd c69 c57
                | (rw [if_pos ((nI_ltI (by omega) (by omega)).mp (Int32.not_le.mp c57))] at kk
                   exact kk)
                | (rw [if_neg (fun q => absurd (nI_lt q (by omega)) (Int32.not_lt.mpr c57))] at kk
                   exact kk)
                | fail "no way"
            · skip
              refine g_iload dX11_most_72 rfl ?_
              refine g_goto (tgt := 78) dX11_most_74 (by decide) ?_
              refine g_istore_n dX11_most_78 (by decide) ?_
              show Go _ _ _ _ _ _ [_, _, _, _, _, _] _ _ _
              refine g_iinc dX11_most_79 rfl (by decide) ?_
              show Go _ _ _ _ _ _ [_, _, _, _, _, _] _ _ _
              refine g_goto (tgt := 7) dX11_most_82 (by decide) ?_
              refine g_forget 4 ?_
              refine g_forget 5 ?_
              show Go _ _ _ _ _ _ [_, _, _, _, _, _] _ _ _
              rw [ze_inc]
              rw [flF_s] at kk
              have b1 := flF_le (n + 1) s i
              have b2 : atN s (zI ((i : Int) - 2)) (n + 1) ≤ n + 1 := cntP_le _ _
              first
                | exact absurd c57 c69
                | exact absurd c69 c57
                | (rw [if_pos ((nI_ltI (by omega) (by omega)).mp (Int32.not_le.mp c57))] at kk
                   exact kk)
                | (rw [if_neg (fun q => absurd (nI_lt q (by omega)) (Int32.not_lt.mpr c57))] at kk
                   exact kk)
                | fail "no way"
        · exact absurd (Int32.le_refl _) c24
  · skip
    refine g_iload_n dX11_most_7 rfl ?_
    refine g_iconst (v := 3) dX11_most_8 (by decide) ?_
    refine g_icmp_ge (tgt := 85) dX11_most_9 (by decide) (fun c9 => ?_) (fun c9 => ?_)
    · skip
      refine g_iload_n dX11_most_85 rfl ?_
      refine g_iret dX11_most_86 (fun ty h => by cases h; rfl) ?_
      exact ⟨rfl, rfl⟩
    · exact absurd (by decide) c9
theorem ct_towards {a b : Int32} : Ct X d 66 M_X11_towards 66 [.int a, .int b] (I, J, rf0) (RI (fun y9 m => y9 = twI a b ∧ m = (I, J, rf0))) := by
  show Go _ _ _ _ _ _ [_, _] _ _ _
  refine g_iload_n dX11_towards_0 rfl ?_
  refine g_iload_n dX11_towards_1 rfl ?_
  refine g_icmp_ge (tgt := 11) dX11_towards_2 (by decide) (fun c2 => ?_) (fun c2 => ?_)
  · skip
    refine g_iload_n dX11_towards_11 rfl ?_
    refine g_iload_n dX11_towards_12 rfl ?_
    refine g_icmp_le (tgt := 22) dX11_towards_13 (by decide) (fun c13 => ?_) (fun c13 => ?_)
    · skip
      refine g_iload_n dX11_towards_22 rfl ?_
      refine g_iret dX11_towards_23 (fun ty h => by cases h; rfl) ?_
      refine ⟨?_, rfl⟩
      unfold twI
      first
        | rw [if_pos (Int32.not_le.mp c2)]
        | (rw [if_neg (Int32.not_lt.mpr c2)]
           first
             | rw [if_pos (Int32.not_le.mp c13)]
             | rw [if_neg (Int32.not_lt.mpr c13)])
        | fail "no way"
    · skip
      refine g_iload_n dX11_towards_16 rfl ?_
      refine g_iconst (v := 1) dX11_towards_17 (by decide) ?_
      refine g_isub dX11_towards_18 ?_
      refine g_goto (tgt := 23) dX11_towards_19 (by decide) ?_
      refine g_iret dX11_towards_23 (fun ty h => by cases h; rfl) ?_
      refine ⟨?_, rfl⟩
      unfold twI
      first
        | rw [if_pos (Int32.not_le.mp c2)]
        | (rw [if_neg (Int32.not_lt.mpr c2)]
           first
             | rw [if_pos (Int32.not_le.mp c13)]
             | rw [if_neg (Int32.not_lt.mpr c13)])
        | fail "no way"
  · skip
    refine g_iload_n dX11_towards_5 rfl ?_
    refine g_iconst (v := 1) dX11_towards_6 (by decide) ?_
    refine g_iadd dX11_towards_7 ?_
    refine g_goto (tgt := 23) dX11_towards_8 (by decide) ?_
    refine g_iret dX11_towards_23 (fun ty h => by cases h; rfl) ?_
    refine ⟨?_, rfl⟩
    unfold twI
    first
      | rw [if_pos (Int32.not_le.mp c2)]
      | (rw [if_neg (Int32.not_lt.mpr c2)]
         first
           | rw [if_pos (Int32.not_le.mp c13)]
           | rw [if_neg (Int32.not_lt.mpr c13)])
      | fail "no way"
theorem ct_bar {n : Nat} {s : Nat → Int32} (hn : I 48 5 = nI (n + 1)) (h4 : n + 1 ≤ 4) (hs : ∀ q, q < n + 1 → I 63 q = s q) {r : Nat} (hr : r < 6) : Ct X (d + 1) 66 M_X11_bar 66 [.ref 48, .int (nI r)] (I, J, rf0) (RV (fun m => ∃ I', m = (I', J, rf0) ∧ Fr [63, 64] I I' ∧ ∀ q, q < n + 1 → I' 63 q = nxS (n + 1) r s q)) := by
  show Go _ _ _ _ _ _ [_, _, _, _, _, _, _] _ _ _
  refine g_iconst (v := 2) dX11_bar_0 (by decide) ?_
  refine g_istore_n dX11_bar_1 (by decide) ?_
  show Go _ _ _ _ _ _ [_, _, _, _, _, _, _] _ _ _
  refine g_bipush (v := -2) dX11_bar_2 (by decide) ?_
  refine g_istore_n dX11_bar_4 (by decide) ?_
  show Go _ _ _ _ _ _ [_, _, _, _, _, _, _] _ _ _
  refine g_iconst (v := 0) dX11_bar_5 (by decide) ?_
  refine g_istore dX11_bar_6 (by decide) ?_
  show Go _ _ _ _ _ _ [_, _, _, _, _, _, _] _ _ _
  refine go_mem (fun i I2 => Fr [64] I I2 ∧ ∀ q, q < i → I2 64 q = s q) (n + 1) (fun i I2 => Go X (d + 1) 66 M_X11_bar 66 8 [.ref 48, .int (nI r), .int (lwF s i), .int (hgF s i), .int (nI i), .null, .null] [] (I2, J, rf0) (RV (fun m => ∃ I', m = (I', J, rf0) ∧ Fr [63, 64] I I' ∧ ∀ q, q < n + 1 → I' 63 q = nxS (n + 1) r s q))) (fun i I2 hi h8 kk => ?_) (fun I2 h8 => ?_) _ ⟨Fr.rf, fun q hq => absurd hq (Nat.not_lt_zero q)⟩
  · skip
    refine g_iload dX11_bar_8 rfl ?_
    refine g_aload_n dX11_bar_10 rfl ?_
    refine t_getI dX11_bar_11 fl_X11_116 rfl (by decide) rfl (by decide) ?_
    rw [h8.1 48 (by decide), hn]
    refine g_icmp_ge (tgt := 83) dX11_bar_14 (by decide) (fun c14 => ?_) (fun c14 => ?_)
    · exact absurd (nI_lt hi (by omega)) (Int32.not_lt.mpr c14)
    · skip
      refine g_aload_n dX11_bar_17 rfl ?_
      refine t_getR dX11_bar_18 fl_X11_60 rfl (by decide) rfl (by decide) rfl ?_
      refine g_iload dX11_bar_21 rfl ?_
      refine g_aload_n dX11_bar_23 rfl ?_
      refine t_getR dX11_bar_24 fl_X11_57 rfl (by decide) rfl (by decide) rfl ?_
      refine g_iload dX11_bar_27 rfl ?_
      refine t_iald dX11_bar_29 rfl (by decide) (in_nI (by omega) (by decide)) ?_
      rw [cl_nI (by omega), h8.1 63 (by decide), hs i hi]
      refine t_iast dX11_bar_30 rfl (by decide) (in_nI (by omega) (by decide)) ?_
      refine g_abs (fun I4 => Fr [64] I I4 ∧ ∀ q, q < i + 1 → I4 64 q = s q) ⟨h8.1.up (by decide), fun q hq => ?_⟩ (fun I4 h4b => ?_)
      · rw [cl_nI (by omega), upR_s]
        rcases Nat.lt_or_ge q i with q1 | q1
        · rw [pk_un (by omega)]; exact h8.2 q q1
        · rw [show q = i by omega, pk_us]
      refine g_aload_n dX11_bar_31 rfl ?_
      refine t_getR dX11_bar_32 fl_X11_57 rfl (by decide) rfl (by decide) rfl ?_
      refine g_iload dX11_bar_35 rfl ?_
      refine t_iald dX11_bar_37 rfl (by decide) (in_nI (by omega) (by decide)) ?_
      rw [cl_nI (by omega), h4b.1 63 (by decide), hs i hi]
      refine g_iload_n dX11_bar_38 rfl ?_
      refine g_icmp_ge (tgt := 52) dX11_bar_39 (by decide) (fun c39 => ?_) (fun c39 => ?_)
      · skip
        refine g_iload_n dX11_bar_52 rfl ?_
        refine g_istore_n dX11_bar_53 (by decide) ?_
        show Go _ _ _ _ _ _ [_, _, _, _, _, _, _] _ _ _
        refine g_aload_n dX11_bar_54 rfl ?_
        refine t_getR dX11_bar_55 fl_X11_57 rfl (by decide) rfl (by decide) rfl ?_
        refine g_iload dX11_bar_58 rfl ?_
        refine t_iald dX11_bar_60 rfl (by decide) (in_nI (by omega) (by decide)) ?_
        rw [cl_nI (by omega), h4b.1 63 (by decide), hs i hi]
        refine g_iload_n dX11_bar_61 rfl ?_
        refine g_icmp_le (tgt := 75) dX11_bar_62 (by decide) (fun c62 => ?_) (fun c62 => ?_)
        · skip
          refine g_iload_n dX11_bar_75 rfl ?_
          refine g_istore_n dX11_bar_76 (by decide) ?_
          show Go _ _ _ _ _ _ [_, _, _, _, _, _, _] _ _ _
          refine g_iinc dX11_bar_77 rfl (by decide) ?_
          show Go _ _ _ _ _ _ [_, _, _, _, _, _, _] _ _ _
          refine g_goto (tgt := 8) dX11_bar_80 (by decide) ?_
          rw [nI_inc]
          first
            | rw [lwF_s, if_pos (Int32.not_le.mp c39)] at kk
            | rw [lwF_s, if_neg (Int32.not_lt.mpr c39)] at kk
            | fail "no way"
          first
            | rw [hgF_s, if_pos (Int32.not_le.mp c62)] at kk
            | rw [hgF_s, if_neg (Int32.not_lt.mpr c62)] at kk
            | fail "no way"
          exact kk _ h4b
        · skip
          refine g_aload_n dX11_bar_65 rfl ?_
          refine t_getR dX11_bar_66 fl_X11_57 rfl (by decide) rfl (by decide) rfl ?_
          refine g_iload dX11_bar_69 rfl ?_
          refine t_iald dX11_bar_71 rfl (by decide) (in_nI (by omega) (by decide)) ?_
          rw [cl_nI (by omega), h4b.1 63 (by decide), hs i hi]
          refine g_goto (tgt := 76) dX11_bar_72 (by decide) ?_
          refine g_istore_n dX11_bar_76 (by decide) ?_
          show Go _ _ _ _ _ _ [_, _, _, _, _, _, _] _ _ _
          refine g_iinc dX11_bar_77 rfl (by decide) ?_
          show Go _ _ _ _ _ _ [_, _, _, _, _, _, _] _ _ _
          refine g_goto (tgt := 8) dX11_bar_80 (by decide) ?_
          rw [nI_inc]
          first
            | rw [lwF_s, if_pos (Int32.not_le.mp c39)] at kk
            | rw [lwF_s, if_neg (Int32.not_lt.mpr c39)] at kk
            | fail "no way"
          first
            | rw [hgF_s, if_pos (Int32.not_le.mp c62)] at kk
            | rw [hgF_s, if_neg (Int32.not_lt.mpr c62)] at kk
            | fail "no way"
          exact kk _ h4b
      · skip
        refine g_aload_n dX11_bar_42 rfl ?_
        refine t_getR dX11_bar_43 fl_X11_57 rfl (by decide) rfl (by decide) rfl ?_
        refine g_iload dX11_bar_46 rfl ?_
        refine t_iald dX11_bar_48 rfl (by decide) (in_nI (by omega) (by decide)) ?_
        rw [cl_nI (by omega), h4b.1 63 (by decide), hs i hi]
        refine g_goto (tgt := 53) dX11_bar_49 (by decide) ?_
        refine g_istore_n dX11_bar_53 (by decide) ?_
        show Go _ _ _ _ _ _ [_, _, _, _, _, _, _] _ _ _
        refine g_aload_n dX11_bar_54 rfl ?_
        refine t_getR dX11_bar_55 fl_X11_57 rfl (by decide) rfl (by decide) rfl ?_
        refine g_iload dX11_bar_58 rfl ?_
        refine t_iald dX11_bar_60 rfl (by decide) (in_nI (by omega) (by decide)) ?_
        rw [cl_nI (by omega), h4b.1 63 (by decide), hs i hi]
        refine g_iload_n dX11_bar_61 rfl ?_
        refine g_icmp_le (tgt := 75) dX11_bar_62 (by decide) (fun c62 => ?_) (fun c62 => ?_)
        · skip
          refine g_iload_n dX11_bar_75 rfl ?_
          refine g_istore_n dX11_bar_76 (by decide) ?_
          show Go _ _ _ _ _ _ [_, _, _, _, _, _, _] _ _ _
          refine g_iinc dX11_bar_77 rfl (by decide) ?_
          show Go _ _ _ _ _ _ [_, _, _, _, _, _, _] _ _ _
          refine g_goto (tgt := 8) dX11_bar_80 (by decide) ?_
          rw [nI_inc]
          first
            | rw [lwF_s, if_pos (Int32.not_le.mp c39)] at kk
            | rw [lwF_s, if_neg (Int32.not_lt.mpr c39)] at kk
            | fail "no way"
          first
            | rw [hgF_s, if_pos (Int32.not_le.mp c62)] at kk
            | rw [hgF_s, if_neg (Int32.not_lt.mpr c62)] at kk
            | fail "no way"
          exact kk _ h4b
        · skip
          refine g_aload_n dX11_bar_65 rfl ?_
          refine t_getR dX11_bar_66 fl_X11_57 rfl (by decide) rfl (by decide) rfl ?_
          refine g_iload dX11_bar_69 rfl ?_
          refine t_iald dX11_bar_71 rfl (by decide) (in_nI (by omega) (by decide)) ?_
          rw [cl_nI (by omega), h4b.1 63 (by decide), hs i hi]
          refine g_goto (tgt := 76) dX11_bar_72 (by decide) ?_
          refine g_istore_n dX11_bar_76 (by decide) ?_
          show Go _ _ _ _ _ _ [_, _, _, _, _, _, _] _ _ _
          refine g_iinc dX11_bar_77 rfl (by decide) ?_
          show Go _ _ _ _ _ _ [_, _, _, _, _, _, _] _ _ _
          refine g_goto (tgt := 8) dX11_bar_80 (by decide) ?_
          rw [nI_inc]
          first
            | rw [lwF_s, if_pos (Int32.not_le.mp c39)] at kk
            | rw [lwF_s, if_neg (Int32.not_lt.mpr c39)] at kk
            | fail "no way"
          first
            | rw [hgF_s, if_pos (Int32.not_le.mp c62)] at kk
            | rw [hgF_s, if_neg (Int32.not_lt.mpr c62)] at kk
            | fail "no way"
          exact kk _ h4b
  · skip
    refine g_iload dX11_bar_8 rfl ?_
    refine g_aload_n dX11_bar_10 rfl ?_
    refine t_getI dX11_bar_11 fl_X11_116 rfl (by decide) rfl (by decide) ?_
    rw [h8.1 48 (by decide), hn]
    refine g_icmp_ge (tgt := 83) dX11_bar_14 (by decide) (fun c14 => ?_) (fun c14 => ?_)
    · skip
      refine g_aload_n dX11_bar_83 rfl ?_
      refine g_callVi dX11_bar_84 ln_X11_241 ⟨_, rfl⟩ rfl (by decide) ⟨_, _, rfl⟩ rfl (Nat.le_of_ble_eq_true rfl) (Nat.le_of_ble_eq_true rfl) (ct_most (s := s) (by rw [h8.1 48 (by decide)]; exact hn) h4 (fun q hq => by rw [h8.1 63 (by decide)]; exact hs q hq)) rfl (fun r84 m84 h84 => ?_)
      obtain ⟨rfl, rfl⟩ := h84
      refine g_istore dX11_bar_87 (by decide) ?_
      show Go _ _ _ _ _ _ [_, _, _, _, _, _, _] _ _ _
      refine g_iconst (v := 0) dX11_bar_89 (by decide) ?_
      refine g_istore dX11_bar_90 (by decide) ?_
      show Go _ _ _ _ _ _ [_, _, _, _, _, _, _] _ _ _
      refine go_mem (fun p I3 => Fr [63, 64] I I3 ∧ (∀ q, q < n + 1 → I3 64 q = s q) ∧ ∀ q, q < p → I3 63 q = nxS (n + 1) r s q) (n + 1) (fun p I3 => Go X (d + 1) 66 M_X11_bar 66 92 [.ref 48, .int (nI r), .int (lwF s (n + 1)), .int (hgF s (n + 1)), .int (flF (n + 1) s 5).1, .int (nI p), .null] [] (I3, J, rf0) (RV (fun m => ∃ I', m = (I', J, rf0) ∧ Fr [63, 64] I I' ∧ ∀ q, q < n + 1 → I' 63 q = nxS (n + 1) r s q))) (fun p I3 hp h9 kk => ?_) (fun I3 h9 => ?_) _ ⟨h8.1.mono (by decide), h8.2, fun q hq => absurd hq (Nat.not_lt_zero q)⟩
      · have hmod : (p + 1) % (n + 1) < n + 1 := Nat.mod_lt _ (by omega)
        refine g_iload dX11_bar_92 rfl ?_
        refine g_aload_n dX11_bar_94 rfl ?_
        refine t_getI dX11_bar_95 fl_X11_116 rfl (by decide) rfl (by decide) ?_
        rw [h9.1 48 (by decide), hn]
        refine g_icmp_ge (tgt := 256) dX11_bar_98 (by decide) (fun c98 => ?_) (fun c98 => ?_)
        · exact absurd (nI_lt hp (by omega)) (Int32.not_lt.mpr c98)
        · skip
          refine g_aload_n dX11_bar_101 rfl ?_
          refine t_getR dX11_bar_102 fl_X11_60 rfl (by decide) rfl (by decide) rfl ?_
          refine g_iload dX11_bar_105 rfl ?_
          refine t_iald dX11_bar_107 rfl (by decide) (in_nI (by omega) (by decide)) ?_
          rw [cl_nI (by omega), h9.2.1 p hp]
          refine g_istore dX11_bar_108 (by decide) ?_
          show Go _ _ _ _ _ _ [_, _, _, _, _, _, _] _ _ _
          refine g_iload_n dX11_bar_110 rfl ?_
          obtain hr6 : r = 0 ∨ r = 1 ∨ r = 2 ∨ r = 3 ∨ r = 4 ∨ r = 5 := by omega
          rcases hr6 with rfl | rfl | rfl | rfl | rfl | rfl
          · skip
            refine g_tabIn (off := 33) (tgt := 144) dX11_bar_111 (by decide) (by decide) (by decide) (by decide) ?_
            refine g_goto (tgt := 241) dX11_bar_144 (by decide) ?_
            refine g_aload_n dX11_bar_241 rfl ?_
            refine t_getR dX11_bar_242 fl_X11_57 rfl (by decide) rfl (by decide) rfl ?_
            refine g_iload dX11_bar_245 rfl ?_
            refine g_iload dX11_bar_247 rfl ?_
            refine t_iast dX11_bar_249 rfl (by decide) (in_nI (by omega) (by decide)) ?_
            refine g_iinc dX11_bar_250 rfl (by decide) ?_
            show Go _ _ _ _ _ _ [_, _, _, _, _, _, _] _ _ _
            refine g_goto (tgt := 92) dX11_bar_253 (by decide) ?_
            refine g_forget 6 ?_
            show Go _ _ _ _ _ _ [_, _, _, _, _, _, _] _ _ _
            rw [nI_inc]
            refine kk _ ⟨h9.1.up (by decide), h9.2.1, fun q hq => ?_⟩
            rw [cl_nI (by omega), upR_s]
            rcases Nat.lt_or_ge q p with q1 | q1
            · rw [pk_un (by omega)]; exact h9.2.2 q q1
            · rw [show q = p by omega, pk_us]
              first
                | rfl
                | (show _ = drI (s p) (lwF s (n + 1)) (hgF s (n + 1))
                   unfold drI
                   first
                     | rw [if_pos c203]
                     | rw [if_neg c203, if_pos c214]
                     | rw [if_neg c203, if_neg c214, if_pos c227]
                     | rw [if_neg c203, if_neg c214, if_neg c227])
                | fail "no way"
          · skip
            refine g_tabIn (off := 36) (tgt := 147) dX11_bar_111 (by decide) (by decide) (by decide) (by decide) ?_
            refine g_aload_n dX11_bar_147 rfl ?_
            refine t_getR dX11_bar_148 fl_X11_60 rfl (by decide) rfl (by decide) rfl ?_
            refine g_iconst (v := 0) dX11_bar_151 (by decide) ?_
            refine t_iald dX11_bar_152 rfl (by decide) (in_nI (j := 0) (by decide) (by decide)) ?_
            rw [show (0 : Int32).toNatClampNeg = 0 by decide, h9.2.1 0 (by omega)]
            refine g_istore dX11_bar_153 (by decide) ?_
            show Go _ _ _ _ _ _ [_, _, _, _, _, _, _] _ _ _
            refine g_goto (tgt := 241) dX11_bar_155 (by decide) ?_
            refine g_aload_n dX11_bar_241 rfl ?_
            refine t_getR dX11_bar_242 fl_X11_57 rfl (by decide) rfl (by decide) rfl ?_
            refine g_iload dX11_bar_245 rfl ?_
            refine g_iload dX11_bar_247 rfl ?_
            refine t_iast dX11_bar_249 rfl (by decide) (in_nI (by omega) (by decide)) ?_
            refine g_iinc dX11_bar_250 rfl (by decide) ?_
            show Go _ _ _ _ _ _ [_, _, _, _, _, _, _] _ _ _
            refine g_goto (tgt := 92) dX11_bar_253 (by decide) ?_
            refine g_forget 6 ?_
            show Go _ _ _ _ _ _ [_, _, _, _, _, _, _] _ _ _
            rw [nI_inc]
            refine kk _ ⟨h9.1.up (by decide), h9.2.1, fun q hq => ?_⟩
            rw [cl_nI (by omega), upR_s]
            rcases Nat.lt_or_ge q p with q1 | q1
            · rw [pk_un (by omega)]; exact h9.2.2 q q1
            · rw [show q = p by omega, pk_us]
              first
                | rfl
                | (show _ = drI (s p) (lwF s (n + 1)) (hgF s (n + 1))
                   unfold drI
                   first
                     | rw [if_pos c203]
                     | rw [if_neg c203, if_pos c214]
                     | rw [if_neg c203, if_neg c214, if_pos c227]
                     | rw [if_neg c203, if_neg c214, if_neg c227])
                | fail "no way"
          · skip
            refine g_tabIn (off := 47) (tgt := 158) dX11_bar_111 (by decide) (by decide) (by decide) (by decide) ?_
            refine g_iload dX11_bar_158 rfl ?_
            refine g_istore dX11_bar_160 (by decide) ?_
            show Go _ _ _ _ _ _ [_, _, _, _, _, _, _] _ _ _
            refine g_goto (tgt := 241) dX11_bar_162 (by decide) ?_
            refine g_aload_n dX11_bar_241 rfl ?_
            refine t_getR dX11_bar_242 fl_X11_57 rfl (by decide) rfl (by decide) rfl ?_
            refine g_iload dX11_bar_245 rfl ?_
            refine g_iload dX11_bar_247 rfl ?_
            refine t_iast dX11_bar_249 rfl (by decide) (in_nI (by omega) (by decide)) ?_
            refine g_iinc dX11_bar_250 rfl (by decide) ?_
            show Go _ _ _ _ _ _ [_, _, _, _, _, _, _] _ _ _
            refine g_goto (tgt := 92) dX11_bar_253 (by decide) ?_
            refine g_forget 6 ?_
            show Go _ _ _ _ _ _ [_, _, _, _, _, _, _] _ _ _
            rw [nI_inc]
            refine kk _ ⟨h9.1.up (by decide), h9.2.1, fun q hq => ?_⟩
            rw [cl_nI (by omega), upR_s]
            rcases Nat.lt_or_ge q p with q1 | q1
            · rw [pk_un (by omega)]; exact h9.2.2 q q1
            · rw [show q = p by omega, pk_us]
              first
                | rfl
                | (show _ = drI (s p) (lwF s (n + 1)) (hgF s (n + 1))
                   unfold drI
                   first
                     | rw [if_pos c203]
                     | rw [if_neg c203, if_pos c214]
                     | rw [if_neg c203, if_neg c214, if_pos c227]
                     | rw [if_neg c203, if_neg c214, if_neg c227])
                | fail "no way"
          · skip
            refine g_tabIn (off := 54) (tgt := 165) dX11_bar_111 (by decide) (by decide) (by decide) (by decide) ?_
            refine g_iload dX11_bar_165 rfl ?_
            refine g_aload_n dX11_bar_167 rfl ?_
            refine t_getR dX11_bar_168 fl_X11_60 rfl (by decide) rfl (by decide) rfl ?_
            refine g_iload dX11_bar_171 rfl ?_
            refine g_iconst (v := 1) dX11_bar_173 (by decide) ?_
            refine g_iadd dX11_bar_174 ?_
            rw [show (1 : Int32) = nI 1 from rfl, nI_add]
            refine g_aload_n dX11_bar_175 rfl ?_
            refine t_getI dX11_bar_176 fl_X11_116 rfl (by decide) rfl (by decide) ?_
            rw [h9.1 48 (by decide), hn]
            refine g_irem dX11_bar_179 (fun q => by have := (nI_eq (by omega) (by decide)).mp (show nI (n + 1) = nI 0 from q); omega) ?_
            rw [pk_rem (by omega) (by omega) (by omega)]
            refine t_iald dX11_bar_180 rfl (by decide) (in_nI (by omega) (by decide)) ?_
            rw [cl_nI (by omega), h9.2.1 ((p + 1) % (n + 1)) hmod]
            refine g_callSi dX11_bar_181 ln_X11_244 ⟨_, rfl⟩ rfl (Nat.le_of_ble_eq_true rfl) (Nat.le_of_ble_eq_true rfl) ct_towards rfl (fun r181 m181 h181 => ?_)
            obtain ⟨rfl, rfl⟩ := h181
            refine g_istore dX11_bar_184 (by decide) ?_
            show Go _ _ _ _ _ _ [_, _, _, _, _, _, _] _ _ _
            refine g_goto (tgt := 241) dX11_bar_186 (by decide) ?_
            refine g_aload_n dX11_bar_241 rfl ?_
            refine t_getR dX11_bar_242 fl_X11_57 rfl (by decide) rfl (by decide) rfl ?_
            refine g_iload dX11_bar_245 rfl ?_
            refine g_iload dX11_bar_247 rfl ?_
            refine t_iast dX11_bar_249 rfl (by decide) (in_nI (by omega) (by decide)) ?_
            refine g_iinc dX11_bar_250 rfl (by decide) ?_
            show Go _ _ _ _ _ _ [_, _, _, _, _, _, _] _ _ _
            refine g_goto (tgt := 92) dX11_bar_253 (by decide) ?_
            refine g_forget 6 ?_
            show Go _ _ _ _ _ _ [_, _, _, _, _, _, _] _ _ _
            rw [nI_inc]
            refine kk _ ⟨h9.1.up (by decide), h9.2.1, fun q hq => ?_⟩
            rw [cl_nI (by omega), upR_s]
            rcases Nat.lt_or_ge q p with q1 | q1
            · rw [pk_un (by omega)]; exact h9.2.2 q q1
            · rw [show q = p by omega, pk_us]
              first
                | rfl
                | (show _ = drI (s p) (lwF s (n + 1)) (hgF s (n + 1))
                   unfold drI
                   first
                     | rw [if_pos c203]
                     | rw [if_neg c203, if_pos c214]
                     | rw [if_neg c203, if_neg c214, if_pos c227]
                     | rw [if_neg c203, if_neg c214, if_neg c227])
                | fail "no way"
          · skip
            refine g_tabIn (off := 78) (tgt := 189) dX11_bar_111 (by decide) (by decide) (by decide) (by decide) ?_
            refine g_iload dX11_bar_189 rfl ?_
            refine g_iload dX11_bar_191 rfl ?_
            refine g_callSi dX11_bar_193 ln_X11_244 ⟨_, rfl⟩ rfl (Nat.le_of_ble_eq_true rfl) (Nat.le_of_ble_eq_true rfl) ct_towards rfl (fun r193 m193 h193 => ?_)
            obtain ⟨rfl, rfl⟩ := h193
            refine g_istore dX11_bar_196 (by decide) ?_
            show Go _ _ _ _ _ _ [_, _, _, _, _, _, _] _ _ _
            refine g_goto (tgt := 241) dX11_bar_198 (by decide) ?_
            refine g_aload_n dX11_bar_241 rfl ?_
            refine t_getR dX11_bar_242 fl_X11_57 rfl (by decide) rfl (by decide) rfl ?_
            refine g_iload dX11_bar_245 rfl ?_
            refine g_iload dX11_bar_247 rfl ?_
            refine t_iast dX11_bar_249 rfl (by decide) (in_nI (by omega) (by decide)) ?_
            refine g_iinc dX11_bar_250 rfl (by decide) ?_
            show Go _ _ _ _ _ _ [_, _, _, _, _, _, _] _ _ _
            refine g_goto (tgt := 92) dX11_bar_253 (by decide) ?_
            refine g_forget 6 ?_
            show Go _ _ _ _ _ _ [_, _, _, _, _, _, _] _ _ _
            rw [nI_inc]
            refine kk _ ⟨h9.1.up (by decide), h9.2.1, fun q hq => ?_⟩
            rw [cl_nI (by omega), upR_s]
            rcases Nat.lt_or_ge q p with q1 | q1
            · rw [pk_un (by omega)]; exact h9.2.2 q q1
            · rw [show q = p by omega, pk_us]
              first
                | rfl
                | (show _ = drI (s p) (lwF s (n + 1)) (hgF s (n + 1))
                   unfold drI
                   first
                     | rw [if_pos c203]
                     | rw [if_neg c203, if_pos c214]
                     | rw [if_neg c203, if_neg c214, if_pos c227]
                     | rw [if_neg c203, if_neg c214, if_neg c227])
                | fail "no way"
          · skip
            refine g_tabOut (tgt := 201) dX11_bar_111 (by decide) (by decide) ?_
            refine g_iload_n dX11_bar_201 rfl ?_
            refine g_iload_n dX11_bar_202 rfl ?_
            refine g_icmp_ne (tgt := 211) dX11_bar_203 (by decide) (fun c203 => ?_) (fun c203 => ?_)
            · skip
              refine g_iload dX11_bar_211 rfl ?_
              refine g_iload_n dX11_bar_213 rfl ?_
              refine g_icmp_ne (tgt := 224) dX11_bar_214 (by decide) (fun c214 => ?_) (fun c214 => ?_)
              · skip
                refine g_iload dX11_bar_224 rfl ?_
                refine g_iload_n dX11_bar_226 rfl ?_
                refine g_icmp_ne (tgt := 237) dX11_bar_227 (by decide) (fun c227 => ?_) (fun c227 => ?_)
                · skip
                  refine g_iload dX11_bar_237 rfl ?_
                  refine g_istore dX11_bar_239 (by decide) ?_
                  show Go _ _ _ _ _ _ [_, _, _, _, _, _, _] _ _ _
                  refine g_aload_n dX11_bar_241 rfl ?_
                  refine t_getR dX11_bar_242 fl_X11_57 rfl (by decide) rfl (by decide) rfl ?_
                  refine g_iload dX11_bar_245 rfl ?_
                  refine g_iload dX11_bar_247 rfl ?_
                  refine t_iast dX11_bar_249 rfl (by decide) (in_nI (by omega) (by decide)) ?_
                  refine g_iinc dX11_bar_250 rfl (by decide) ?_
                  show Go _ _ _ _ _ _ [_, _, _, _, _, _, _] _ _ _
                  refine g_goto (tgt := 92) dX11_bar_253 (by decide) ?_
                  refine g_forget 6 ?_
                  show Go _ _ _ _ _ _ [_, _, _, _, _, _, _] _ _ _
                  rw [nI_inc]
                  refine kk _ ⟨h9.1.up (by decide), h9.2.1, fun q hq => ?_⟩
                  rw [cl_nI (by omega), upR_s]
                  rcases Nat.lt_or_ge q p with q1 | q1
                  · rw [pk_un (by omega)]; exact h9.2.2 q q1
                  · rw [show q = p by omega, pk_us]
                    first
                      | rfl
                      | (show _ = drI (s p) (lwF s (n + 1)) (hgF s (n + 1))
                         unfold drI
                         first
                           | rw [if_pos c203]
                           | rw [if_neg c203, if_pos c214]
                           | rw [if_neg c203, if_neg c214, if_pos c227]
                           | rw [if_neg c203, if_neg c214, if_neg c227])
                      | fail "no way"
                · skip
                  refine g_iload dX11_bar_230 rfl ?_
                  refine g_iconst (v := 1) dX11_bar_232 (by decide) ?_
                  refine g_isub dX11_bar_233 ?_
                  refine g_goto (tgt := 239) dX11_bar_234 (by decide) ?_
                  refine g_istore dX11_bar_239 (by decide) ?_
                  show Go _ _ _ _ _ _ [_, _, _, _, _, _, _] _ _ _
                  refine g_aload_n dX11_bar_241 rfl ?_
                  refine t_getR dX11_bar_242 fl_X11_57 rfl (by decide) rfl (by decide) rfl ?_
                  refine g_iload dX11_bar_245 rfl ?_
                  refine g_iload dX11_bar_247 rfl ?_
                  refine t_iast dX11_bar_249 rfl (by decide) (in_nI (by omega) (by decide)) ?_
                  refine g_iinc dX11_bar_250 rfl (by decide) ?_
                  show Go _ _ _ _ _ _ [_, _, _, _, _, _, _] _ _ _
                  refine g_goto (tgt := 92) dX11_bar_253 (by decide) ?_
                  refine g_forget 6 ?_
                  show Go _ _ _ _ _ _ [_, _, _, _, _, _, _] _ _ _
                  rw [nI_inc]
                  refine kk _ ⟨h9.1.up (by decide), h9.2.1, fun q hq => ?_⟩
                  rw [cl_nI (by omega), upR_s]
                  rcases Nat.lt_or_ge q p with q1 | q1
                  · rw [pk_un (by omega)]; exact h9.2.2 q q1
                  · rw [show q = p by omega, pk_us]
                    first
                      | rfl
                      | (show _ = drI (s p) (lwF s (n + 1)) (hgF s (n + 1))
                         unfold drI
                         first
                           | rw [if_pos c203]
                           | rw [if_neg c203, if_pos c214]
                           | rw [if_neg c203, if_neg c214, if_pos c227]
                           | rw [if_neg c203, if_neg c214, if_neg c227])
                      | fail "no way"
              · skip
                refine g_iload dX11_bar_217 rfl ?_
                refine g_iconst (v := 1) dX11_bar_219 (by decide) ?_
                refine g_iadd dX11_bar_220 ?_
                refine g_goto (tgt := 239) dX11_bar_221 (by decide) ?_
                refine g_istore dX11_bar_239 (by decide) ?_
                show Go _ _ _ _ _ _ [_, _, _, _, _, _, _] _ _ _
                refine g_aload_n dX11_bar_241 rfl ?_
                refine t_getR dX11_bar_242 fl_X11_57 rfl (by decide) rfl (by decide) rfl ?_
                refine g_iload dX11_bar_245 rfl ?_
                refine g_iload dX11_bar_247 rfl ?_
                refine t_iast dX11_bar_249 rfl (by decide) (in_nI (by omega) (by decide)) ?_
                refine g_iinc dX11_bar_250 rfl (by decide) ?_
                show Go _ _ _ _ _ _ [_, _, _, _, _, _, _] _ _ _
                refine g_goto (tgt := 92) dX11_bar_253 (by decide) ?_
                refine g_forget 6 ?_
                show Go _ _ _ _ _ _ [_, _, _, _, _, _, _] _ _ _
                rw [nI_inc]
                refine kk _ ⟨h9.1.up (by decide), h9.2.1, fun q hq => ?_⟩
                rw [cl_nI (by omega), upR_s]
                rcases Nat.lt_or_ge q p with q1 | q1
                · rw [pk_un (by omega)]; exact h9.2.2 q q1
                · rw [show q = p by omega, pk_us]
                  first
                    | rfl
                    | (show _ = drI (s p) (lwF s (n + 1)) (hgF s (n + 1))
                       unfold drI
                       first
                         | rw [if_pos c203]
                         | rw [if_neg c203, if_pos c214]
                         | rw [if_neg c203, if_neg c214, if_pos c227]
                         | rw [if_neg c203, if_neg c214, if_neg c227])
                    | fail "no way"
            · skip
              refine g_iload dX11_bar_206 rfl ?_
              refine g_goto (tgt := 239) dX11_bar_208 (by decide) ?_
              refine g_istore dX11_bar_239 (by decide) ?_
              show Go _ _ _ _ _ _ [_, _, _, _, _, _, _] _ _ _
              refine g_aload_n dX11_bar_241 rfl ?_
              refine t_getR dX11_bar_242 fl_X11_57 rfl (by decide) rfl (by decide) rfl ?_
              refine g_iload dX11_bar_245 rfl ?_
              refine g_iload dX11_bar_247 rfl ?_
              refine t_iast dX11_bar_249 rfl (by decide) (in_nI (by omega) (by decide)) ?_
              refine g_iinc dX11_bar_250 rfl (by decide) ?_
              show Go _ _ _ _ _ _ [_, _, _, _, _, _, _] _ _ _
              refine g_goto (tgt := 92) dX11_bar_253 (by decide) ?_
              refine g_forget 6 ?_
              show Go _ _ _ _ _ _ [_, _, _, _, _, _, _] _ _ _
              rw [nI_inc]
              refine kk _ ⟨h9.1.up (by decide), h9.2.1, fun q hq => ?_⟩
              rw [cl_nI (by omega), upR_s]
              rcases Nat.lt_or_ge q p with q1 | q1
              · rw [pk_un (by omega)]; exact h9.2.2 q q1
              · rw [show q = p by omega, pk_us]
                first
                  | rfl
                  | (show _ = drI (s p) (lwF s (n + 1)) (hgF s (n + 1))
                     unfold drI
                     first
                       | rw [if_pos c203]
                       | rw [if_neg c203, if_pos c214]
                       | rw [if_neg c203, if_neg c214, if_pos c227]
                       | rw [if_neg c203, if_neg c214, if_neg c227])
                  | fail "no way"
      · skip
        refine g_iload dX11_bar_92 rfl ?_
        refine g_aload_n dX11_bar_94 rfl ?_
        refine t_getI dX11_bar_95 fl_X11_116 rfl (by decide) rfl (by decide) ?_
        rw [h9.1 48 (by decide), hn]
        refine g_icmp_ge (tgt := 256) dX11_bar_98 (by decide) (fun c98 => ?_) (fun c98 => ?_)
        · skip
          refine g_vret dX11_bar_256 ?_
          exact ⟨I3, rfl, h9.1, h9.2.2⟩
        · exact absurd (Int32.le_refl _) c98
    · exact absurd (Int32.le_refl _) c14
theorem ct_bars {n : Nat} {s : Nat → Int32} (hn : I 48 5 = nI (n + 1)) (h4 : n + 1 ≤ 4) (hs : ∀ q, q < n + 1 → I 63 q = s q) {r : Nat} (hr : r < 6) : Ct X (d + 2) 66 M_X11_bars 66 [.ref 48, .int (nI r)] (I, J, rf0) (RI (fun y9 m => ∃ I', m = (I', J, rf0) ∧ Fr [63, 64] I I' ∧ y9 = oI (wyS (n + 1) r s) ∧ ∀ k, wyS (n + 1) r s = some k → ∀ q, q < n + 1 → I' 63 q = itS (n + 1) r s k q)) := by
  show Go _ _ _ _ _ _ [_, _, _] _ _ _
  refine g_iconst (v := 0) dX11_bars_0 (by decide) ?_
  refine g_istore_n dX11_bars_1 (by decide) ?_
  show Go _ _ _ _ _ _ [_, _, _] _ _ _
  refine go_mem (fun b I3 => Fr [63, 64] I I3 ∧ (∀ q, q < n + 1 → I3 63 q = itS (n + 1) r s b q) ∧ ∀ j, j < b → eqP (n + 1) (itS (n + 1) r s j) = false) 21 (fun b I3 => Go X (d + 2) 66 M_X11_bars 66 2 [.ref 48, .int (nI r), .int (nI b)] [] (I3, J, rf0) (RI (fun y9 m => ∃ I', m = (I', J, rf0) ∧ Fr [63, 64] I I' ∧ y9 = oI (wyS (n + 1) r s) ∧ ∀ k, wyS (n + 1) r s = some k → ∀ q, q < n + 1 → I' 63 q = itS (n + 1) r s k q))) (fun b I3 hb h9 kk => ?_) (fun I3 h9 => ?_) _ ⟨Fr.rf, hs, fun q hq => absurd hq (Nat.not_lt_zero q)⟩
  · skip
    refine g_iload_n dX11_bars_2 rfl ?_
    refine g_bipush (v := 21) dX11_bars_3 (by decide) ?_
    refine g_icmp_ge (tgt := 28) dX11_bars_5 (by decide) (fun c5 => ?_) (fun c5 => ?_)
    · exact absurd (nI_lt (show b < 21 by omega) (by decide)) (Int32.not_lt.mpr c5)
    · skip
      refine g_aload_n dX11_bars_8 rfl ?_
      refine g_callVi dX11_bars_9 ln_X11_247 ⟨_, rfl⟩ rfl (by decide) ⟨_, _, rfl⟩ rfl (Nat.le_of_ble_eq_true rfl) (Nat.le_of_ble_eq_true rfl) (ct_areOne (s := itS (n + 1) r s b) (by rw [h9.1 48 (by decide)]; exact hn) h4 h9.2.1) rfl (fun r9 m9 h9 => ?_)
      obtain ⟨rfl, rfl⟩ := h9
      refine g_if_eq (tgt := 17) dX11_bars_12 (by decide) (fun c12 => ?_) (fun c12 => ?_)
      · skip
        refine g_aload_n dX11_bars_17 rfl ?_
        refine g_iload_n dX11_bars_18 rfl ?_
        refine g_callVv dX11_bars_19 ln_X11_250 rfl rfl (by decide) ⟨_, _, rfl⟩ rfl (Nat.le_of_ble_eq_true rfl) (Nat.le_of_ble_eq_true rfl) (ct_bar (s := itS (n + 1) r s b) (by rw [h9.1 48 (by decide)]; exact hn) h4 h9.2.1 hr) rfl (fun m19 h19 => ?_)
        obtain ⟨I5, rfl, hf5, hs5⟩ := h19
        refine g_iinc dX11_bars_22 rfl (by decide) ?_
        show Go _ _ _ _ _ _ [_, _, _] _ _ _
        refine g_goto (tgt := 2) dX11_bars_25 (by decide) ?_
        rw [nI_inc]
        exact kk _ ⟨h9.1.trans hf5, hs5, fun j hj => by
          rcases Nat.lt_or_ge j b with q1 | q1
          · exact h9.2.2 j q1
          · rw [show j = b by omega]; exact bI_eq c12⟩
      · skip
        refine g_iload_n dX11_bars_15 rfl ?_
        refine g_iret dX11_bars_16 (fun ty h => by cases h; rfl) ?_
        have hw : wyS (n + 1) r s = some b := fstN_some (bI_ne c12) h9.2.2 hb
        exact ⟨I3, rfl, h9.1, by rw [hw]; rfl, fun k2 h2 => by rw [hw] at h2; cases h2; exact h9.2.1⟩
  · skip
    refine g_iload_n dX11_bars_2 rfl ?_
    refine g_bipush (v := 21) dX11_bars_3 (by decide) ?_
    refine g_icmp_ge (tgt := 28) dX11_bars_5 (by decide) (fun c5 => ?_) (fun c5 => ?_)
    · skip
      refine g_bipush (v := -9) dX11_bars_28 (by decide) ?_
      refine g_iret dX11_bars_30 (fun ty h => by cases h; rfl) ?_
      have hw : wyS (n + 1) r s = none := fstN_none h9.2.2
      exact ⟨I3, rfl, h9.1, by rw [hw]; rfl, fun k2 h2 => by rw [hw] at h2; cases h2⟩
    · exact absurd (by decide) c5
theorem pm_together {rw tx : Tab} {P : Pce} {ds : List Deed} {sh : Shf} {tl : Int32} {ch : Int64 × Int64} {fn : Fnd} {r : Int32} (hA : AbsM rw tx P ds sh tl ch fn I J) (hO : StOK rw tx P ds sh) : Ct X (d + 3) 66 M_X11_together 66 [.ref 48, .int r] (I, J, rf0) (RI (fun y9 m => ∃ I', m = (I', J, rf0) ∧ FrM I I' ∧ y9 = (S_together P ds tl r).1 ∧ AbsM rw tx P ds sh (S_together P ds tl r).2 ch fn I' J)) := by
  have hP := hA.2.2.1
  have hQ := hO.2.2.1
  have h14 := hQ.2.1
  have h4 := hQ.1
  have hou : ∀ q, q < 4 → I 60 q = outS P ds q := hA.2.2.2.1.2.2.2.2.2.1
  show Go _ _ _ _ _ _ [_, _, _] _ _ _
  refine g_iload_n dX11_together_0 rfl ?_
  refine g_i2l dX11_together_1 ?_
  refine g_lconst (v := 0) dX11_together_2 (by decide) ?_
  refine g_ldc2 dX11_together_3 tb_1084 ?_
  refine g_callSi dX11_together_6 ln_X11_76 ⟨_, rfl⟩ rfl (Nat.le_of_ble_eq_true rfl) (Nat.le_of_ble_eq_true rfl) ct_in rfl (fun r6 m6 h6 => ?_)
  obtain ⟨rfl, rfl⟩ := h6
  rw [inJ_05]
  refine g_if_ne (tgt := 14) dX11_together_9 (by decide) (fun c9 => ?_) (fun c9 => ?_)
  · skip
    refine g_aload_n dX11_together_14 rfl ?_
    refine t_getI dX11_together_15 fl_X11_119 rfl (by decide) rfl (by decide) ?_
    rw [hP.2.1]
    refine g_if_ne (tgt := 24) dX11_together_18 (by decide) (fun c18 => ?_) (fun c18 => ?_)
    · skip
      have q1 := bI_ne c9
      obtain ⟨r, hr, rfl⟩ := inR_ix (by decide) q1
      have hne : ¬ P.2.1 = 0 := (show ¬ P.2.1 = 0 from fun q => c18 (by rw [q]; rfl))
      have h2 : 2 ≤ P.1 := (hQ.2.2.1).resolve_left hne
      obtain ⟨n, hn1⟩ : ∃ n, P.1 = n + 1 := ⟨P.1 - 1, by omega⟩
      have hn : I 48 5 = nI (n + 1) := by rw [hP.1, hn1]
      have h4n : n + 1 ≤ 4 := by omega
      refine g_aload_n dX11_together_24 rfl ?_
      refine g_callVv dX11_together_25 ln_X11_189 rfl rfl (by decide) ⟨_, _, rfl⟩ rfl (Nat.le_of_ble_eq_true rfl) (Nat.le_of_ble_eq_true rfl) ct_asOut rfl (fun m25 h25 => ?_)
      obtain ⟨g, rfl, hg⟩ := h25
      have hfg : Fr [63, 64] I (upR I 63 g) := Fr.rf.up (by decide)
      have hsg : ∀ q, q < n + 1 → upR I 63 g 63 q = outS P ds q := fun q hq => by rw [upR_s, hg q (by omega)]; exact hou q (by omega)
      refine g_aload_n dX11_together_28 rfl ?_
      refine g_iload_n dX11_together_29 rfl ?_
      refine g_callVi dX11_together_30 ln_X11_253 ⟨_, rfl⟩ rfl (by decide) ⟨_, _, rfl⟩ rfl (Nat.le_of_ble_eq_true rfl) (Nat.le_of_ble_eq_true rfl) (ct_bars (s := outS P ds) (by rw [hfg 48 (by decide)]; exact hn) h4n hsg hr) rfl (fun r30 m30 h30 => ?_)
      obtain ⟨I1, rfl, hf1, rfl, hat⟩ := h30
      have hf1 := hfg.trans hf1
      rw [← hn1] at hat
      rw [← hn1]
      refine g_istore_n dX11_together_33 (by decide) ?_
      show Go _ _ _ _ _ _ [_, _, _] _ _ _
      refine g_iload_n dX11_together_34 rfl ?_
      refine g_if_ge (tgt := 43) dX11_together_35 (by decide) (fun c35 => ?_) (fun c35 => ?_)
      · skip
        refine g_aload_n dX11_together_43 rfl ?_
        refine g_aload_n dX11_together_44 rfl ?_
        refine t_getR dX11_together_45 fl_X11_57 rfl (by decide) rfl (by decide) rfl ?_
        refine g_iconst (v := 0) dX11_together_48 (by decide) ?_
        refine t_iald dX11_together_49 rfl (by decide) (in_nI (j := 0) (by decide) (by decide)) ?_
        refine g_iconst (v := 2) dX11_together_50 (by decide) ?_
        refine g_iadd dX11_together_51 ?_
        refine g_iload_n dX11_together_52 rfl ?_
        refine g_callVi dX11_together_53 ln_X11_84 ⟨_, rfl⟩ rfl (by decide) ⟨_, _, rfl⟩ rfl (Nat.le_of_ble_eq_true rfl) (Nat.le_of_ble_eq_true rfl) ct_asks rfl (fun r53 m53 h53 => ?_)
        obtain ⟨rfl, rfl⟩ := h53
        refine g_iret dX11_together_56 (fun ty h => by cases h; rfl) ?_
        cases hw : wyS P.1 r (outS P ds) with
        | none =>
          rw [hw] at c35
          first
            | exact absurd c35 (by decide)
            | (have hS : S_together P ds tl (nI r) = (-9, tl) := by unfold S_together; rw [q1, if_neg hne, cl_nI (by omega), hw]; rfl
               exact ⟨_, rfl, FrM.of hf1 (by decide), by rw [hS], by rw [hS]; exact hA.g hf1⟩)
            | fail "no way"
        | some k =>
          have hk := (fstN_spec hw).1
          rw [hw] at c35
          first
            | exact absurd (show (0 : Int32) ≤ nI k from nI_le (Nat.zero_le k) (by omega)) c35
            | (have hS : S_together P ds tl (nI r) = (nI k, itS P.1 r (outS P ds) k 0 + 2) := by unfold S_together; rw [q1, if_neg hne, cl_nI (by omega), hw]; rfl
               refine ⟨_, rfl, (FrM.of hf1 (by decide)).up (by decide), by rw [hS]; rfl, ?_⟩
               rw [hS, show (0 : Int32).toNatClampNeg = 0 by decide, hat k hw 0 (by omega)]
               exact (hA.g hf1).told)
            | fail "no way"
      · skip
        refine g_bipush (v := -9) dX11_together_38 (by decide) ?_
        refine g_goto (tgt := 56) dX11_together_40 (by decide) ?_
        refine g_iret dX11_together_56 (fun ty h => by cases h; rfl) ?_
        cases hw : wyS P.1 r (outS P ds) with
        | none =>
          rw [hw] at c35
          first
            | exact absurd c35 (by decide)
            | (have hS : S_together P ds tl (nI r) = (-9, tl) := by unfold S_together; rw [q1, if_neg hne, cl_nI (by omega), hw]; rfl
               exact ⟨_, rfl, FrM.of hf1 (by decide), by rw [hS], by rw [hS]; exact hA.g hf1⟩)
            | fail "no way"
        | some k =>
          have hk := (fstN_spec hw).1
          rw [hw] at c35
          first
            | exact absurd (show (0 : Int32) ≤ nI k from nI_le (Nat.zero_le k) (by omega)) c35
            | (have hS : S_together P ds tl (nI r) = (nI k, itS P.1 r (outS P ds) k 0 + 2) := by unfold S_together; rw [q1, if_neg hne, cl_nI (by omega), hw]; rfl
               refine ⟨_, rfl, (FrM.of hf1 (by decide)).up (by decide), by rw [hS]; rfl, ?_⟩
               rw [hS, show (0 : Int32).toNatClampNeg = 0 by decide, hat k hw 0 (by omega)]
               exact (hA.g hf1).told)
            | fail "no way"
    · skip
      refine g_bipush (v := -4) dX11_together_21 (by decide) ?_
      refine g_iret dX11_together_23 (fun ty h => by cases h; rfl) ?_
      have hz : P.2.1 = 0 := (nI_eq (by omega) (by decide)).mp (show nI P.2.1 = nI 0 from c18)
      have hS : S_together P ds tl r = (-4, tl) := by unfold S_together; rw [bI_ne c9, if_pos hz]; rfl
      exact ⟨_, rfl, FrM.rf, by rw [hS], by rw [hS]; exact hA⟩
  · skip
    refine g_iconst (v := -1) dX11_together_12 (by decide) ?_
    refine g_iret dX11_together_13 (fun ty h => by cases h; rfl) ?_
    have hS : S_together P ds tl r = (-1, tl) := by unfold S_together; rw [bI_eq c9]; rfl
    exact ⟨_, rfl, FrM.rf, by rw [hS], by rw [hS]; exact hA⟩
theorem pm_rule {rw tx : Tab} {P : Pce} {ds : List Deed} {sh : Shf} {tl : Int32} {ch : Int64 × Int64} {fn : Fnd} (hA : AbsM rw tx P ds sh tl ch fn I J) (hO : StOK rw tx P ds sh) : Ct X (d + 3) 66 M_X11_rule 66 [.ref 48] (I, J, rf0) (RI (fun y9 m => ∃ I', m = (I', J, rf0) ∧ FrM I I' ∧ y9 = (S_rule P ds tl).1 ∧ AbsM rw tx P ds sh (S_rule P ds tl).2 ch fn I' J)) := by
  have hP := hA.2.2.1
  have hQ := hO.2.2.1
  have h14 := hQ.2.1
  have h4 := hQ.1
  have hou : ∀ q, q < 4 → I 60 q = outS P ds q := hA.2.2.2.1.2.2.2.2.2.1
  show Go _ _ _ _ _ _ [_, _, _, _, _] _ _ _
  refine g_aload_n dX11_rule_0 rfl ?_
  refine t_getI dX11_rule_1 fl_X11_119 rfl (by decide) rfl (by decide) ?_
  rw [hP.2.1]
  refine g_if_ne (tgt := 10) dX11_rule_4 (by decide) (fun c4 => ?_) (fun c4 => ?_)
  · skip
    have hne : ¬ P.2.1 = 0 := (show ¬ P.2.1 = 0 from fun q => c4 (by rw [q]; rfl))
    have h2 : 2 ≤ P.1 := (hQ.2.2.1).resolve_left hne
    obtain ⟨n, hn1⟩ : ∃ n, P.1 = n + 1 := ⟨P.1 - 1, by omega⟩
    have hn : I 48 5 = nI (n + 1) := by rw [hP.1, hn1]
    have h4n : n + 1 ≤ 4 := by omega
    refine g_iconst (v := 0) dX11_rule_10 (by decide) ?_
    refine g_istore_n dX11_rule_11 (by decide) ?_
    show Go _ _ _ _ _ _ [_, _, _, _, _] _ _ _
    refine g_bipush (v := 99) dX11_rule_12 (by decide) ?_
    refine g_istore_n dX11_rule_14 (by decide) ?_
    show Go _ _ _ _ _ _ [_, _, _, _, _] _ _ _
    refine g_iconst (v := 0) dX11_rule_15 (by decide) ?_
    refine g_istore_n dX11_rule_16 (by decide) ?_
    show Go _ _ _ _ _ _ [_, _, _, _, _] _ _ _
    refine go_mem (fun r I2 => Fr [63, 64] I I2) 6 (fun r I2 => Go X (d + 3) 66 M_X11_rule 66 17 [.ref 48, .int (ruC (ruF P.1 (outS P ds) r)), .int (ruD (ruF P.1 (outS P ds) r)), .int (nI r), .null] [] (I2, J, rf0) (RI (fun y9 m => ∃ I', m = (I', J, rf0) ∧ FrM I I' ∧ y9 = (S_rule P ds tl).1 ∧ AbsM rw tx P ds sh (S_rule P ds tl).2 ch fn I' J))) (fun r I2 hr h9 kk => ?_) (fun I2 h9 => ?_) _ Fr.rf
    · skip
      refine g_iload_n dX11_rule_17 rfl ?_
      refine g_bipush (v := 6) dX11_rule_18 (by decide) ?_
      refine g_icmp_ge (tgt := 75) dX11_rule_20 (by decide) (fun c20 => ?_) (fun c20 => ?_)
      · exact absurd (nI_lt hr (by decide)) (Int32.not_lt.mpr c20)
      · skip
        refine g_aload_n dX11_rule_23 rfl ?_
        refine g_callVv dX11_rule_24 ln_X11_189 rfl rfl (by decide) ⟨_, _, rfl⟩ rfl (Nat.le_of_ble_eq_true rfl) (Nat.le_of_ble_eq_true rfl) ct_asOut rfl (fun m24 h24 => ?_)
        obtain ⟨g, rfl, hg⟩ := h24
        have hfg : Fr [63, 64] I (upR I2 63 g) := h9.up (by decide)
        have hsg : ∀ q, q < n + 1 → upR I2 63 g 63 q = outS P ds q := fun q hq => by rw [upR_s, hg q (by omega)]; rw [h9 60 (by decide)]; exact hou q (by omega)
        refine g_aload_n dX11_rule_27 rfl ?_
        refine g_iload_n dX11_rule_28 rfl ?_
        refine g_callVi dX11_rule_29 ln_X11_253 ⟨_, rfl⟩ rfl (by decide) ⟨_, _, rfl⟩ rfl (Nat.le_of_ble_eq_true rfl) (Nat.le_of_ble_eq_true rfl) (ct_bars (s := outS P ds) (r := r) (by rw [hfg 48 (by decide)]; exact hn) h4n hsg hr) rfl (fun r29 m29 h29 => ?_)
        obtain ⟨I1, rfl, hf1, rfl, hat⟩ := h29
        have hf1 := hfg.trans hf1
        rw [← hn1]
        refine g_istore dX11_rule_32 (by decide) ?_
        show Go _ _ _ _ _ _ [_, _, _, _, _] _ _ _
        refine g_iload dX11_rule_34 rfl ?_
        refine g_if_lt (tgt := 49) dX11_rule_36 (by decide) (fun c36 => ?_) (fun c36 => ?_)
        · skip
          refine g_iload_n dX11_rule_49 rfl ?_
          refine g_istore_n dX11_rule_50 (by decide) ?_
          show Go _ _ _ _ _ _ [_, _, _, _, _] _ _ _
          refine g_iload dX11_rule_51 rfl ?_
          refine g_if_lt (tgt := 67) dX11_rule_53 (by decide) (fun c53 => ?_) (fun c53 => ?_)
          · skip
            refine g_iload_n dX11_rule_67 rfl ?_
            refine g_istore_n dX11_rule_68 (by decide) ?_
            show Go _ _ _ _ _ _ [_, _, _, _, _] _ _ _
            refine g_iinc dX11_rule_69 rfl (by decide) ?_
            show Go _ _ _ _ _ _ [_, _, _, _, _] _ _ _
            refine g_goto (tgt := 17) dX11_rule_72 (by decide) ?_
            refine g_forget 4 ?_
            show Go _ _ _ _ _ _ [_, _, _, _, _] _ _ _
            rw [nI_inc]
            first
              | exact absurd c36 c53
              | exact absurd c53 c36
              | exact absurd c42 c59
              | exact absurd c59 c42
              | (cases hw : wyS P.1 r (outS P ds) with
                 | none =>
                   rw [hw] at c36
                   first
                     | exact absurd (by decide) c36
                     | (rw [ru_no hw] at kk
                        exact kk _ hf1)
                     | fail "no way"
                 | some k =>
                   have hk := (fstN_spec hw).1
                   rw [hw] at c36
                   first
                     | exact absurd c36 (Int32.not_lt.mpr (show (0 : Int32) ≤ nI k from nI_le (Nat.zero_le k) (by omega)))
                     | (rw [hw] at c42
                        first
                          | (rw [ru_ltM hw (Int32.not_le.mp c42)] at kk
                             exact kk _ hf1)
                          | (rw [ru_geM hw (Int32.not_lt.mpr c42)] at kk
                             exact kk _ hf1)))
              | fail "no way"
          · skip
            refine g_iload dX11_rule_56 rfl ?_
            refine g_iload_n dX11_rule_58 rfl ?_
            refine g_icmp_ge (tgt := 67) dX11_rule_59 (by decide) (fun c59 => ?_) (fun c59 => ?_)
            · skip
              refine g_iload_n dX11_rule_67 rfl ?_
              refine g_istore_n dX11_rule_68 (by decide) ?_
              show Go _ _ _ _ _ _ [_, _, _, _, _] _ _ _
              refine g_iinc dX11_rule_69 rfl (by decide) ?_
              show Go _ _ _ _ _ _ [_, _, _, _, _] _ _ _
              refine g_goto (tgt := 17) dX11_rule_72 (by decide) ?_
              refine g_forget 4 ?_
              show Go _ _ _ _ _ _ [_, _, _, _, _] _ _ _
              rw [nI_inc]
              first
                | exact absurd c36 c53
                | exact absurd c53 c36
                | exact absurd c42 c59
                | exact absurd c59 c42
                | (cases hw : wyS P.1 r (outS P ds) with
                   | none =>
                     rw [hw] at c36
                     first
                       | exact absurd (by decide) c36
                       | (rw [ru_no hw] at kk
                          exact kk _ hf1)
                       | fail "no way"
                   | some k =>
                     have hk := (fstN_spec hw).1
                     rw [hw] at c36
                     first
                       | exact absurd c36 (Int32.not_lt.mpr (show (0 : Int32) ≤ nI k from nI_le (Nat.zero_le k) (by omega)))
                       | (rw [hw] at c42
                          first
                            | (rw [ru_ltM hw (Int32.not_le.mp c42)] at kk
                               exact kk _ hf1)
                            | (rw [ru_geM hw (Int32.not_lt.mpr c42)] at kk
                               exact kk _ hf1)))
                | fail "no way"
            · skip
              refine g_iload dX11_rule_62 rfl ?_
              refine g_goto (tgt := 68) dX11_rule_64 (by decide) ?_
              refine g_istore_n dX11_rule_68 (by decide) ?_
              show Go _ _ _ _ _ _ [_, _, _, _, _] _ _ _
              refine g_iinc dX11_rule_69 rfl (by decide) ?_
              show Go _ _ _ _ _ _ [_, _, _, _, _] _ _ _
              refine g_goto (tgt := 17) dX11_rule_72 (by decide) ?_
              refine g_forget 4 ?_
              show Go _ _ _ _ _ _ [_, _, _, _, _] _ _ _
              rw [nI_inc]
              first
                | exact absurd c36 c53
                | exact absurd c53 c36
                | exact absurd c42 c59
                | exact absurd c59 c42
                | (cases hw : wyS P.1 r (outS P ds) with
                   | none =>
                     rw [hw] at c36
                     first
                       | exact absurd (by decide) c36
                       | (rw [ru_no hw] at kk
                          exact kk _ hf1)
                       | fail "no way"
                   | some k =>
                     have hk := (fstN_spec hw).1
                     rw [hw] at c36
                     first
                       | exact absurd c36 (Int32.not_lt.mpr (show (0 : Int32) ≤ nI k from nI_le (Nat.zero_le k) (by omega)))
                       | (rw [hw] at c42
                          first
                            | (rw [ru_ltM hw (Int32.not_le.mp c42)] at kk
                               exact kk _ hf1)
                            | (rw [ru_geM hw (Int32.not_lt.mpr c42)] at kk
                               exact kk _ hf1)))
                | fail "no way"
        · skip
          refine g_iload dX11_rule_39 rfl ?_
          refine g_iload_n dX11_rule_41 rfl ?_
          refine g_icmp_ge (tgt := 49) dX11_rule_42 (by decide) (fun c42 => ?_) (fun c42 => ?_)
          · skip
            refine g_iload_n dX11_rule_49 rfl ?_
            refine g_istore_n dX11_rule_50 (by decide) ?_
            show Go _ _ _ _ _ _ [_, _, _, _, _] _ _ _
            refine g_iload dX11_rule_51 rfl ?_
            refine g_if_lt (tgt := 67) dX11_rule_53 (by decide) (fun c53 => ?_) (fun c53 => ?_)
            · skip
              refine g_iload_n dX11_rule_67 rfl ?_
              refine g_istore_n dX11_rule_68 (by decide) ?_
              show Go _ _ _ _ _ _ [_, _, _, _, _] _ _ _
              refine g_iinc dX11_rule_69 rfl (by decide) ?_
              show Go _ _ _ _ _ _ [_, _, _, _, _] _ _ _
              refine g_goto (tgt := 17) dX11_rule_72 (by decide) ?_
              refine g_forget 4 ?_
              show Go _ _ _ _ _ _ [_, _, _, _, _] _ _ _
              rw [nI_inc]
              first
                | exact absurd c36 c53
                | exact absurd c53 c36
                | exact absurd c42 c59
                | exact absurd c59 c42
                | (cases hw : wyS P.1 r (outS P ds) with
                   | none =>
                     rw [hw] at c36
                     first
                       | exact absurd (by decide) c36
                       | (rw [ru_no hw] at kk
                          exact kk _ hf1)
                       | fail "no way"
                   | some k =>
                     have hk := (fstN_spec hw).1
                     rw [hw] at c36
                     first
                       | exact absurd c36 (Int32.not_lt.mpr (show (0 : Int32) ≤ nI k from nI_le (Nat.zero_le k) (by omega)))
                       | (rw [hw] at c42
                          first
                            | (rw [ru_ltM hw (Int32.not_le.mp c42)] at kk
                               exact kk _ hf1)
                            | (rw [ru_geM hw (Int32.not_lt.mpr c42)] at kk
                               exact kk _ hf1)))
                | fail "no way"
            · skip
              refine g_iload dX11_rule_56 rfl ?_
              refine g_iload_n dX11_rule_58 rfl ?_
              refine g_icmp_ge (tgt := 67) dX11_rule_59 (by decide) (fun c59 => ?_) (fun c59 => ?_)
              · skip
                refine g_iload_n dX11_rule_67 rfl ?_
                refine g_istore_n dX11_rule_68 (by decide) ?_
                show Go _ _ _ _ _ _ [_, _, _, _, _] _ _ _
                refine g_iinc dX11_rule_69 rfl (by decide) ?_
                show Go _ _ _ _ _ _ [_, _, _, _, _] _ _ _
                refine g_goto (tgt := 17) dX11_rule_72 (by decide) ?_
                refine g_forget 4 ?_
                show Go _ _ _ _ _ _ [_, _, _, _, _] _ _ _
                rw [nI_inc]
                first
                  | exact absurd c36 c53
                  | exact absurd c53 c36
                  | exact absurd c42 c59
                  | exact absurd c59 c42
                  | (cases hw : wyS P.1 r (outS P ds) with
                     | none =>
                       rw [hw] at c36
                       first
                         | exact absurd (by decide) c36
                         | (rw [ru_no hw] at kk
                            exact kk _ hf1)
                         | fail "no way"
                     | some k =>
                       have hk := (fstN_spec hw).1
                       rw [hw] at c36
                       first
                         | exact absurd c36 (Int32.not_lt.mpr (show (0 : Int32) ≤ nI k from nI_le (Nat.zero_le k) (by omega)))
                         | (rw [hw] at c42
                            first
                              | (rw [ru_ltM hw (Int32.not_le.mp c42)] at kk
                                 exact kk _ hf1)
                              | (rw [ru_geM hw (Int32.not_lt.mpr c42)] at kk
                                 exact kk _ hf1)))
                  | fail "no way"
              · skip
                refine g_iload dX11_rule_62 rfl ?_
                refine g_goto (tgt := 68) dX11_rule_64 (by decide) ?_
                refine g_istore_n dX11_rule_68 (by decide) ?_
                show Go _ _ _ _ _ _ [_, _, _, _, _] _ _ _
                refine g_iinc dX11_rule_69 rfl (by decide) ?_
                show Go _ _ _ _ _ _ [_, _, _, _, _] _ _ _
                refine g_goto (tgt := 17) dX11_rule_72 (by decide) ?_
                refine g_forget 4 ?_
                show Go _ _ _ _ _ _ [_, _, _, _, _] _ _ _
                rw [nI_inc]
                first
                  | exact absurd c36 c53
                  | exact absurd c53 c36
                  | exact absurd c42 c59
                  | exact absurd c59 c42
                  | (cases hw : wyS P.1 r (outS P ds) with
                     | none =>
                       rw [hw] at c36
                       first
                         | exact absurd (by decide) c36
                         | (rw [ru_no hw] at kk
                            exact kk _ hf1)
                         | fail "no way"
                     | some k =>
                       have hk := (fstN_spec hw).1
                       rw [hw] at c36
                       first
                         | exact absurd c36 (Int32.not_lt.mpr (show (0 : Int32) ≤ nI k from nI_le (Nat.zero_le k) (by omega)))
                         | (rw [hw] at c42
                            first
                              | (rw [ru_ltM hw (Int32.not_le.mp c42)] at kk
                                 exact kk _ hf1)
                              | (rw [ru_geM hw (Int32.not_lt.mpr c42)] at kk
                                 exact kk _ hf1)))
                  | fail "no way"
          · skip
            refine g_iload_n dX11_rule_45 rfl ?_
            refine g_goto (tgt := 50) dX11_rule_46 (by decide) ?_
            refine g_istore_n dX11_rule_50 (by decide) ?_
            show Go _ _ _ _ _ _ [_, _, _, _, _] _ _ _
            refine g_iload dX11_rule_51 rfl ?_
            refine g_if_lt (tgt := 67) dX11_rule_53 (by decide) (fun c53 => ?_) (fun c53 => ?_)
            · skip
              refine g_iload_n dX11_rule_67 rfl ?_
              refine g_istore_n dX11_rule_68 (by decide) ?_
              show Go _ _ _ _ _ _ [_, _, _, _, _] _ _ _
              refine g_iinc dX11_rule_69 rfl (by decide) ?_
              show Go _ _ _ _ _ _ [_, _, _, _, _] _ _ _
              refine g_goto (tgt := 17) dX11_rule_72 (by decide) ?_
              refine g_forget 4 ?_
              show Go _ _ _ _ _ _ [_, _, _, _, _] _ _ _
              rw [nI_inc]
              first
                | exact absurd c36 c53
                | exact absurd c53 c36
                | exact absurd c42 c59
                | exact absurd c59 c42
                | (cases hw : wyS P.1 r (outS P ds) with
                   | none =>
                     rw [hw] at c36
                     first
                       | exact absurd (by decide) c36
                       | (rw [ru_no hw] at kk
                          exact kk _ hf1)
                       | fail "no way"
                   | some k =>
                     have hk := (fstN_spec hw).1
                     rw [hw] at c36
                     first
                       | exact absurd c36 (Int32.not_lt.mpr (show (0 : Int32) ≤ nI k from nI_le (Nat.zero_le k) (by omega)))
                       | (rw [hw] at c42
                          first
                            | (rw [ru_ltM hw (Int32.not_le.mp c42)] at kk
                               exact kk _ hf1)
                            | (rw [ru_geM hw (Int32.not_lt.mpr c42)] at kk
                               exact kk _ hf1)))
                | fail "no way"
            · skip
              refine g_iload dX11_rule_56 rfl ?_
              refine g_iload_n dX11_rule_58 rfl ?_
              refine g_icmp_ge (tgt := 67) dX11_rule_59 (by decide) (fun c59 => ?_) (fun c59 => ?_)
              · skip
                refine g_iload_n dX11_rule_67 rfl ?_
                refine g_istore_n dX11_rule_68 (by decide) ?_
                show Go _ _ _ _ _ _ [_, _, _, _, _] _ _ _
                refine g_iinc dX11_rule_69 rfl (by decide) ?_
                show Go _ _ _ _ _ _ [_, _, _, _, _] _ _ _
                refine g_goto (tgt := 17) dX11_rule_72 (by decide) ?_
                refine g_forget 4 ?_
                show Go _ _ _ _ _ _ [_, _, _, _, _] _ _ _
                rw [nI_inc]
                first
                  | exact absurd c36 c53
                  | exact absurd c53 c36
                  | exact absurd c42 c59
                  | exact absurd c59 c42
                  | (cases hw : wyS P.1 r (outS P ds) with
                     | none =>
                       rw [hw] at c36
                       first
                         | exact absurd (by decide) c36
                         | (rw [ru_no hw] at kk
                            exact kk _ hf1)
                         | fail "no way"
                     | some k =>
                       have hk := (fstN_spec hw).1
                       rw [hw] at c36
                       first
                         | exact absurd c36 (Int32.not_lt.mpr (show (0 : Int32) ≤ nI k from nI_le (Nat.zero_le k) (by omega)))
                         | (rw [hw] at c42
                            first
                              | (rw [ru_ltM hw (Int32.not_le.mp c42)] at kk
                                 exact kk _ hf1)
                              | (rw [ru_geM hw (Int32.not_lt.mpr c42)] at kk
                                 exact kk _ hf1)))
                  | fail "no way"
              · skip
                refine g_iload dX11_rule_62 rfl ?_
                refine g_goto (tgt := 68) dX11_rule_64 (by decide) ?_
                refine g_istore_n dX11_rule_68 (by decide) ?_
                show Go _ _ _ _ _ _ [_, _, _, _, _] _ _ _
                refine g_iinc dX11_rule_69 rfl (by decide) ?_
                show Go _ _ _ _ _ _ [_, _, _, _, _] _ _ _
                refine g_goto (tgt := 17) dX11_rule_72 (by decide) ?_
                refine g_forget 4 ?_
                show Go _ _ _ _ _ _ [_, _, _, _, _] _ _ _
                rw [nI_inc]
                first
                  | exact absurd c36 c53
                  | exact absurd c53 c36
                  | exact absurd c42 c59
                  | exact absurd c59 c42
                  | (cases hw : wyS P.1 r (outS P ds) with
                     | none =>
                       rw [hw] at c36
                       first
                         | exact absurd (by decide) c36
                         | (rw [ru_no hw] at kk
                            exact kk _ hf1)
                         | fail "no way"
                     | some k =>
                       have hk := (fstN_spec hw).1
                       rw [hw] at c36
                       first
                         | exact absurd c36 (Int32.not_lt.mpr (show (0 : Int32) ≤ nI k from nI_le (Nat.zero_le k) (by omega)))
                         | (rw [hw] at c42
                            first
                              | (rw [ru_ltM hw (Int32.not_le.mp c42)] at kk
                                 exact kk _ hf1)
                              | (rw [ru_geM hw (Int32.not_lt.mpr c42)] at kk
                                 exact kk _ hf1)))
                  | fail "no way"
    · skip
      refine g_iload_n dX11_rule_17 rfl ?_
      refine g_bipush (v := 6) dX11_rule_18 (by decide) ?_
      refine g_icmp_ge (tgt := 75) dX11_rule_20 (by decide) (fun c20 => ?_) (fun c20 => ?_)
      · skip
        refine g_aload_n dX11_rule_75 rfl ?_
        refine g_iload_n dX11_rule_76 rfl ?_
        refine g_iload_n dX11_rule_77 rfl ?_
        refine g_callVi dX11_rule_78 ln_X11_84 ⟨_, rfl⟩ rfl (by decide) ⟨_, _, rfl⟩ rfl (Nat.le_of_ble_eq_true rfl) (Nat.le_of_ble_eq_true rfl) ct_asks rfl (fun r78 m78 h78 => ?_)
        obtain ⟨rfl, rfl⟩ := h78
        refine g_iret dX11_rule_81 (fun ty h => by cases h; rfl) ?_
        cases hw : ruF P.1 (outS P ds) 6 with
        | none => exact absurd hw ru_6
        | some b =>
          have hS : S_rule P ds tl = (nI b.1, nI b.2) := by unfold S_rule; rw [if_neg hne, hw]
          exact ⟨_, rfl, (FrM.of h9 (by decide)).up (by decide), by rw [hS]; rfl, by rw [hS]; exact (hA.g h9).told⟩
      · exact absurd (by decide) c20
  · skip
    refine g_bipush (v := -4) dX11_rule_7 (by decide) ?_
    refine g_iret dX11_rule_9 (fun ty h => by cases h; rfl) ?_
    have h0 : P.2.1 = 0 := (nI_eq (by omega) (by decide)).mp (show nI P.2.1 = nI 0 from c4)
    have hS : S_rule P ds tl = (-4, tl) := by unfold S_rule; rw [if_pos h0]
    exact ⟨_, rfl, FrM.rf, by rw [hS], by rw [hS]; exact hA⟩
theorem pm_signs {rw tx : Tab} {P : Pce} {ds : List Deed} {sh : Shf} {tl : Int32} {ch : Int64 × Int64} {fn : Fnd} {r : Int32} (hA : AbsM rw tx P ds sh tl ch fn I J) (hO : StOK rw tx P ds sh) : Ct X (d + 3) 66 M_X11_signs 66 [.ref 48, .int r] (I, J, rf0) (RI (fun y9 m => ∃ I', m = (I', J, rf0) ∧ FrM I I' ∧ y9 = S_signs P r ∧ AbsM rw tx P ds sh tl ch fn I' J)) := by
  have hP := hA.2.2.1
  have hQ := hO.2.2.1
  have h14 := hQ.2.1
  have h4 := hQ.1
  have hou : ∀ q, q < 4 → I 60 q = outS P ds q := hA.2.2.2.1.2.2.2.2.2.1
  have h625 := p5 h4
  show Go _ _ _ _ _ _ [_, _, _, _] _ _ _
  refine g_iload_n dX11_signs_0 rfl ?_
  refine g_i2l dX11_signs_1 ?_
  refine g_lconst (v := 0) dX11_signs_2 (by decide) ?_
  refine g_ldc2 dX11_signs_3 tb_1084 ?_
  refine g_callSi dX11_signs_6 ln_X11_76 ⟨_, rfl⟩ rfl (Nat.le_of_ble_eq_true rfl) (Nat.le_of_ble_eq_true rfl) ct_in rfl (fun r6 m6 h6 => ?_)
  obtain ⟨rfl, rfl⟩ := h6
  rw [inJ_05]
  refine g_if_ne (tgt := 14) dX11_signs_9 (by decide) (fun c9 => ?_) (fun c9 => ?_)
  · skip
    refine g_aload_n dX11_signs_14 rfl ?_
    refine t_getI dX11_signs_15 fl_X11_119 rfl (by decide) rfl (by decide) ?_
    rw [hP.2.1]
    refine g_if_ne (tgt := 24) dX11_signs_18 (by decide) (fun c18 => ?_) (fun c18 => ?_)
    · skip
      have q1 := bI_ne c9
      obtain ⟨r, hr, rfl⟩ := inR_ix (by decide) q1
      have hne : ¬ P.2.1 = 0 := (show ¬ P.2.1 = 0 from fun q => c18 (by rw [q]; rfl))
      have h2 : 2 ≤ P.1 := (hQ.2.2.1).resolve_left hne
      obtain ⟨n, hn1⟩ : ∃ n, P.1 = n + 1 := ⟨P.1 - 1, by omega⟩
      have hn : I 48 5 = nI (n + 1) := by rw [hP.1, hn1]
      have h4n : n + 1 ≤ 4 := by omega
      refine g_iconst (v := 0) dX11_signs_24 (by decide) ?_
      refine g_istore_n dX11_signs_25 (by decide) ?_
      show Go _ _ _ _ _ _ [_, _, _, _] _ _ _
      refine g_iconst (v := 0) dX11_signs_26 (by decide) ?_
      refine g_istore_n dX11_signs_27 (by decide) ?_
      show Go _ _ _ _ _ _ [_, _, _, _] _ _ _
      refine go_mem (fun c I2 => Fr [63, 64] I I2) (5 ^ P.1) (fun c I2 => Go X (d + 3) 66 M_X11_signs 66 28 [.ref 48, .int (nI r), .int (nI (mtN P.1 r c)), .int (nI c)] [] (I2, J, rf0) (RI (fun y9 m => ∃ I', m = (I', J, rf0) ∧ FrM I I' ∧ y9 = S_signs P (nI r) ∧ AbsM rw tx P ds sh tl ch fn I' J))) (fun c I2 hc h9 kk => ?_) (fun I2 h9 => ?_) _ Fr.rf
      · skip
        refine g_iload_n dX11_signs_28 rfl ?_
        refine g_aload_n dX11_signs_29 rfl ?_
        refine g_callVi dX11_signs_30 ln_X11_212 ⟨_, rfl⟩ rfl (by decide) ⟨_, _, rfl⟩ rfl (Nat.le_of_ble_eq_true rfl) (Nat.le_of_ble_eq_true rfl) (ct_outs (hP.g h9) hQ) rfl (fun r30 m30 h30 => ?_)
        obtain ⟨rfl, rfl⟩ := h30
        refine g_icmp_ge (tgt := 66) dX11_signs_33 (by decide) (fun c33 => ?_) (fun c33 => ?_)
        · exact absurd (nI_lt hc (by omega)) (Int32.not_lt.mpr c33)
        · skip
          refine g_iload_n dX11_signs_36 rfl ?_
          refine g_aload_n dX11_signs_37 rfl ?_
          refine g_iload_n dX11_signs_38 rfl ?_
          refine g_callVi dX11_signs_39 ln_X11_209 ⟨_, rfl⟩ rfl (by decide) ⟨_, _, rfl⟩ rfl (Nat.le_of_ble_eq_true rfl) (Nat.le_of_ble_eq_true rfl) (ct_tries (c := c) (hP.g h9) hQ (by omega)) rfl (fun r39 m39 h39 => ?_)
          obtain ⟨rfl, I3, rfl, hf3, ho3⟩ := h39
          have h93 : Fr [63, 64] I I3 := h9.trans (hf3.mono (by decide))
          have hwp := wtC_pos c P.1
          have hw4 := wtC_le c P.1
          have hw5 := p4 h4
          refine g_if_le (tgt := 57) dX11_signs_42 (by decide) (fun c42 => ?_) (fun c42 => ?_)
          · exact absurd c42 (nI_nle hwp (by omega))
          · skip
            refine g_aload_n dX11_signs_45 rfl ?_
            refine g_iload_n dX11_signs_46 rfl ?_
            refine g_callVi dX11_signs_47 ln_X11_253 ⟨_, rfl⟩ rfl (by decide) ⟨_, _, rfl⟩ rfl (Nat.le_of_ble_eq_true rfl) (Nat.le_of_ble_eq_true rfl) (ct_bars (s := fun q => zI (oC c q)) (by rw [h93 48 (by decide)]; exact hn) h4n (fun q hq => ho3.at h4 (by omega)) hr) rfl (fun r47 m47 h47 => ?_)
            obtain ⟨I5, rfl, hf5, rfl, -⟩ := h47
            have h95 := h93.trans hf5
            rw [← hn1]
            refine g_if_lt (tgt := 57) dX11_signs_50 (by decide) (fun c50 => ?_) (fun c50 => ?_)
            · skip
              refine g_iconst (v := 0) dX11_signs_57 (by decide) ?_
              refine g_iadd dX11_signs_58 ?_
              refine g_istore_n dX11_signs_59 (by decide) ?_
              show Go _ _ _ _ _ _ [_, _, _, _] _ _ _
              refine g_iinc dX11_signs_60 rfl (by decide) ?_
              show Go _ _ _ _ _ _ [_, _, _, _] _ _ _
              refine g_goto (tgt := 28) dX11_signs_63 (by decide) ?_
              rw [nI_inc]
              rw [show mtN P.1 r (c + 1) = if (wyS P.1 r (fun q => zI (oC c q))).isSome then mtN P.1 r c + 1 else mtN P.1 r c from rfl] at kk
              cases hw : wyS P.1 r (fun q => zI (oC c q)) with
              | none =>
                rw [hw] at kk c50
                first
                  | exact absurd (by decide) c50
                  | (rw [show (0 : Int32) = nI 0 from rfl, nI_add]
                     exact kk _ h95)
                  | fail "no way"
              | some k =>
                have hk := (fstN_spec hw).1
                rw [hw] at kk c50
                first
                  | exact absurd c50 (Int32.not_lt.mpr (show (0 : Int32) ≤ nI k from nI_le (Nat.zero_le k) (by omega)))
                  | (rw [show (1 : Int32) = nI 1 from rfl, nI_add]
                     exact kk _ h95)
                  | fail "no way"
            · skip
              refine g_iconst (v := 1) dX11_signs_53 (by decide) ?_
              refine g_goto (tgt := 58) dX11_signs_54 (by decide) ?_
              refine g_iadd dX11_signs_58 ?_
              refine g_istore_n dX11_signs_59 (by decide) ?_
              show Go _ _ _ _ _ _ [_, _, _, _] _ _ _
              refine g_iinc dX11_signs_60 rfl (by decide) ?_
              show Go _ _ _ _ _ _ [_, _, _, _] _ _ _
              refine g_goto (tgt := 28) dX11_signs_63 (by decide) ?_
              rw [nI_inc]
              rw [show mtN P.1 r (c + 1) = if (wyS P.1 r (fun q => zI (oC c q))).isSome then mtN P.1 r c + 1 else mtN P.1 r c from rfl] at kk
              cases hw : wyS P.1 r (fun q => zI (oC c q)) with
              | none =>
                rw [hw] at kk c50
                first
                  | exact absurd (by decide) c50
                  | (rw [show (0 : Int32) = nI 0 from rfl, nI_add]
                     exact kk _ h95)
                  | fail "no way"
              | some k =>
                have hk := (fstN_spec hw).1
                rw [hw] at kk c50
                first
                  | exact absurd c50 (Int32.not_lt.mpr (show (0 : Int32) ≤ nI k from nI_le (Nat.zero_le k) (by omega)))
                  | (rw [show (1 : Int32) = nI 1 from rfl, nI_add]
                     exact kk _ h95)
                  | fail "no way"
      · skip
        refine g_iload_n dX11_signs_28 rfl ?_
        refine g_aload_n dX11_signs_29 rfl ?_
        refine g_callVi dX11_signs_30 ln_X11_212 ⟨_, rfl⟩ rfl (by decide) ⟨_, _, rfl⟩ rfl (Nat.le_of_ble_eq_true rfl) (Nat.le_of_ble_eq_true rfl) (ct_outs (hP.g h9) hQ) rfl (fun r30 m30 h30 => ?_)
        obtain ⟨rfl, rfl⟩ := h30
        refine g_icmp_ge (tgt := 66) dX11_signs_33 (by decide) (fun c33 => ?_) (fun c33 => ?_)
        · skip
          refine g_iload_n dX11_signs_66 rfl ?_
          refine g_iret dX11_signs_67 (fun ty h => by cases h; rfl) ?_
          exact ⟨I2, rfl, FrM.of h9 (by decide), by unfold S_signs; rw [q1, if_neg hne, cl_nI (by omega)]; rfl, hA.g h9⟩
        · exact absurd (Int32.le_refl _) c33
    · skip
      refine g_bipush (v := -4) dX11_signs_21 (by decide) ?_
      refine g_iret dX11_signs_23 (fun ty h => by cases h; rfl) ?_
      have hz : P.2.1 = 0 := (nI_eq (by omega) (by decide)).mp (show nI P.2.1 = nI 0 from c18)
      exact ⟨_, rfl, FrM.rf, by unfold S_signs; rw [bI_ne c9, if_pos hz]; rfl, hA⟩
  · skip
    refine g_iconst (v := -1) dX11_signs_12 (by decide) ?_
    refine g_iret dX11_signs_13 (fun ty h => by cases h; rfl) ?_
    exact ⟨_, rfl, FrM.rf, by unfold S_signs; rw [bI_eq c9]; rfl, hA⟩
end
