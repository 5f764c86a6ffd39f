section
variable {X : Nat × (Nat → Int32)} {d : Nat} {I : Nat → Nat → Int32} {J : Nat → Nat → Int64}
theorem ct_isPlace {P : Pce} {k : Int32} (hP : PcM P I) (hO : PcOK P) : Ct X (d + 1) 66 M_X11_isPlace 66 [.ref 48, .int k] (I, J, rf0) (RI (fun y9 m => y9 = bI (inR k P.2.1) ∧ m = (I, J, rf0))) := by
  have h14 := hO.2.1
  have h4 := hO.1
  show Go _ _ _ _ _ _ [_, _] _ _ _
  refine g_iload_n dX11_isPlace_0 rfl ?_
  refine g_i2l dX11_isPlace_1 ?_
  refine g_lconst (v := 0) dX11_isPlace_2 (by decide) ?_
  refine g_aload_n dX11_isPlace_3 rfl ?_
  refine t_getI dX11_isPlace_4 fl_X11_119 rfl (by decide) rfl (by decide) ?_
  refine g_iconst (v := 1) dX11_isPlace_7 (by decide) ?_
  refine g_isub dX11_isPlace_8 ?_
  refine g_i2l dX11_isPlace_9 ?_
  rw [hP.2.1]
  refine g_callSi dX11_isPlace_10 ln_X11_76 ⟨_, rfl⟩ rfl (Nat.le_of_ble_eq_true rfl) (Nat.le_of_ble_eq_true rfl) ct_in rfl (fun r10 m10 h10 => ?_)
  obtain ⟨rfl, rfl⟩ := h10
  rw [inJ_sz (by omega)]
  refine g_iret dX11_isPlace_13 (fun ty h => by cases h; exact bI_narrow _) ?_
  exact ⟨rfl, rfl⟩
theorem ct_isPlayer {P : Pce} {k : Int32} (hP : PcM P I) (hO : PcOK P) : Ct X (d + 1) 66 M_X11_isPlayer 66 [.ref 48, .int k] (I, J, rf0) (RI (fun y9 m => y9 = bI (inR k P.1) ∧ m = (I, J, rf0))) := by
  have h14 := hO.2.1
  have h4 := hO.1
  show Go _ _ _ _ _ _ [_, _] _ _ _
  refine g_iload_n dX11_isPlayer_0 rfl ?_
  refine g_i2l dX11_isPlayer_1 ?_
  refine g_lconst (v := 0) dX11_isPlayer_2 (by decide) ?_
  refine g_aload_n dX11_isPlayer_3 rfl ?_
  refine t_getI dX11_isPlayer_4 fl_X11_116 rfl (by decide) rfl (by decide) ?_
  refine g_iconst (v := 1) dX11_isPlayer_7 (by decide) ?_
  refine g_isub dX11_isPlayer_8 ?_
  refine g_i2l dX11_isPlayer_9 ?_
  rw [hP.1]
  refine g_callSi dX11_isPlayer_10 ln_X11_76 ⟨_, rfl⟩ rfl (Nat.le_of_ble_eq_true rfl) (Nat.le_of_ble_eq_true rfl) ct_in rfl (fun r10 m10 h10 => ?_)
  obtain ⟨rfl, rfl⟩ := h10
  rw [inJ_sz (by omega)]
  refine g_iret dX11_isPlayer_13 (fun ty h => by cases h; exact bI_narrow _) ?_
  exact ⟨rfl, rfl⟩
theorem inR_z {z : Int} {n : Nat} (hz : -2147483648 ≤ z ∧ z < 2147483648) (hn : n < 2 ^ 31) : inR (zI z) n = decide (0 ≤ z ∧ z < n) := by
  have e : inR (zI z) n = true ↔ (0 ≤ z ∧ z < n) := by
    rw [inR_iff, show (0 : Int32) = zI 0 from rfl, nI_z, z_le (by omega) hz, z_lt hz (by omega)]
  cases h : inR (zI z) n with
  | true => exact (decide_eq_true (e.mp h)).symm
  | false => exact (decide_eq_false (fun q => by rw [e.mpr q] at h; cases h)).symm
theorem ix4b (x p : Nat) : (4 : Int32) * nI x + nI p = nI (4 * x + p) := by rw [show (4 : Int32) = nI 4 from rfl, pk_mul, nI_add]
theorem ct_sounds {P : Pce} {p x : Nat} {z : Int} (hP : PcM P I) (hO : PcOK P) (hp : p < P.1) (hx : x ≤ 20) (hz : -2 ≤ z ∧ z ≤ 2) : Ct X (d + 2) 66 M_X11_sounds 66 [.ref 48, .int (nI p), .int (nI x), .int (zI z)] (I, J, rf0) (RI (fun y9 m => y9 = zI (sndS P p ((x : Int) + z)) ∧ m = (I, J, rf0))) := by
  have h14 := hO.2.1
  have h4 := hO.1
  show Go _ _ _ _ _ _ [_, _, _, _, _] _ _ _
  refine g_aload_n dX11_sounds_0 rfl ?_
  refine g_iload_n dX11_sounds_1 rfl ?_
  refine g_iload_n dX11_sounds_2 rfl ?_
  refine g_iadd dX11_sounds_3 ?_
  refine g_callVi dX11_sounds_4 ln_X11_125 ⟨_, rfl⟩ rfl (by decide) ⟨_, _, rfl⟩ rfl (Nat.le_of_ble_eq_true rfl) (Nat.le_of_ble_eq_true rfl) (ct_isPlace hP hO) rfl (fun r4 m4 h4 => ?_)
  obtain ⟨rfl, rfl⟩ := h4
  rw [z_at, inR_z (by omega) (by omega)]
  refine g_if_eq (tgt := 25) dX11_sounds_7 (by decide) (fun c7 => ?_) (fun c7 => ?_)
  · skip
    refine g_bipush (v := 9) dX11_sounds_25 (by decide) ?_
    refine g_istore dX11_sounds_27 (by decide) ?_
    show Go _ _ _ _ _ _ [_, _, _, _, _] _ _ _
    refine g_iload dX11_sounds_29 rfl ?_
    refine g_bipush (v := 8) dX11_sounds_31 (by decide) ?_
    try rw [cl_nI (by omega), hn]
    refine g_icmp_ge (tgt := 41) dX11_sounds_33 (by decide) (fun c33 => ?_) (fun c33 => ?_)
    · skip
      refine g_iconst (v := -1) dX11_sounds_41 (by decide) ?_
      refine g_iret dX11_sounds_42 (fun ty h => by cases h; rfl) ?_
      refine ⟨?_, rfl⟩
      unfold sndS
      first
        | exact absurd (show (8 : Int32) ≤ 9 by decide) c33
        | (rw [if_neg (fun q => by have h9 := of_decide_eq_false (bI_eq c7); exact h9 q.2)]; decide)
        | (have h8 : P.2.2.2 j p < 8 := (nI_ltI (by omega) (by decide)).mp (Int32.not_le.mp c33)
           rw [if_pos ⟨hp, hin⟩, hj, Int.toNat_natCast, if_pos h8, ← nI_z])
        | (have h8 : ¬ P.2.2.2 j p < 8 := fun q => absurd (nI_lt q (by decide)) (Int32.not_lt.mpr c33)
           rw [if_pos ⟨hp, hin⟩, hj, Int.toNat_natCast, if_neg h8]; decide)
        | fail "no way"
    · skip
      refine g_iload dX11_sounds_36 rfl ?_
      refine g_goto (tgt := 42) dX11_sounds_38 (by decide) ?_
      refine g_iret dX11_sounds_42 (fun ty h => by cases h; rfl) ?_
      refine ⟨?_, rfl⟩
      unfold sndS
      first
        | exact absurd (show (8 : Int32) ≤ 9 by decide) c33
        | (rw [if_neg (fun q => by have h9 := of_decide_eq_false (bI_eq c7); exact h9 q.2)]; decide)
        | (have h8 : P.2.2.2 j p < 8 := (nI_ltI (by omega) (by decide)).mp (Int32.not_le.mp c33)
           rw [if_pos ⟨hp, hin⟩, hj, Int.toNat_natCast, if_pos h8, ← nI_z])
        | (have h8 : ¬ P.2.2.2 j p < 8 := fun q => absurd (nI_lt q (by decide)) (Int32.not_lt.mpr c33)
           rw [if_pos ⟨hp, hin⟩, hj, Int.toNat_natCast, if_neg h8]; decide)
        | fail "no way"
  · skip
    have hin := of_decide_eq_true (bI_ne c7)
    obtain ⟨j, hj⟩ : ∃ j : Nat, (x : Int) + z = (j : Int) := ⟨((x : Int) + z).toNat, by omega⟩
    have hjx : j < P.2.1 := by omega
    have hn := hP.2.2.2 j hjx p hp
    have hn10 := hO.2.2.2.2 j p
    refine g_aload_n dX11_sounds_10 rfl ?_
    refine t_getR dX11_sounds_11 fl_X11_29 rfl (by decide) rfl (by decide) rfl ?_
    refine g_iconst (v := 4) dX11_sounds_14 (by decide) ?_
    refine g_iload_n dX11_sounds_15 rfl ?_
    refine g_iload_n dX11_sounds_16 rfl ?_
    refine g_iadd dX11_sounds_17 ?_
    refine g_imul dX11_sounds_18 ?_
    refine g_iload_n dX11_sounds_19 rfl ?_
    refine g_iadd dX11_sounds_20 ?_
    rw [z_at, show zI ((x : Int) + z) = nI j by rw [hj, ← nI_z], ix4b]
    refine t_iald dX11_sounds_21 rfl (by decide) (in_nI (by omega) (by decide)) ?_
    refine g_goto (tgt := 27) dX11_sounds_22 (by decide) ?_
    refine g_istore dX11_sounds_27 (by decide) ?_
    show Go _ _ _ _ _ _ [_, _, _, _, _] _ _ _
    refine g_iload dX11_sounds_29 rfl ?_
    refine g_bipush (v := 8) dX11_sounds_31 (by decide) ?_
    try rw [cl_nI (by omega), hn]
    refine g_icmp_ge (tgt := 41) dX11_sounds_33 (by decide) (fun c33 => ?_) (fun c33 => ?_)
    · skip
      refine g_iconst (v := -1) dX11_sounds_41 (by decide) ?_
      refine g_iret dX11_sounds_42 (fun ty h => by cases h; rfl) ?_
      refine ⟨?_, rfl⟩
      unfold sndS
      first
        | exact absurd (show (8 : Int32) ≤ 9 by decide) c33
        | (rw [if_neg (fun q => by have h9 := of_decide_eq_false (bI_eq c7); exact h9 q.2)]; decide)
        | (have h8 : P.2.2.2 j p < 8 := (nI_ltI (by omega) (by decide)).mp (Int32.not_le.mp c33)
           rw [if_pos ⟨hp, hin⟩, hj, Int.toNat_natCast, if_pos h8, ← nI_z])
        | (have h8 : ¬ P.2.2.2 j p < 8 := fun q => absurd (nI_lt q (by decide)) (Int32.not_lt.mpr c33)
           rw [if_pos ⟨hp, hin⟩, hj, Int.toNat_natCast, if_neg h8]; decide)
        | fail "no way"
    · skip
      refine g_iload dX11_sounds_36 rfl ?_
      refine g_goto (tgt := 42) dX11_sounds_38 (by decide) ?_
      refine g_iret dX11_sounds_42 (fun ty h => by cases h; rfl) ?_
      refine ⟨?_, rfl⟩
      unfold sndS
      first
        | exact absurd (show (8 : Int32) ≤ 9 by decide) c33
        | (rw [if_neg (fun q => by have h9 := of_decide_eq_false (bI_eq c7); exact h9 q.2)]; decide)
        | (have h8 : P.2.2.2 j p < 8 := (nI_ltI (by omega) (by decide)).mp (Int32.not_le.mp c33)
           rw [if_pos ⟨hp, hin⟩, hj, Int.toNat_natCast, if_pos h8, ← nI_z])
        | (have h8 : ¬ P.2.2.2 j p < 8 := fun q => absurd (nI_lt q (by decide)) (Int32.not_lt.mpr c33)
           rw [if_pos ⟨hp, hin⟩, hj, Int.toNat_natCast, if_neg h8]; decide)
        | fail "no way"
theorem ct_isClash {k : Nat} {a b : Int} (hk : k < 6) (ha : -1 ≤ a ∧ a ≤ 7) (hb : -1 ≤ b ∧ b ≤ 7) : Ct X d 66 M_X11_isClash 66 [.int (nI k), .int (zI a), .int (zI b)] (I, J, rf0) (RI (fun y9 m => y9 = bI (clsB k a b) ∧ m = (I, J, rf0))) := by
  show Go _ _ _ _ _ _ [_, _, _, _] _ _ _
  refine g_iload_n dX11_isClash_0 rfl ?_
  refine g_iload_n dX11_isClash_1 rfl ?_
  refine g_icmp_le (tgt := 11) dX11_isClash_2 (by decide) (fun c2 => ?_) (fun c2 => ?_)
  · skip
    refine g_iload_n dX11_isClash_11 rfl ?_
    refine g_iload_n dX11_isClash_12 rfl ?_
    refine g_isub dX11_isClash_13 ?_
    rw [z_sub]
    first
      | (have q2 := (not_congr (z_le (by omega) (by omega))).mp c2
         generalize hwe : a - b = w)
      | (have q2 := (z_le (by omega) (by omega)).mp c2
         generalize hwe : b - a = w)
      | fail "no way"
    have hw1 : 0 ≤ w := by omega
    have hw2 : w = a - b ∨ w = b - a := by omega
    have hw7 : w ≤ 8 := by omega
    refine g_istore_n dX11_isClash_14 (by decide) ?_
    show Go _ _ _ _ _ _ [_, _, _, _] _ _ _
    refine g_iload_n dX11_isClash_15 rfl ?_
    refine g_if_lt (tgt := 33) dX11_isClash_16 (by decide) (fun c16 => ?_) (fun c16 => ?_)
    · skip
      refine g_iconst (v := 0) dX11_isClash_33 (by decide) ?_
      refine g_iret dX11_isClash_34 (fun ty h => by cases h; rfl) ?_
      refine ⟨?_, rfl⟩
      have : clsB k a b = false := by
        first
          | (have q := (z_lt (a := a) (b := 0) (by omega) (by omega)).mp c16
             unfold clsB; rw [decide_eq_false (by omega), Bool.false_and])
          | (have q := (z_lt (a := b) (b := 0) (by omega) (by omega)).mp c20
             unfold clsB; rw [decide_eq_false (p := 0 ≤ b) (by omega), Bool.false_and, Bool.and_false])
          | exact cls_24 (Or.inl ((nI_eq (by omega) (by decide)).mp (show nI k = nI 2 from c25)))
          | exact cls_24 (Or.inr ((nI_eq (by omega) (by decide)).mp (show nI k = nI 4 from c30)))
          | fail "no way"
      rw [this]
      rfl
    · skip
      refine g_iload_n dX11_isClash_19 rfl ?_
      refine g_if_lt (tgt := 33) dX11_isClash_20 (by decide) (fun c20 => ?_) (fun c20 => ?_)
      · skip
        refine g_iconst (v := 0) dX11_isClash_33 (by decide) ?_
        refine g_iret dX11_isClash_34 (fun ty h => by cases h; rfl) ?_
        refine ⟨?_, rfl⟩
        have : clsB k a b = false := by
          first
            | (have q := (z_lt (a := a) (b := 0) (by omega) (by omega)).mp c16
               unfold clsB; rw [decide_eq_false (by omega), Bool.false_and])
            | (have q := (z_lt (a := b) (b := 0) (by omega) (by omega)).mp c20
               unfold clsB; rw [decide_eq_false (p := 0 ≤ b) (by omega), Bool.false_and, Bool.and_false])
            | exact cls_24 (Or.inl ((nI_eq (by omega) (by decide)).mp (show nI k = nI 2 from c25)))
            | exact cls_24 (Or.inr ((nI_eq (by omega) (by decide)).mp (show nI k = nI 4 from c30)))
            | fail "no way"
        rw [this]
        rfl
      · skip
        refine g_iload_n dX11_isClash_23 rfl ?_
        refine g_iconst (v := 2) dX11_isClash_24 (by decide) ?_
        refine g_icmp_eq (tgt := 33) dX11_isClash_25 (by decide) (fun c25 => ?_) (fun c25 => ?_)
        · skip
          refine g_iconst (v := 0) dX11_isClash_33 (by decide) ?_
          refine g_iret dX11_isClash_34 (fun ty h => by cases h; rfl) ?_
          refine ⟨?_, rfl⟩
          have : clsB k a b = false := by
            first
              | (have q := (z_lt (a := a) (b := 0) (by omega) (by omega)).mp c16
                 unfold clsB; rw [decide_eq_false (by omega), Bool.false_and])
              | (have q := (z_lt (a := b) (b := 0) (by omega) (by omega)).mp c20
                 unfold clsB; rw [decide_eq_false (p := 0 ≤ b) (by omega), Bool.false_and, Bool.and_false])
              | exact cls_24 (Or.inl ((nI_eq (by omega) (by decide)).mp (show nI k = nI 2 from c25)))
              | exact cls_24 (Or.inr ((nI_eq (by omega) (by decide)).mp (show nI k = nI 4 from c30)))
              | fail "no way"
          rw [this]
          rfl
        · skip
          refine g_iload_n dX11_isClash_28 rfl ?_
          refine g_iconst (v := 4) dX11_isClash_29 (by decide) ?_
          refine g_icmp_ne (tgt := 35) dX11_isClash_30 (by decide) (fun c30 => ?_) (fun c30 => ?_)
          · skip
            have ha0 : 0 ≤ a := (not_congr (z_lt (a := a) (b := 0) (by omega) (by omega))).mp c16 |> fun q => by omega
            have hb0 : 0 ≤ b := (not_congr (z_lt (a := b) (b := 0) (by omega) (by omega))).mp c20 |> fun q => by omega
            have k2 : k ≠ 2 := fun q => c25 (by rw [q]; rfl)
            have k4 : k ≠ 4 := fun q => c30 (by rw [q]; rfl)
            refine g_iload_n dX11_isClash_35 rfl ?_
            refine g_if_ne (tgt := 58) dX11_isClash_36 (by decide) (fun c36 => ?_) (fun c36 => ?_)
            · skip
              refine g_iload_n dX11_isClash_58 rfl ?_
              refine g_iconst (v := 5) dX11_isClash_59 (by decide) ?_
              refine g_icmp_ne (tgt := 76) dX11_isClash_60 (by decide) (fun c60 => ?_) (fun c60 => ?_)
              · skip
                refine g_iload_n dX11_isClash_76 rfl ?_
                refine g_if_le (tgt := 84) dX11_isClash_77 (by decide) (fun c77 => ?_) (fun c77 => ?_)
                · skip
                  refine g_iconst (v := 0) dX11_isClash_84 (by decide) ?_
                  refine g_iret dX11_isClash_85 (fun ty h => by cases h; rfl) ?_
                  refine ⟨?_, rfl⟩
                  first
                    | (have k0 : k = 0 := (nI_eq (by omega) (by decide)).mp (show nI k = nI 0 from c36)
                       subst k0
                       rw [cls_0, decide_eq_true ha0, decide_eq_true hb0, Bool.true_and, Bool.true_and]
                       first
                         | (have e1 := (z_eq (a := w) (b := 1) (by omega) (by omega)).mp c41
                            rw [decide_eq_true (by omega)]; rfl)
                         | (have e1 := (z_eq (a := w) (b := 6) (by omega) (by omega)).mp c47
                            rw [decide_eq_true (by omega)]; rfl)
                         | (have e1 := (not_congr (z_eq (a := w) (b := 1) (by omega) (by omega))).mp c41
                            have e2 := (not_congr (z_eq (a := w) (b := 6) (by omega) (by omega))).mp c47
                            rw [decide_eq_false (by omega)]; rfl))
                    | (have k5 : k = 5 := (nI_eq (by omega) (by decide)).mp (show nI k = nI 5 from c60)
                       subst k5
                       rw [cls_5, decide_eq_true ha0, decide_eq_true hb0, Bool.true_and, Bool.true_and]
                       first
                         | (have e1 := (z_eq (a := w) (b := 1) (by omega) (by omega)).mp c65
                            rw [decide_eq_true (by omega)]; rfl)
                         | (have e1 := (not_congr (z_eq (a := w) (b := 1) (by omega) (by omega))).mp c65
                            rw [decide_eq_false (by omega)]; rfl))
                    | (have k0 : k ≠ 0 := fun q => c36 (by rw [q]; rfl)
                       have k5 : k ≠ 5 := fun q => c60 (by rw [q]; rfl)
                       rw [cls_13 (by omega), decide_eq_true ha0, decide_eq_true hb0, Bool.true_and, Bool.true_and]
                       first
                         | (have e1 := (z_le (a := w) (b := 0) (by omega) (by omega)).mp c77
                            rw [decide_eq_false (by omega)]; rfl)
                         | (have e1 := (not_congr (z_le (a := w) (b := 0) (by omega) (by omega))).mp c77
                            rw [decide_eq_true (by omega)]; rfl))
                    | fail "no way"
                · skip
                  refine g_iconst (v := 1) dX11_isClash_80 (by decide) ?_
                  refine g_goto (tgt := 85) dX11_isClash_81 (by decide) ?_
                  refine g_iret dX11_isClash_85 (fun ty h => by cases h; rfl) ?_
                  refine ⟨?_, rfl⟩
                  first
                    | (have k0 : k = 0 := (nI_eq (by omega) (by decide)).mp (show nI k = nI 0 from c36)
                       subst k0
                       rw [cls_0, decide_eq_true ha0, decide_eq_true hb0, Bool.true_and, Bool.true_and]
                       first
                         | (have e1 := (z_eq (a := w) (b := 1) (by omega) (by omega)).mp c41
                            rw [decide_eq_true (by omega)]; rfl)
                         | (have e1 := (z_eq (a := w) (b := 6) (by omega) (by omega)).mp c47
                            rw [decide_eq_true (by omega)]; rfl)
                         | (have e1 := (not_congr (z_eq (a := w) (b := 1) (by omega) (by omega))).mp c41
                            have e2 := (not_congr (z_eq (a := w) (b := 6) (by omega) (by omega))).mp c47
                            rw [decide_eq_false (by omega)]; rfl))
                    | (have k5 : k = 5 := (nI_eq (by omega) (by decide)).mp (show nI k = nI 5 from c60)
                       subst k5
                       rw [cls_5, decide_eq_true ha0, decide_eq_true hb0, Bool.true_and, Bool.true_and]
                       first
                         | (have e1 := (z_eq (a := w) (b := 1) (by omega) (by omega)).mp c65
                            rw [decide_eq_true (by omega)]; rfl)
                         | (have e1 := (not_congr (z_eq (a := w) (b := 1) (by omega) (by omega))).mp c65
                            rw [decide_eq_false (by omega)]; rfl))
                    | (have k0 : k ≠ 0 := fun q => c36 (by rw [q]; rfl)
                       have k5 : k ≠ 5 := fun q => c60 (by rw [q]; rfl)
                       rw [cls_13 (by omega), decide_eq_true ha0, decide_eq_true hb0, Bool.true_and, Bool.true_and]
                       first
                         | (have e1 := (z_le (a := w) (b := 0) (by omega) (by omega)).mp c77
                            rw [decide_eq_false (by omega)]; rfl)
                         | (have e1 := (not_congr (z_le (a := w) (b := 0) (by omega) (by omega))).mp c77
                            rw [decide_eq_true (by omega)]; rfl))
                    | fail "no way"
              · skip
                refine g_iload_n dX11_isClash_63 rfl ?_
                refine g_iconst (v := 1) dX11_isClash_64 (by decide) ?_
                refine g_icmp_ne (tgt := 72) dX11_isClash_65 (by decide) (fun c65 => ?_) (fun c65 => ?_)
                · skip
                  refine g_iconst (v := 0) dX11_isClash_72 (by decide) ?_
                  refine g_goto (tgt := 85) dX11_isClash_73 (by decide) ?_
                  refine g_iret dX11_isClash_85 (fun ty h => by cases h; rfl) ?_
                  refine ⟨?_, rfl⟩
                  first
                    | (have k0 : k = 0 := (nI_eq (by omega) (by decide)).mp (show nI k = nI 0 from c36)
                       subst k0
                       rw [cls_0, decide_eq_true ha0, decide_eq_true hb0, Bool.true_and, Bool.true_and]
                       first
                         | (have e1 := (z_eq (a := w) (b := 1) (by omega) (by omega)).mp c41
                            rw [decide_eq_true (by omega)]; rfl)
                         | (have e1 := (z_eq (a := w) (b := 6) (by omega) (by omega)).mp c47
                            rw [decide_eq_true (by omega)]; rfl)
                         | (have e1 := (not_congr (z_eq (a := w) (b := 1) (by omega) (by omega))).mp c41
                            have e2 := (not_congr (z_eq (a := w) (b := 6) (by omega) (by omega))).mp c47
                            rw [decide_eq_false (by omega)]; rfl))
                    | (have k5 : k = 5 := (nI_eq (by omega) (by decide)).mp (show nI k = nI 5 from c60)
                       subst k5
                       rw [cls_5, decide_eq_true ha0, decide_eq_true hb0, Bool.true_and, Bool.true_and]
                       first
                         | (have e1 := (z_eq (a := w) (b := 1) (by omega) (by omega)).mp c65
                            rw [decide_eq_true (by omega)]; rfl)
                         | (have e1 := (not_congr (z_eq (a := w) (b := 1) (by omega) (by omega))).mp c65
                            rw [decide_eq_false (by omega)]; rfl))
                    | (have k0 : k ≠ 0 := fun q => c36 (by rw [q]; rfl)
                       have k5 : k ≠ 5 := fun q => c60 (by rw [q]; rfl)
                       rw [cls_13 (by omega), decide_eq_true ha0, decide_eq_true hb0, Bool.true_and, Bool.true_and]
                       first
                         | (have e1 := (z_le (a := w) (b := 0) (by omega) (by omega)).mp c77
                            rw [decide_eq_false (by omega)]; rfl)
                         | (have e1 := (not_congr (z_le (a := w) (b := 0) (by omega) (by omega))).mp c77
                            rw [decide_eq_true (by omega)]; rfl))
                    | fail "no way"
                · skip
                  refine g_iconst (v := 1) dX11_isClash_68 (by decide) ?_
                  refine g_goto (tgt := 85) dX11_isClash_69 (by decide) ?_
                  refine g_iret dX11_isClash_85 (fun ty h => by cases h; rfl) ?_
                  refine ⟨?_, rfl⟩
                  first
                    | (have k0 : k = 0 := (nI_eq (by omega) (by decide)).mp (show nI k = nI 0 from c36)
                       subst k0
                       rw [cls_0, decide_eq_true ha0, decide_eq_true hb0, Bool.true_and, Bool.true_and]
                       first
                         | (have e1 := (z_eq (a := w) (b := 1) (by omega) (by omega)).mp c41
                            rw [decide_eq_true (by omega)]; rfl)
                         | (have e1 := (z_eq (a := w) (b := 6) (by omega) (by omega)).mp c47
                            rw [decide_eq_true (by omega)]; rfl)
                         | (have e1 := (not_congr (z_eq (a := w) (b := 1) (by omega) (by omega))).mp c41
                            have e2 := (not_congr (z_eq (a := w) (b := 6) (by omega) (by omega))).mp c47
                            rw [decide_eq_false (by omega)]; rfl))
                    | (have k5 : k = 5 := (nI_eq (by omega) (by decide)).mp (show nI k = nI 5 from c60)
                       subst k5
                       rw [cls_5, decide_eq_true ha0, decide_eq_true hb0, Bool.true_and, Bool.true_and]
                       first
                         | (have e1 := (z_eq (a := w) (b := 1) (by omega) (by omega)).mp c65
                            rw [decide_eq_true (by omega)]; rfl)
                         | (have e1 := (not_congr (z_eq (a := w) (b := 1) (by omega) (by omega))).mp c65
                            rw [decide_eq_false (by omega)]; rfl))
                    | (have k0 : k ≠ 0 := fun q => c36 (by rw [q]; rfl)
                       have k5 : k ≠ 5 := fun q => c60 (by rw [q]; rfl)
                       rw [cls_13 (by omega), decide_eq_true ha0, decide_eq_true hb0, Bool.true_and, Bool.true_and]
                       first
                         | (have e1 := (z_le (a := w) (b := 0) (by omega) (by omega)).mp c77
                            rw [decide_eq_false (by omega)]; rfl)
                         | (have e1 := (not_congr (z_le (a := w) (b := 0) (by omega) (by omega))).mp c77
                            rw [decide_eq_true (by omega)]; rfl))
                    | fail "no way"
            · skip
              refine g_iload_n dX11_isClash_39 rfl ?_
              refine g_iconst (v := 1) dX11_isClash_40 (by decide) ?_
              refine g_icmp_eq (tgt := 50) dX11_isClash_41 (by decide) (fun c41 => ?_) (fun c41 => ?_)
              · skip
                refine g_iconst (v := 1) dX11_isClash_50 (by decide) ?_
                refine g_goto (tgt := 85) dX11_isClash_51 (by decide) ?_
                refine g_iret dX11_isClash_85 (fun ty h => by cases h; rfl) ?_
                refine ⟨?_, rfl⟩
                first
                  | (have k0 : k = 0 := (nI_eq (by omega) (by decide)).mp (show nI k = nI 0 from c36)
                     subst k0
                     rw [cls_0, decide_eq_true ha0, decide_eq_true hb0, Bool.true_and, Bool.true_and]
                     first
                       | (have e1 := (z_eq (a := w) (b := 1) (by omega) (by omega)).mp c41
                          rw [decide_eq_true (by omega)]; rfl)
                       | (have e1 := (z_eq (a := w) (b := 6) (by omega) (by omega)).mp c47
                          rw [decide_eq_true (by omega)]; rfl)
                       | (have e1 := (not_congr (z_eq (a := w) (b := 1) (by omega) (by omega))).mp c41
                          have e2 := (not_congr (z_eq (a := w) (b := 6) (by omega) (by omega))).mp c47
                          rw [decide_eq_false (by omega)]; rfl))
                  | (have k5 : k = 5 := (nI_eq (by omega) (by decide)).mp (show nI k = nI 5 from c60)
                     subst k5
                     rw [cls_5, decide_eq_true ha0, decide_eq_true hb0, Bool.true_and, Bool.true_and]
                     first
                       | (have e1 := (z_eq (a := w) (b := 1) (by omega) (by omega)).mp c65
                          rw [decide_eq_true (by omega)]; rfl)
                       | (have e1 := (not_congr (z_eq (a := w) (b := 1) (by omega) (by omega))).mp c65
                          rw [decide_eq_false (by omega)]; rfl))
                  | (have k0 : k ≠ 0 := fun q => c36 (by rw [q]; rfl)
                     have k5 : k ≠ 5 := fun q => c60 (by rw [q]; rfl)
                     rw [cls_13 (by omega), decide_eq_true ha0, decide_eq_true hb0, Bool.true_and, Bool.true_and]
                     first
                       | (have e1 := (z_le (a := w) (b := 0) (by omega) (by omega)).mp c77
                          rw [decide_eq_false (by omega)]; rfl)
                       | (have e1 := (not_congr (z_le (a := w) (b := 0) (by omega) (by omega))).mp c77
                          rw [decide_eq_true (by omega)]; rfl))
                  | fail "no way"
              · skip
                refine g_iload_n dX11_isClash_44 rfl ?_
                refine g_bipush (v := 6) dX11_isClash_45 (by decide) ?_
                refine g_icmp_ne (tgt := 54) dX11_isClash_47 (by decide) (fun c47 => ?_) (fun c47 => ?_)
                · skip
                  refine g_iconst (v := 0) dX11_isClash_54 (by decide) ?_
                  refine g_goto (tgt := 85) dX11_isClash_55 (by decide) ?_
                  refine g_iret dX11_isClash_85 (fun ty h => by cases h; rfl) ?_
                  refine ⟨?_, rfl⟩
                  first
                    | (have k0 : k = 0 := (nI_eq (by omega) (by decide)).mp (show nI k = nI 0 from c36)
                       subst k0
                       rw [cls_0, decide_eq_true ha0, decide_eq_true hb0, Bool.true_and, Bool.true_and]
                       first
                         | (have e1 := (z_eq (a := w) (b := 1) (by omega) (by omega)).mp c41
                            rw [decide_eq_true (by omega)]; rfl)
                         | (have e1 := (z_eq (a := w) (b := 6) (by omega) (by omega)).mp c47
                            rw [decide_eq_true (by omega)]; rfl)
                         | (have e1 := (not_congr (z_eq (a := w) (b := 1) (by omega) (by omega))).mp c41
                            have e2 := (not_congr (z_eq (a := w) (b := 6) (by omega) (by omega))).mp c47
                            rw [decide_eq_false (by omega)]; rfl))
                    | (have k5 : k = 5 := (nI_eq (by omega) (by decide)).mp (show nI k = nI 5 from c60)
                       subst k5
                       rw [cls_5, decide_eq_true ha0, decide_eq_true hb0, Bool.true_and, Bool.true_and]
                       first
                         | (have e1 := (z_eq (a := w) (b := 1) (by omega) (by omega)).mp c65
                            rw [decide_eq_true (by omega)]; rfl)
                         | (have e1 := (not_congr (z_eq (a := w) (b := 1) (by omega) (by omega))).mp c65
                            rw [decide_eq_false (by omega)]; rfl))
                    | (have k0 : k ≠ 0 := fun q => c36 (by rw [q]; rfl)
                       have k5 : k ≠ 5 := fun q => c60 (by rw [q]; rfl)
                       rw [cls_13 (by omega), decide_eq_true ha0, decide_eq_true hb0, Bool.true_and, Bool.true_and]
                       first
                         | (have e1 := (z_le (a := w) (b := 0) (by omega) (by omega)).mp c77
                            rw [decide_eq_false (by omega)]; rfl)
                         | (have e1 := (not_congr (z_le (a := w) (b := 0) (by omega) (by omega))).mp c77
                            rw [decide_eq_true (by omega)]; rfl))
                    | fail "no way"
                · skip
                  refine g_iconst (v := 1) dX11_isClash_50 (by decide) ?_
                  refine g_goto (tgt := 85) dX11_isClash_51 (by decide) ?_
                  refine g_iret dX11_isClash_85 (fun ty h => by cases h; rfl) ?_
                  refine ⟨?_, rfl⟩
                  first
                    | (have k0 : k = 0 := (nI_eq (by omega) (by decide)).mp (show nI k = nI 0 from c36)
                       subst k0
                       rw [cls_0, decide_eq_true ha0, decide_eq_true hb0, Bool.true_and, Bool.true_and]
                       first
                         | (have e1 := (z_eq (a := w) (b := 1) (by omega) (by omega)).mp c41
                            rw [decide_eq_true (by omega)]; rfl)
                         | (have e1 := (z_eq (a := w) (b := 6) (by omega) (by omega)).mp c47
                            rw [decide_eq_true (by omega)]; rfl)
                         | (have e1 := (not_congr (z_eq (a := w) (b := 1) (by omega) (by omega))).mp c41
                            have e2 := (not_congr (z_eq (a := w) (b := 6) (by omega) (by omega))).mp c47
                            rw [decide_eq_false (by omega)]; rfl))
                    | (have k5 : k = 5 := (nI_eq (by omega) (by decide)).mp (show nI k = nI 5 from c60)
                       subst k5
                       rw [cls_5, decide_eq_true ha0, decide_eq_true hb0, Bool.true_and, Bool.true_and]
                       first
                         | (have e1 := (z_eq (a := w) (b := 1) (by omega) (by omega)).mp c65
                            rw [decide_eq_true (by omega)]; rfl)
                         | (have e1 := (not_congr (z_eq (a := w) (b := 1) (by omega) (by omega))).mp c65
                            rw [decide_eq_false (by omega)]; rfl))
                    | (have k0 : k ≠ 0 := fun q => c36 (by rw [q]; rfl)
                       have k5 : k ≠ 5 := fun q => c60 (by rw [q]; rfl)
                       rw [cls_13 (by omega), decide_eq_true ha0, decide_eq_true hb0, Bool.true_and, Bool.true_and]
                       first
                         | (have e1 := (z_le (a := w) (b := 0) (by omega) (by omega)).mp c77
                            rw [decide_eq_false (by omega)]; rfl)
                         | (have e1 := (not_congr (z_le (a := w) (b := 0) (by omega) (by omega))).mp c77
                            rw [decide_eq_true (by omega)]; rfl))
                    | fail "no way"
          · skip
            refine g_iconst (v := 0) dX11_isClash_33 (by decide) ?_
            refine g_iret dX11_isClash_34 (fun ty h => by cases h; rfl) ?_
            refine ⟨?_, rfl⟩
            have : clsB k a b = false := by
              first
                | (have q := (z_lt (a := a) (b := 0) (by omega) (by omega)).mp c16
                   unfold clsB; rw [decide_eq_false (by omega), Bool.false_and])
                | (have q := (z_lt (a := b) (b := 0) (by omega) (by omega)).mp c20
                   unfold clsB; rw [decide_eq_false (p := 0 ≤ b) (by omega), Bool.false_and, Bool.and_false])
                | exact cls_24 (Or.inl ((nI_eq (by omega) (by decide)).mp (show nI k = nI 2 from c25)))
                | exact cls_24 (Or.inr ((nI_eq (by omega) (by decide)).mp (show nI k = nI 4 from c30)))
                | fail "no way"
            rw [this]
            rfl
  · skip
    refine g_iload_n dX11_isClash_5 rfl ?_
    refine g_iload_n dX11_isClash_6 rfl ?_
    refine g_isub dX11_isClash_7 ?_
    refine g_goto (tgt := 14) dX11_isClash_8 (by decide) ?_
    rw [z_sub]
    first
      | (have q2 := (not_congr (z_le (by omega) (by omega))).mp c2
         generalize hwe : a - b = w)
      | (have q2 := (z_le (by omega) (by omega)).mp c2
         generalize hwe : b - a = w)
      | fail "no way"
    have hw1 : 0 ≤ w := by omega
    have hw2 : w = a - b ∨ w = b - a := by omega
    have hw7 : w ≤ 8 := by omega
    refine g_istore_n dX11_isClash_14 (by decide) ?_
    show Go _ _ _ _ _ _ [_, _, _, _] _ _ _
    refine g_iload_n dX11_isClash_15 rfl ?_
    refine g_if_lt (tgt := 33) dX11_isClash_16 (by decide) (fun c16 => ?_) (fun c16 => ?_)
    · skip
      refine g_iconst (v := 0) dX11_isClash_33 (by decide) ?_
      refine g_iret dX11_isClash_34 (fun ty h => by cases h; rfl) ?_
      refine ⟨?_, rfl⟩
      have : clsB k a b = false := by
        first
          | (have q := (z_lt (a := a) (b := 0) (by omega) (by omega)).mp c16
             unfold clsB; rw [decide_eq_false (by omega), Bool.false_and])
          | (have q := (z_lt (a := b) (b := 0) (by omega) (by omega)).mp c20
             unfold clsB; rw [decide_eq_false (p := 0 ≤ b) (by omega), Bool.false_and, Bool.and_false])
          | exact cls_24 (Or.inl ((nI_eq (by omega) (by decide)).mp (show nI k = nI 2 from c25)))
          | exact cls_24 (Or.inr ((nI_eq (by omega) (by decide)).mp (show nI k = nI 4 from c30)))
          | fail "no way"
      rw [this]
      rfl
    · skip
      refine g_iload_n dX11_isClash_19 rfl ?_
      refine g_if_lt (tgt := 33) dX11_isClash_20 (by decide) (fun c20 => ?_) (fun c20 => ?_)
      · skip
        refine g_iconst (v := 0) dX11_isClash_33 (by decide) ?_
        refine g_iret dX11_isClash_34 (fun ty h => by cases h; rfl) ?_
        refine ⟨?_, rfl⟩
        have : clsB k a b = false := by
          first
            | (have q := (z_lt (a := a) (b := 0) (by omega) (by omega)).mp c16
               unfold clsB; rw [decide_eq_false (by omega), Bool.false_and])
            | (have q := (z_lt (a := b) (b := 0) (by omega) (by omega)).mp c20
               unfold clsB; rw [decide_eq_false (p := 0 ≤ b) (by omega), Bool.false_and, Bool.and_false])
            | exact cls_24 (Or.inl ((nI_eq (by omega) (by decide)).mp (show nI k = nI 2 from c25)))
            | exact cls_24 (Or.inr ((nI_eq (by omega) (by decide)).mp (show nI k = nI 4 from c30)))
            | fail "no way"
        rw [this]
        rfl
      · skip
        refine g_iload_n dX11_isClash_23 rfl ?_
        refine g_iconst (v := 2) dX11_isClash_24 (by decide) ?_
        refine g_icmp_eq (tgt := 33) dX11_isClash_25 (by decide) (fun c25 => ?_) (fun c25 => ?_)
        · skip
          refine g_iconst (v := 0) dX11_isClash_33 (by decide) ?_
          refine g_iret dX11_isClash_34 (fun ty h => by cases h; rfl) ?_
          refine ⟨?_, rfl⟩
          have : clsB k a b = false := by
            first
              | (have q := (z_lt (a := a) (b := 0) (by omega) (by omega)).mp c16
                 unfold clsB; rw [decide_eq_false (by omega), Bool.false_and])
              | (have q := (z_lt (a := b) (b := 0) (by omega) (by omega)).mp c20
                 unfold clsB; rw [decide_eq_false (p := 0 ≤ b) (by omega), Bool.false_and, Bool.and_false])
              | exact cls_24 (Or.inl ((nI_eq (by omega) (by decide)).mp (show nI k = nI 2 from c25)))
              | exact cls_24 (Or.inr ((nI_eq (by omega) (by decide)).mp (show nI k = nI 4 from c30)))
              | fail "no way"
          rw [this]
          rfl
        · skip
          refine g_iload_n dX11_isClash_28 rfl ?_
          refine g_iconst (v := 4) dX11_isClash_29 (by decide) ?_
          refine g_icmp_ne (tgt := 35) dX11_isClash_30 (by decide) (fun c30 => ?_) (fun c30 => ?_)
          · skip
            have ha0 : 0 ≤ a := (not_congr (z_lt (a := a) (b := 0) (by omega) (by omega))).mp c16 |> fun q => by omega
            have hb0 : 0 ≤ b := (not_congr (z_lt (a := b) (b := 0) (by omega) (by omega))).mp c20 |> fun q => by omega
            have k2 : k ≠ 2 := fun q => c25 (by rw [q]; rfl)
            have k4 : k ≠ 4 := fun q => c30 (by rw [q]; rfl)
            refine g_iload_n dX11_isClash_35 rfl ?_
            refine g_if_ne (tgt := 58) dX11_isClash_36 (by decide) (fun c36 => ?_) (fun c36 => ?_)
            · skip
              refine g_iload_n dX11_isClash_58 rfl ?_
              refine g_iconst (v := 5) dX11_isClash_59 (by decide) ?_
              refine g_icmp_ne (tgt := 76) dX11_isClash_60 (by decide) (fun c60 => ?_) (fun c60 => ?_)
              · skip
                refine g_iload_n dX11_isClash_76 rfl ?_
                refine g_if_le (tgt := 84) dX11_isClash_77 (by decide) (fun c77 => ?_) (fun c77 => ?_)
                · skip
                  refine g_iconst (v := 0) dX11_isClash_84 (by decide) ?_
                  refine g_iret dX11_isClash_85 (fun ty h => by cases h; rfl) ?_
                  refine ⟨?_, rfl⟩
                  first
                    | (have k0 : k = 0 := (nI_eq (by omega) (by decide)).mp (show nI k = nI 0 from c36)
                       subst k0
                       rw [cls_0, decide_eq_true ha0, decide_eq_true hb0, Bool.true_and, Bool.true_and]
                       first
                         | (have e1 := (z_eq (a := w) (b := 1) (by omega) (by omega)).mp c41
                            rw [decide_eq_true (by omega)]; rfl)
                         | (have e1 := (z_eq (a := w) (b := 6) (by omega) (by omega)).mp c47
                            rw [decide_eq_true (by omega)]; rfl)
                         | (have e1 := (not_congr (z_eq (a := w) (b := 1) (by omega) (by omega))).mp c41
                            have e2 := (not_congr (z_eq (a := w) (b := 6) (by omega) (by omega))).mp c47
                            rw [decide_eq_false (by omega)]; rfl))
                    | (have k5 : k = 5 := (nI_eq (by omega) (by decide)).mp (show nI k = nI 5 from c60)
                       subst k5
                       rw [cls_5, decide_eq_true ha0, decide_eq_true hb0, Bool.true_and, Bool.true_and]
                       first
                         | (have e1 := (z_eq (a := w) (b := 1) (by omega) (by omega)).mp c65
                            rw [decide_eq_true (by omega)]; rfl)
                         | (have e1 := (not_congr (z_eq (a := w) (b := 1) (by omega) (by omega))).mp c65
                            rw [decide_eq_false (by omega)]; rfl))
                    | (have k0 : k ≠ 0 := fun q => c36 (by rw [q]; rfl)
                       have k5 : k ≠ 5 := fun q => c60 (by rw [q]; rfl)
                       rw [cls_13 (by omega), decide_eq_true ha0, decide_eq_true hb0, Bool.true_and, Bool.true_and]
                       first
                         | (have e1 := (z_le (a := w) (b := 0) (by omega) (by omega)).mp c77
                            rw [decide_eq_false (by omega)]; rfl)
                         | (have e1 := (not_congr (z_le (a := w) (b := 0) (by omega) (by omega))).mp c77
                            rw [decide_eq_true (by omega)]; rfl))
                    | fail "no way"
                · skip
                  refine g_iconst (v := 1) dX11_isClash_80 (by decide) ?_
                  refine g_goto (tgt := 85) dX11_isClash_81 (by decide) ?_
                  refine g_iret dX11_isClash_85 (fun ty h => by cases h; rfl) ?_
                  refine ⟨?_, rfl⟩
                  first
                    | (have k0 : k = 0 := (nI_eq (by omega) (by decide)).mp (show nI k = nI 0 from c36)
                       subst k0
                       rw [cls_0, decide_eq_true ha0, decide_eq_true hb0, Bool.true_and, Bool.true_and]
                       first
                         | (have e1 := (z_eq (a := w) (b := 1) (by omega) (by omega)).mp c41
                            rw [decide_eq_true (by omega)]; rfl)
                         | (have e1 := (z_eq (a := w) (b := 6) (by omega) (by omega)).mp c47
                            rw [decide_eq_true (by omega)]; rfl)
                         | (have e1 := (not_congr (z_eq (a := w) (b := 1) (by omega) (by omega))).mp c41
                            have e2 := (not_congr (z_eq (a := w) (b := 6) (by omega) (by omega))).mp c47
                            rw [decide_eq_false (by omega)]; rfl))
                    | (have k5 : k = 5 := (nI_eq (by omega) (by decide)).mp (show nI k = nI 5 from c60)
                       subst k5
                       rw [cls_5, decide_eq_true ha0, decide_eq_true hb0, Bool.true_and, Bool.true_and]
                       first
                         | (have e1 := (z_eq (a := w) (b := 1) (by omega) (by omega)).mp c65
                            rw [decide_eq_true (by omega)]; rfl)
                         | (have e1 := (not_congr (z_eq (a := w) (b := 1) (by omega) (by omega))).mp c65
                            rw [decide_eq_false (by omega)]; rfl))
                    | (have k0 : k ≠ 0 := fun q => c36 (by rw [q]; rfl)
                       have k5 : k ≠ 5 := fun q => c60 (by rw [q]; rfl)
                       rw [cls_13 (by omega), decide_eq_true ha0, decide_eq_true hb0, Bool.true_and, Bool.true_and]
                       first
                         | (have e1 := (z_le (a := w) (b := 0) (by omega) (by omega)).mp c77
                            rw [decide_eq_false (by omega)]; rfl)
                         | (have e1 := (not_congr (z_le (a := w) (b := 0) (by omega) (by omega))).mp c77
                            rw [decide_eq_true (by omega)]; rfl))
                    | fail "no way"
              · skip
                refine g_iload_n dX11_isClash_63 rfl ?_
                refine g_iconst (v := 1) dX11_isClash_64 (by decide) ?_
                refine g_icmp_ne (tgt := 72) dX11_isClash_65 (by decide) (fun c65 => ?_) (fun c65 => ?_)
                · skip
                  refine g_iconst (v := 0) dX11_isClash_72 (by decide) ?_
                  refine g_goto (tgt := 85) dX11_isClash_73 (by decide) ?_
                  refine g_iret dX11_isClash_85 (fun ty h => by cases h; rfl) ?_
                  refine ⟨?_, rfl⟩
                  first
                    | (have k0 : k = 0 := (nI_eq (by omega) (by decide)).mp (show nI k = nI 0 from c36)
                       subst k0
                       rw [cls_0, decide_eq_true ha0, decide_eq_true hb0, Bool.true_and, Bool.true_and]
                       first
                         | (have e1 := (z_eq (a := w) (b := 1) (by omega) (by omega)).mp c41
                            rw [decide_eq_true (by omega)]; rfl)
                         | (have e1 := (z_eq (a := w) (b := 6) (by omega) (by omega)).mp c47
                            rw [decide_eq_true (by omega)]; rfl)
                         | (have e1 := (not_congr (z_eq (a := w) (b := 1) (by omega) (by omega))).mp c41
                            have e2 := (not_congr (z_eq (a := w) (b := 6) (by omega) (by omega))).mp c47
                            rw [decide_eq_false (by omega)]; rfl))
                    | (have k5 : k = 5 := (nI_eq (by omega) (by decide)).mp (show nI k = nI 5 from c60)
                       subst k5
                       rw [cls_5, decide_eq_true ha0, decide_eq_true hb0, Bool.true_and, Bool.true_and]
                       first
                         | (have e1 := (z_eq (a := w) (b := 1) (by omega) (by omega)).mp c65
                            rw [decide_eq_true (by omega)]; rfl)
                         | (have e1 := (not_congr (z_eq (a := w) (b := 1) (by omega) (by omega))).mp c65
                            rw [decide_eq_false (by omega)]; rfl))
                    | (have k0 : k ≠ 0 := fun q => c36 (by rw [q]; rfl)
                       have k5 : k ≠ 5 := fun q => c60 (by rw [q]; rfl)
                       rw [cls_13 (by omega), decide_eq_true ha0, decide_eq_true hb0, Bool.true_and, Bool.true_and]
                       first
                         | (have e1 := (z_le (a := w) (b := 0) (by omega) (by omega)).mp c77
                            rw [decide_eq_false (by omega)]; rfl)
                         | (have e1 := (not_congr (z_le (a := w) (b := 0) (by omega) (by omega))).mp c77
                            rw [decide_eq_true (by omega)]; rfl))
                    | fail "no way"
                · skip
                  refine g_iconst (v := 1) dX11_isClash_68 (by decide) ?_
                  refine g_goto (tgt := 85) dX11_isClash_69 (by decide) ?_
                  refine g_iret dX11_isClash_85 (fun ty h => by cases h; rfl) ?_
                  refine ⟨?_, rfl⟩
                  first
                    | (have k0 : k = 0 := (nI_eq (by omega) (by decide)).mp (show nI k = nI 0 from c36)
                       subst k0
                       rw [cls_0, decide_eq_true ha0, decide_eq_true hb0, Bool.true_and, Bool.true_and]
                       first
                         | (have e1 := (z_eq (a := w) (b := 1) (by omega) (by omega)).mp c41
                            rw [decide_eq_true (by omega)]; rfl)
                         | (have e1 := (z_eq (a := w) (b := 6) (by omega) (by omega)).mp c47
                            rw [decide_eq_true (by omega)]; rfl)
                         | (have e1 := (not_congr (z_eq (a := w) (b := 1) (by omega) (by omega))).mp c41
                            have e2 := (not_congr (z_eq (a := w) (b := 6) (by omega) (by omega))).mp c47
                            rw [decide_eq_false (by omega)]; rfl))
                    | (have k5 : k = 5 := (nI_eq (by omega) (by decide)).mp (show nI k = nI 5 from c60)
                       subst k5
                       rw [cls_5, decide_eq_true ha0, decide_eq_true hb0, Bool.true_and, Bool.true_and]
                       first
                         | (have e1 := (z_eq (a := w) (b := 1) (by omega) (by omega)).mp c65
                            rw [decide_eq_true (by omega)]; rfl)
                         | (have e1 := (not_congr (z_eq (a := w) (b := 1) (by omega) (by omega))).mp c65
                            rw [decide_eq_false (by omega)]; rfl))
                    | (have k0 : k ≠ 0 := fun q => c36 (by rw [q]; rfl)
                       have k5 : k ≠ 5 := fun q => c60 (by rw [q]; rfl)
                       rw [cls_13 (by omega), decide_eq_true ha0, decide_eq_true hb0, Bool.true_and, Bool.true_and]
                       first
                         | (have e1 := (z_le (a := w) (b := 0) (by omega) (by omega)).mp c77
                            rw [decide_eq_false (by omega)]; rfl)
                         | (have e1 := (not_congr (z_le (a := w) (b := 0) (by omega) (by omega))).mp c77
                            rw [decide_eq_true (by omega)]; rfl))
                    | fail "no way"
            · skip
              refine g_iload_n dX11_isClash_39 rfl ?_
              refine g_iconst (v := 1) dX11_isClash_40 (by decide) ?_
              refine g_icmp_eq (tgt := 50) dX11_isClash_41 (by decide) (fun c41 => ?_) (fun c41 => ?_)
              · skip
                refine g_iconst (v := 1) dX11_isClash_50 (by decide) ?_
                refine g_goto (tgt := 85) dX11_isClash_51 (by decide) ?_
                refine g_iret dX11_isClash_85 (fun ty h => by cases h; rfl) ?_
                refine ⟨?_, rfl⟩
                first
                  | (have k0 : k = 0 := (nI_eq (by omega) (by decide)).mp (show nI k = nI 0 from c36)
                     subst k0
                     rw [cls_0, decide_eq_true ha0, decide_eq_true hb0, Bool.true_and, Bool.true_and]
                     first
                       | (have e1 := (z_eq (a := w) (b := 1) (by omega) (by omega)).mp c41
                          rw [decide_eq_true (by omega)]; rfl)
                       | (have e1 := (z_eq (a := w) (b := 6) (by omega) (by omega)).mp c47
                          rw [decide_eq_true (by omega)]; rfl)
                       | (have e1 := (not_congr (z_eq (a := w) (b := 1) (by omega) (by omega))).mp c41
                          have e2 := (not_congr (z_eq (a := w) (b := 6) (by omega) (by omega))).mp c47
                          rw [decide_eq_false (by omega)]; rfl))
                  | (have k5 : k = 5 := (nI_eq (by omega) (by decide)).mp (show nI k = nI 5 from c60)
                     subst k5
                     rw [cls_5, decide_eq_true ha0, decide_eq_true hb0, Bool.true_and, Bool.true_and]
                     first
                       | (have e1 := (z_eq (a := w) (b := 1) (by omega) (by omega)).mp c65
                          rw [decide_eq_true (by omega)]; rfl)
                       | (have e1 := (not_congr (z_eq (a := w) (b := 1) (by omega) (by omega))).mp c65
                          rw [decide_eq_false (by omega)]; rfl))
                  | (have k0 : k ≠ 0 := fun q => c36 (by rw [q]; rfl)
                     have k5 : k ≠ 5 := fun q => c60 (by rw [q]; rfl)
                     rw [cls_13 (by omega), decide_eq_true ha0, decide_eq_true hb0, Bool.true_and, Bool.true_and]
                     first
                       | (have e1 := (z_le (a := w) (b := 0) (by omega) (by omega)).mp c77
                          rw [decide_eq_false (by omega)]; rfl)
                       | (have e1 := (not_congr (z_le (a := w) (b := 0) (by omega) (by omega))).mp c77
                          rw [decide_eq_true (by omega)]; rfl))
                  | fail "no way"
              · skip
                refine g_iload_n dX11_isClash_44 rfl ?_
                refine g_bipush (v := 6) dX11_isClash_45 (by decide) ?_
                refine g_icmp_ne (tgt := 54) dX11_isClash_47 (by decide) (fun c47 => ?_) (fun c47 => ?_)
                · skip
                  refine g_iconst (v := 0) dX11_isClash_54 (by decide) ?_
                  refine g_goto (tgt := 85) dX11_isClash_55 (by decide) ?_
                  refine g_iret dX11_isClash_85 (fun ty h => by cases h; rfl) ?_
                  refine ⟨?_, rfl⟩
                  first
                    | (have k0 : k = 0 := (nI_eq (by omega) (by decide)).mp (show nI k = nI 0 from c36)
                       subst k0
                       rw [cls_0, decide_eq_true ha0, decide_eq_true hb0, Bool.true_and, Bool.true_and]
                       first
                         | (have e1 := (z_eq (a := w) (b := 1) (by omega) (by omega)).mp c41
                            rw [decide_eq_true (by omega)]; rfl)
                         | (have e1 := (z_eq (a := w) (b := 6) (by omega) (by omega)).mp c47
                            rw [decide_eq_true (by omega)]; rfl)
                         | (have e1 := (not_congr (z_eq (a := w) (b := 1) (by omega) (by omega))).mp c41
                            have e2 := (not_congr (z_eq (a := w) (b := 6) (by omega) (by omega))).mp c47
                            rw [decide_eq_false (by omega)]; rfl))
                    | (have k5 : k = 5 := (nI_eq (by omega) (by decide)).mp (show nI k = nI 5 from c60)
                       subst k5
                       rw [cls_5, decide_eq_true ha0, decide_eq_true hb0, Bool.true_and, Bool.true_and]
                       first
                         | (have e1 := (z_eq (a := w) (b := 1) (by omega) (by omega)).mp c65
                            rw [decide_eq_true (by omega)]; rfl)
                         | (have e1 := (not_congr (z_eq (a := w) (b := 1) (by omega) (by omega))).mp c65
                            rw [decide_eq_false (by omega)]; rfl))
                    | (have k0 : k ≠ 0 := fun q => c36 (by rw [q]; rfl)
                       have k5 : k ≠ 5 := fun q => c60 (by rw [q]; rfl)
                       rw [cls_13 (by omega), decide_eq_true ha0, decide_eq_true hb0, Bool.true_and, Bool.true_and]
                       first
                         | (have e1 := (z_le (a := w) (b := 0) (by omega) (by omega)).mp c77
                            rw [decide_eq_false (by omega)]; rfl)
                         | (have e1 := (not_congr (z_le (a := w) (b := 0) (by omega) (by omega))).mp c77
                            rw [decide_eq_true (by omega)]; rfl))
                    | fail "no way"
                · skip
                  refine g_iconst (v := 1) dX11_isClash_50 (by decide) ?_
                  refine g_goto (tgt := 85) dX11_isClash_51 (by decide) ?_
                  refine g_iret dX11_isClash_85 (fun ty h => by cases h; rfl) ?_
                  refine ⟨?_, rfl⟩
                  first
                    | (have k0 : k = 0 := (nI_eq (by omega) (by decide)).mp (show nI k = nI 0 from c36)
                       subst k0
                       rw [cls_0, decide_eq_true ha0, decide_eq_true hb0, Bool.true_and, Bool.true_and]
                       first
                         | (have e1 := (z_eq (a := w) (b := 1) (by omega) (by omega)).mp c41
                            rw [decide_eq_true (by omega)]; rfl)
                         | (have e1 := (z_eq (a := w) (b := 6) (by omega) (by omega)).mp c47
                            rw [decide_eq_true (by omega)]; rfl)
                         | (have e1 := (not_congr (z_eq (a := w) (b := 1) (by omega) (by omega))).mp c41
                            have e2 := (not_congr (z_eq (a := w) (b := 6) (by omega) (by omega))).mp c47
                            rw [decide_eq_false (by omega)]; rfl))
                    | (have k5 : k = 5 := (nI_eq (by omega) (by decide)).mp (show nI k = nI 5 from c60)
                       subst k5
                       rw [cls_5, decide_eq_true ha0, decide_eq_true hb0, Bool.true_and, Bool.true_and]
                       first
                         | (have e1 := (z_eq (a := w) (b := 1) (by omega) (by omega)).mp c65
                            rw [decide_eq_true (by omega)]; rfl)
                         | (have e1 := (not_congr (z_eq (a := w) (b := 1) (by omega) (by omega))).mp c65
                            rw [decide_eq_false (by omega)]; rfl))
                    | (have k0 : k ≠ 0 := fun q => c36 (by rw [q]; rfl)
                       have k5 : k ≠ 5 := fun q => c60 (by rw [q]; rfl)
                       rw [cls_13 (by omega), decide_eq_true ha0, decide_eq_true hb0, Bool.true_and, Bool.true_and]
                       first
                         | (have e1 := (z_le (a := w) (b := 0) (by omega) (by omega)).mp c77
                            rw [decide_eq_false (by omega)]; rfl)
                         | (have e1 := (not_congr (z_le (a := w) (b := 0) (by omega) (by omega))).mp c77
                            rw [decide_eq_true (by omega)]; rfl))
                    | fail "no way"
          · skip
            refine g_iconst (v := 0) dX11_isClash_33 (by decide) ?_
            refine g_iret dX11_isClash_34 (fun ty h => by cases h; rfl) ?_
            refine ⟨?_, rfl⟩
            have : clsB k a b = false := by
              first
                | (have q := (z_lt (a := a) (b := 0) (by omega) (by omega)).mp c16
                   unfold clsB; rw [decide_eq_false (by omega), Bool.false_and])
                | (have q := (z_lt (a := b) (b := 0) (by omega) (by omega)).mp c20
                   unfold clsB; rw [decide_eq_false (p := 0 ≤ b) (by omega), Bool.false_and, Bool.and_false])
                | exact cls_24 (Or.inl ((nI_eq (by omega) (by decide)).mp (show nI k = nI 2 from c25)))
                | exact cls_24 (Or.inr ((nI_eq (by omega) (by decide)).mp (show nI k = nI 4 from c30)))
                | fail "no way"
            rw [this]
            rfl
theorem ct_clashesM {P : Pce} {x k : Nat} {o : Nat → Int} (hP : PcM P I) (hO : PcOK P) (hx : x ≤ 20) (hk : k < 6) (hR : OuR o) (ho : OuV 63 o I) : Ct X (d + 3) 66 M_X11_clashes 66 [.ref 48, .int (nI x), .int (nI k)] (I, J, rf0) (RI (fun y9 m => y9 = nI (hrK P k o x) ∧ m = (I, J, rf0))) := by
  have h4 := hO.1
  show Go _ _ _ _ _ _ [_, _, _, _, _, _, _] _ _ _
  refine g_iconst (v := 0) dX11_clashes_0 (by decide) ?_
  refine g_istore_n dX11_clashes_1 (by decide) ?_
  show Go _ _ _ _ _ _ [_, _, _, _, _, _, _] _ _ _
  refine g_iconst (v := 0) dX11_clashes_2 (by decide) ?_
  refine g_istore dX11_clashes_3 (by decide) ?_
  show Go _ _ _ _ _ _ [_, _, _, _, _, _, _] _ _ _
  refine g_iconst (v := 0) dX11_clashes_5 (by decide) ?_
  refine g_istore dX11_clashes_6 (by decide) ?_
  show Go _ _ _ _ _ _ [_, _, _, _, _, _, _] _ _ _
  refine go_for (fun a s => prIn (cB P k o x a) a (P.1 - (a + 1)) s) ((0, 0) : Nat × Nat) P.1 (fun a s => Go X (d + 3) 66 M_X11_clashes 66 8 [.ref 48, .int (nI x), .int (nI k), .int (nI s.1), .int (nI s.2), .int (nI a), .null] [] (I, J, rf0) (RI (fun y9 m => y9 = nI (hrK P k o x) ∧ m = (I, J, rf0)))) (fun a ha kko => ?_) ?_
  · have hb0 := prs_snd P.1 (cB P k o x) h4 a
    obtain ⟨s0, hs0⟩ : ∃ s0, s0 = foldN (fun a s => prIn (cB P k o x a) a (P.1 - (a + 1)) s) ((0, 0) : Nat × Nat) a := ⟨_, rfl⟩
    rw [show foldN (fun a s => prIn (cB P k o x a) a (P.1 - (a + 1)) s) ((0, 0) : Nat × Nat) (a + 1) = prIn (cB P k o x a) a (P.1 - (a + 1)) s0 by rw [hs0]; rfl] at kko
    rw [← hs0] at hb0 ⊢
    refine g_iload dX11_clashes_8 rfl ?_
    refine g_aload_n dX11_clashes_10 rfl ?_
    refine t_getI dX11_clashes_11 fl_X11_116 rfl (by decide) rfl (by decide) ?_
    rw [hP.1]
    refine g_icmp_ge (tgt := 93) dX11_clashes_14 (by decide) (fun c14 => ?_) (fun c14 => ?_)
    · exact absurd (nI_lt ha (by omega)) (Int32.not_lt.mpr c14)
    · skip
      refine g_iload dX11_clashes_17 rfl ?_
      refine g_iconst (v := 1) dX11_clashes_19 (by decide) ?_
      refine g_iadd dX11_clashes_20 ?_
      refine g_istore dX11_clashes_21 (by decide) ?_
      show Go _ _ _ _ _ _ [_, _, _, _, _, _, _] _ _ _
      rw [show (1 : Int32) = nI 1 from rfl, nI_add]
      refine go_for (fun t s => (if cB P k o x a (a + 1 + t) then s.1 ||| 2 ^ s.2 else s.1, s.2 + 1)) s0 (P.1 - (a + 1)) (fun t s => Go X (d + 3) 66 M_X11_clashes 66 23 [.ref 48, .int (nI x), .int (nI k), .int (nI s.1), .int (nI s.2), .int (nI a), .int (nI (a + 1 + t))] [] (I, J, rf0) (RI (fun y9 m => y9 = nI (hrK P k o x) ∧ m = (I, J, rf0)))) (fun t ht kk => ?_) ?_
      · have hb1 : (foldN (fun t s => (if cB P k o x a (a + 1 + t) then s.1 ||| 2 ^ s.2 else s.1, s.2 + 1)) s0 t).2 = s0.2 + t := prIn_snd (cB P k o x a) a s0 t
        have e9 : foldN (fun t s => (if cB P k o x a (a + 1 + t) then s.1 ||| 2 ^ s.2 else s.1, s.2 + 1)) s0 (t + 1) = (if cB P k o x a (a + 1 + t) then (foldN (fun t s => (if cB P k o x a (a + 1 + t) then s.1 ||| 2 ^ s.2 else s.1, s.2 + 1)) s0 t).1 ||| 2 ^ (foldN (fun t s => (if cB P k o x a (a + 1 + t) then s.1 ||| 2 ^ s.2 else s.1, s.2 + 1)) s0 t).2 else (foldN (fun t s => (if cB P k o x a (a + 1 + t) then s.1 ||| 2 ^ s.2 else s.1, s.2 + 1)) s0 t).1, (foldN (fun t s => (if cB P k o x a (a + 1 + t) then s.1 ||| 2 ^ s.2 else s.1, s.2 + 1)) s0 t).2 + 1) := rfl
        rw [e9] at kk
        refine g_iload dX11_clashes_23 rfl ?_
        refine g_aload_n dX11_clashes_25 rfl ?_
        refine t_getI dX11_clashes_26 fl_X11_116 rfl (by decide) rfl (by decide) ?_
        rw [hP.1]
        refine g_icmp_ge (tgt := 87) dX11_clashes_29 (by decide) (fun c29 => ?_) (fun c29 => ?_)
        · exact absurd (nI_lt (show a + 1 + t < P.1 by omega) (by omega)) (Int32.not_lt.mpr c29)
        · skip
          refine g_iload_n dX11_clashes_32 rfl ?_
          refine g_iload_n dX11_clashes_33 rfl ?_
          refine g_aload_n dX11_clashes_34 rfl ?_
          refine g_iload dX11_clashes_35 rfl ?_
          refine g_iload_n dX11_clashes_37 rfl ?_
          refine g_aload_n dX11_clashes_38 rfl ?_
          refine t_getR dX11_clashes_39 fl_X11_57 rfl (by decide) rfl (by decide) rfl ?_
          refine g_iload dX11_clashes_42 rfl ?_
          refine t_iald dX11_clashes_44 rfl (by decide) (in_nI (by omega) (by decide)) ?_
          rw [cl_nI (by omega), ho a (by omega)]
          refine g_callVi dX11_clashes_45 ln_X11_129 ⟨_, rfl⟩ rfl (by decide) ⟨_, _, rfl⟩ rfl (Nat.le_of_ble_eq_true rfl) (Nat.le_of_ble_eq_true rfl) (ct_sounds hP hO (p := a) (x := x) (z := o a) (by omega) hx (hR a (by omega))) rfl (fun r45 m45 h45 => ?_)
          obtain ⟨rfl, rfl⟩ := h45
          refine g_aload_n dX11_clashes_48 rfl ?_
          refine g_iload dX11_clashes_49 rfl ?_
          refine g_iload_n dX11_clashes_51 rfl ?_
          refine g_aload_n dX11_clashes_52 rfl ?_
          refine t_getR dX11_clashes_53 fl_X11_57 rfl (by decide) rfl (by decide) rfl ?_
          refine g_iload dX11_clashes_56 rfl ?_
          refine t_iald dX11_clashes_58 rfl (by decide) (in_nI (by omega) (by decide)) ?_
          rw [cl_nI (by omega), ho (a + 1 + t) (by omega)]
          refine g_callVi dX11_clashes_59 ln_X11_129 ⟨_, rfl⟩ rfl (by decide) ⟨_, _, rfl⟩ rfl (Nat.le_of_ble_eq_true rfl) (Nat.le_of_ble_eq_true rfl) (ct_sounds hP hO (p := a + 1 + t) (x := x) (z := o (a + 1 + t)) (by omega) hx (hR (a + 1 + t) (by omega))) rfl (fun r59 m59 h59 => ?_)
          obtain ⟨rfl, rfl⟩ := h59
          refine g_callSi dX11_clashes_62 ln_X11_133 ⟨_, rfl⟩ rfl (Nat.le_of_ble_eq_true rfl) (Nat.le_of_ble_eq_true rfl) (ct_isClash hk (sndS_rng P hO _ _) (sndS_rng P hO _ _)) rfl (fun r62 m62 h62 => ?_)
          obtain ⟨rfl, rfl⟩ := h62
          refine g_if_eq (tgt := 75) dX11_clashes_65 (by decide) (fun c65 => ?_) (fun c65 => ?_)
          · skip
            refine g_iconst (v := 0) dX11_clashes_75 (by decide) ?_
            refine g_ior dX11_clashes_76 ?_
            refine g_istore_n dX11_clashes_77 (by decide) ?_
            show Go _ _ _ _ _ _ [_, _, _, _, _, _, _] _ _ _
            refine g_iinc dX11_clashes_78 rfl (by decide) ?_
            show Go _ _ _ _ _ _ [_, _, _, _, _, _, _] _ _ _
            refine g_iinc dX11_clashes_81 rfl (by decide) ?_
            show Go _ _ _ _ _ _ [_, _, _, _, _, _, _] _ _ _
            refine g_goto (tgt := 23) dX11_clashes_84 (by decide) ?_
            rw [nI_inc, nI_inc]
            first
              | (rw [if_pos (show cB P k o x a (a + 1 + t) = true from bI_ne c65)] at kk
                 rw [orbit (by omega)]
                 exact kk)
              | (rw [if_neg (show ¬ cB P k o x a (a + 1 + t) = true from by rw [show cB P k o x a (a + 1 + t) = false from bI_eq c65]; decide)] at kk
                 rw [show (0 : Int32) = nI 0 from rfl, or_nI, Nat.or_zero]
                 exact kk)
              | fail "no way"
          · skip
            refine g_iconst (v := 1) dX11_clashes_68 (by decide) ?_
            refine g_iload dX11_clashes_69 rfl ?_
            refine g_ishl dX11_clashes_71 ?_
            refine g_goto (tgt := 76) dX11_clashes_72 (by decide) ?_
            refine g_ior dX11_clashes_76 ?_
            refine g_istore_n dX11_clashes_77 (by decide) ?_
            show Go _ _ _ _ _ _ [_, _, _, _, _, _, _] _ _ _
            refine g_iinc dX11_clashes_78 rfl (by decide) ?_
            show Go _ _ _ _ _ _ [_, _, _, _, _, _, _] _ _ _
            refine g_iinc dX11_clashes_81 rfl (by decide) ?_
            show Go _ _ _ _ _ _ [_, _, _, _, _, _, _] _ _ _
            refine g_goto (tgt := 23) dX11_clashes_84 (by decide) ?_
            rw [nI_inc, nI_inc]
            first
              | (rw [if_pos (show cB P k o x a (a + 1 + t) = true from bI_ne c65)] at kk
                 rw [orbit (by omega)]
                 exact kk)
              | (rw [if_neg (show ¬ cB P k o x a (a + 1 + t) = true from by rw [show cB P k o x a (a + 1 + t) = false from bI_eq c65]; decide)] at kk
                 rw [show (0 : Int32) = nI 0 from rfl, or_nI, Nat.or_zero]
                 exact kk)
              | fail "no way"
      · skip
        refine g_iload dX11_clashes_23 rfl ?_
        refine g_aload_n dX11_clashes_25 rfl ?_
        refine t_getI dX11_clashes_26 fl_X11_116 rfl (by decide) rfl (by decide) ?_
        rw [hP.1]
        refine g_icmp_ge (tgt := 87) dX11_clashes_29 (by decide) (fun c29 => ?_) (fun c29 => ?_)
        · skip
          refine g_iinc dX11_clashes_87 rfl (by decide) ?_
          show Go _ _ _ _ _ _ [_, _, _, _, _, _, _] _ _ _
          refine g_goto (tgt := 8) dX11_clashes_90 (by decide) ?_
          refine g_forget 6 ?_
          show Go _ _ _ _ _ _ [_, _, _, _, _, _, _] _ _ _
          rw [nI_inc]
          exact kko
        · exact absurd (show nI P.1 ≤ nI (a + 1 + (P.1 - (a + 1))) from nI_le (by omega) (by omega)) c29
  · skip
    refine g_iload dX11_clashes_8 rfl ?_
    refine g_aload_n dX11_clashes_10 rfl ?_
    refine t_getI dX11_clashes_11 fl_X11_116 rfl (by decide) rfl (by decide) ?_
    rw [hP.1]
    refine g_icmp_ge (tgt := 93) dX11_clashes_14 (by decide) (fun c14 => ?_) (fun c14 => ?_)
    · skip
      refine g_iload_n dX11_clashes_93 rfl ?_
      refine g_iret dX11_clashes_94 (fun ty h => by cases h; rfl) ?_
      exact ⟨rfl, rfl⟩
    · exact absurd (Int32.le_refl _) c14
theorem ct_hears {P : Pce} {x : Nat} {o : Nat → Int} (hP : PcM P I) (hO : PcOK P) (hx : x < P.2.1) (hR : OuR o) (ho : OuV 63 o I) : Ct X (d + 4) 66 M_X11_hears 66 [.ref 48, .int (nI x)] (I, J, rf0) (RI (fun y9 m => y9 = nI (hrS P o x) ∧ m = (I, J, rf0))) := by
  have h14 := hO.2.1
  show Go _ _ _ _ _ _ [_, _] _ _ _
  refine g_aload_n dX11_hears_0 rfl ?_
  refine g_iload_n dX11_hears_1 rfl ?_
  refine g_aload_n dX11_hears_2 rfl ?_
  refine t_getR dX11_hears_3 fl_X11_26 rfl (by decide) rfl (by decide) rfl ?_
  refine g_iload_n dX11_hears_6 rfl ?_
  refine t_iald dX11_hears_7 rfl (by decide) (in_nI (by omega) (by decide)) ?_
  rw [cl_nI (by omega), hP.2.2.1 x hx]
  refine g_callVi dX11_hears_8 ln_X11_137 ⟨_, rfl⟩ rfl (by decide) ⟨_, _, rfl⟩ rfl (Nat.le_of_ble_eq_true rfl) (Nat.le_of_ble_eq_true rfl) (ct_clashesM hP hO (by omega) (hO.2.2.2.1 x) hR ho) rfl (fun r8 m8 h8 => ?_)
  obtain ⟨rfl, rfl⟩ := h8
  refine g_iret dX11_hears_11 (fun ty h => by cases h; rfl) ?_
  exact ⟨rfl, rfl⟩
theorem ct_nobody : Ct X d 66 M_X11_nobody 66 [.ref 48] (I, J, rf0) (RV (fun m => ∃ g, m = (upR I 63 g, J, rf0) ∧ ∀ p, p < 4 → g p = 0)) := by
  show Go _ _ _ _ _ _ [_, _] _ _ _
  refine g_iconst (v := 0) dX11_nobody_0 (by decide) ?_
  refine g_istore_n dX11_nobody_1 (by decide) ?_
  show Go _ _ _ _ _ _ [_, _] _ _ _
  have hfold : ∀ i q, q < i → foldN (fun (i : Nat) (g : Nat → Int32) => upd g i 0) (I 63) i q = 0 := by
    intro i
    induction i with
    | zero => intro q hq; omega
    | succ i ih =>
      intro q hq
      show upd (foldN (fun (i : Nat) (g : Nat → Int32) => upd g i 0) (I 63) i) i 0 q = _
      by_cases e : q = i
      · subst e; rw [pk_us]
      · rw [pk_un e]; exact ih q (by omega)
  have h00 : (I, J, rf0) = (upR I 63 (I 63), J, rf0) := by
    refine congrArg (fun z => (z, J, rf0)) (funext fun q => ?_)
    by_cases hq : q = 63
    · subst hq; exact upR_s.symm
    · exact (upR_n hq).symm
  rw [h00]
  refine go_for (fun (i : Nat) (g : Nat → Int32) => upd g i 0) (I 63) 4 (fun i g => Go X d 66 M_X11_nobody 66 2 [.ref 48, .int (nI i)] [] (upR I 63 g, J, rf0) (RV (fun m => ∃ g, m = (upR I 63 g, J, rf0) ∧ ∀ p, p < 4 → g p = 0))) (fun i hi kk => ?_) ?_
  · skip
    refine g_iload_n dX11_nobody_2 rfl ?_
    refine g_iconst (v := 4) dX11_nobody_3 (by decide) ?_
    refine g_icmp_ge (tgt := 20) dX11_nobody_4 (by decide) (fun c4 => ?_) (fun c4 => ?_)
    · exact absurd (nI_lt hi (by decide)) (Int32.not_lt.mpr c4)
    · skip
      refine g_aload_n dX11_nobody_7 rfl ?_
      refine t_getR dX11_nobody_8 fl_X11_57 rfl (by decide) rfl (by decide) rfl ?_
      refine g_iload_n dX11_nobody_11 rfl ?_
      refine g_iconst (v := 0) dX11_nobody_12 (by decide) ?_
      refine t_iast dX11_nobody_13 rfl (by decide) (in_nI hi (by decide)) ?_
      refine g_iinc dX11_nobody_14 rfl (by decide) ?_
      show Go _ _ _ _ _ _ [_, _] _ _ _
      refine g_goto (tgt := 2) dX11_nobody_17 (by decide) ?_
      rw [nI_inc, cl_nI (by omega)]
      have e9 : upR (upR I 63 (foldN (fun (i : Nat) (g : Nat → Int32) => upd g i 0) (I 63) i)) 63 (upd (upR I 63 (foldN (fun (i : Nat) (g : Nat → Int32) => upd g i 0) (I 63) i) 63) i 0) = upR I 63 (foldN (fun (i : Nat) (g : Nat → Int32) => upd g i 0) (I 63) (i + 1)) := by
        funext q
        by_cases hq : q = 63
        · subst hq; rw [upR_s, upR_s, upR_s]; rfl
        · rw [upR_n hq, upR_n hq, upR_n hq]
      rw [e9]
      exact kk
  · skip
    refine g_iload_n dX11_nobody_2 rfl ?_
    refine g_iconst (v := 4) dX11_nobody_3 (by decide) ?_
    refine g_icmp_ge (tgt := 20) dX11_nobody_4 (by decide) (fun c4 => ?_) (fun c4 => ?_)
    · skip
      refine g_vret dX11_nobody_20 ?_
      exact ⟨_, rfl, fun p hp => hfold 4 p hp⟩
    · exact absurd (Int32.le_refl _) c4
theorem ct_asOut : Ct X d 66 M_X11_asOut 66 [.ref 48] (I, J, rf0) (RV (fun m => ∃ g, m = (upR I 63 g, J, rf0) ∧ ∀ p, p < 4 → g p = I 60 p)) := by
  show Go _ _ _ _ _ _ [_, _] _ _ _
  refine g_iconst (v := 0) dX11_asOut_0 (by decide) ?_
  refine g_istore_n dX11_asOut_1 (by decide) ?_
  show Go _ _ _ _ _ _ [_, _] _ _ _
  have hfold : ∀ i q, q < i → foldN (fun (i : Nat) (g : Nat → Int32) => upd g i (I 60 i)) (I 63) i q = I 60 q := by
    intro i
    induction i with
    | zero => intro q hq; omega
    | succ i ih =>
      intro q hq
      show upd (foldN (fun (i : Nat) (g : Nat → Int32) => upd g i (I 60 i)) (I 63) i) i (I 60 i) q = _
      by_cases e : q = i
      · subst e; rw [pk_us]
      · rw [pk_un e]; exact ih q (by omega)
  have h00 : (I, J, rf0) = (upR I 63 (I 63), J, rf0) := by
    refine congrArg (fun z => (z, J, rf0)) (funext fun q => ?_)
    by_cases hq : q = 63
    · subst hq; exact upR_s.symm
    · exact (upR_n hq).symm
  rw [h00]
  refine go_for (fun (i : Nat) (g : Nat → Int32) => upd g i (I 60 i)) (I 63) 4 (fun i g => Go X d 66 M_X11_asOut 66 2 [.ref 48, .int (nI i)] [] (upR I 63 g, J, rf0) (RV (fun m => ∃ g, m = (upR I 63 g, J, rf0) ∧ ∀ p, p < 4 → g p = I 60 p))) (fun i hi kk => ?_) ?_
  · skip
    refine g_iload_n dX11_asOut_2 rfl ?_
    refine g_iconst (v := 4) dX11_asOut_3 (by decide) ?_
    refine g_icmp_ge (tgt := 25) dX11_asOut_4 (by decide) (fun c4 => ?_) (fun c4 => ?_)
    · exact absurd (nI_lt hi (by decide)) (Int32.not_lt.mpr c4)
    · skip
      refine g_aload_n dX11_asOut_7 rfl ?_
      refine t_getR dX11_asOut_8 fl_X11_57 rfl (by decide) rfl (by decide) rfl ?_
      refine g_iload_n dX11_asOut_11 rfl ?_
      refine g_aload_n dX11_asOut_12 rfl ?_
      refine t_getR dX11_asOut_13 fl_X11_44 rfl (by decide) rfl (by decide) rfl ?_
      refine g_iload_n dX11_asOut_16 rfl ?_
      refine t_iald dX11_asOut_17 rfl (by decide) (in_nI hi (by decide)) ?_
      refine t_iast dX11_asOut_18 rfl (by decide) (in_nI hi (by decide)) ?_
      refine g_iinc dX11_asOut_19 rfl (by decide) ?_
      show Go _ _ _ _ _ _ [_, _] _ _ _
      refine g_goto (tgt := 2) dX11_asOut_22 (by decide) ?_
      rw [nI_inc, cl_nI (by omega), upR_n (a := 60) (by decide)]
      have e9 : upR (upR I 63 (foldN (fun (i : Nat) (g : Nat → Int32) => upd g i (I 60 i)) (I 63) i)) 63 (upd (upR I 63 (foldN (fun (i : Nat) (g : Nat → Int32) => upd g i (I 60 i)) (I 63) i) 63) i (I 60 i)) = upR I 63 (foldN (fun (i : Nat) (g : Nat → Int32) => upd g i (I 60 i)) (I 63) (i + 1)) := by
        funext q
        by_cases hq : q = 63
        · subst hq; rw [upR_s, upR_s, upR_s]; rfl
        · rw [upR_n hq, upR_n hq, upR_n hq]
      rw [e9]
      exact kk
  · skip
    refine g_iload_n dX11_asOut_2 rfl ?_
    refine g_iconst (v := 4) dX11_asOut_3 (by decide) ?_
    refine g_icmp_ge (tgt := 25) dX11_asOut_4 (by decide) (fun c4 => ?_) (fun c4 => ?_)
    · skip
      refine g_vret dX11_asOut_25 ?_
      exact ⟨_, rfl, fun p hp => hfold 4 p hp⟩
    · exact absurd (Int32.le_refl _) c4
theorem PcM.keep63 {P : Pce} {g : Nat → Int32} (h : PcM P I) : PcM P (upR I 63 g) := h.keep (by rw [upR_n (by decide)]) (by rw [upR_n (by decide)]) (upR_n (by decide)) (upR_n (by decide))
theorem OuV.of0 {g : Nat → Int32} (h : ∀ p, p < 4 → g p = 0) : OuV 63 (fun _ => 0) (upR I 63 g) := fun p hp => by rw [upR_s, h p hp]; rfl
theorem ct_plain {P : Pce} {x : Nat} (hP : PcM P I) (hO : PcOK P) (hx : x < P.2.1) : Ct X (d + 5) 66 M_X11_plain 66 [.ref 48, .int (nI x)] (I, J, rf0) (RI (fun y9 m => y9 = nI (hrS P (fun _ => 0) x) ∧ ∃ g, m = (upR I 63 g, J, rf0) ∧ ∀ p, p < 4 → g p = 0)) := by
  show Go _ _ _ _ _ _ [_, _] _ _ _
  refine g_aload_n dX11_plain_0 rfl ?_
  refine g_callVv dX11_plain_1 ln_X11_140 rfl rfl (by decide) ⟨_, _, rfl⟩ rfl (Nat.le_of_ble_eq_true rfl) (Nat.le_of_ble_eq_true rfl) ct_nobody rfl (fun m1 h1 => ?_)
  obtain ⟨g, rfl, hg⟩ := h1
  refine g_aload_n dX11_plain_4 rfl ?_
  refine g_iload_n dX11_plain_5 rfl ?_
  refine g_callVi dX11_plain_6 ln_X11_143 ⟨_, rfl⟩ rfl (by decide) ⟨_, _, rfl⟩ rfl (Nat.le_of_ble_eq_true rfl) (Nat.le_of_ble_eq_true rfl) (ct_hears hP.keep63 hO hx OuR0 (OuV.of0 hg)) rfl (fun r6 m6 h6 => ?_)
  obtain ⟨rfl, rfl⟩ := h6
  refine g_iret dX11_plain_9 (fun ty h => by cases h; rfl) ?_
  exact ⟨rfl, g, rfl, hg⟩
theorem ct_soundings {P : Pce} {x : Nat} (hP : PcM P I) (hO : PcOK P) (hx : x ≤ 20) : Ct X (d + 3) 66 M_X11_soundings 66 [.ref 48, .int (nI x)] (I, J, rf0) (RI (fun y9 m => y9 = nI (cntSnd P x) ∧ m = (I, J, rf0))) := by
  have h4 := hO.1
  show Go _ _ _ _ _ _ [_, _, _, _] _ _ _
  refine g_iconst (v := 0) dX11_soundings_0 (by decide) ?_
  refine g_istore_n dX11_soundings_1 (by decide) ?_
  show Go _ _ _ _ _ _ [_, _, _, _] _ _ _
  refine g_iconst (v := 0) dX11_soundings_2 (by decide) ?_
  refine g_istore_n dX11_soundings_3 (by decide) ?_
  show Go _ _ _ _ _ _ [_, _, _, _] _ _ _
  refine go_for (fun (p : Nat) (c : Nat) => if decide (0 ≤ sndS P p (x : Int)) then c + 1 else c) 0 P.1 (fun p c => Go X (d + 3) 66 M_X11_soundings 66 4 [.ref 48, .int (nI x), .int (nI c), .int (nI p)] [] (I, J, rf0) (RI (fun y9 m => y9 = nI (cntSnd P x) ∧ m = (I, J, rf0)))) (fun p hp kk => ?_) ?_
  · skip
    refine g_iload_n dX11_soundings_4 rfl ?_
    refine g_aload_n dX11_soundings_5 rfl ?_
    refine t_getI dX11_soundings_6 fl_X11_116 rfl (by decide) rfl (by decide) ?_
    rw [hP.1]
    refine g_icmp_ge (tgt := 36) dX11_soundings_9 (by decide) (fun c9 => ?_) (fun c9 => ?_)
    · exact absurd (nI_lt hp (by omega)) (Int32.not_lt.mpr c9)
    · skip
      refine g_iload_n dX11_soundings_12 rfl ?_
      refine g_aload_n dX11_soundings_13 rfl ?_
      refine g_iload_n dX11_soundings_14 rfl ?_
      refine g_iload_n dX11_soundings_15 rfl ?_
      refine g_iconst (v := 0) dX11_soundings_16 (by decide) ?_
      refine g_callVi dX11_soundings_17 ln_X11_129 ⟨_, rfl⟩ rfl (by decide) ⟨_, _, rfl⟩ rfl (Nat.le_of_ble_eq_true rfl) (Nat.le_of_ble_eq_true rfl) (ct_sounds (p := p) (x := x) (z := 0) hP hO hp hx (by omega)) rfl (fun r17 m17 h17 => ?_)
      obtain ⟨rfl, rfl⟩ := h17
      have hr := sndS_rng P hO p (x : Int)
      rw [Int.add_zero]
      refine g_if_lt (tgt := 27) dX11_soundings_20 (by decide) (fun c20 => ?_) (fun c20 => ?_)
      · skip
        refine g_iconst (v := 0) dX11_soundings_27 (by decide) ?_
        refine g_iadd dX11_soundings_28 ?_
        refine g_istore_n dX11_soundings_29 (by decide) ?_
        show Go _ _ _ _ _ _ [_, _, _, _] _ _ _
        refine g_iinc dX11_soundings_30 rfl (by decide) ?_
        show Go _ _ _ _ _ _ [_, _, _, _] _ _ _
        refine g_goto (tgt := 4) dX11_soundings_33 (by decide) ?_
        have e9 : foldN (fun (p : Nat) (c : Nat) => if decide (0 ≤ sndS P p (x : Int)) then c + 1 else c) 0 (p + 1) = if decide (0 ≤ sndS P p (x : Int)) then foldN (fun (p : Nat) (c : Nat) => if decide (0 ≤ sndS P p (x : Int)) then c + 1 else c) 0 p + 1 else foldN (fun (p : Nat) (c : Nat) => if decide (0 ≤ sndS P p (x : Int)) then c + 1 else c) 0 p := rfl
        rw [e9] at kk
        rw [nI_inc]
        first
          | (have q := (z_lt (a := sndS P p (x : Int)) (b := 0) (by omega) (by omega)).mp c20
             rw [decide_eq_false (by omega)] at kk
             rw [show (0 : Int32) = nI 0 from rfl, nI_add]
             exact kk)
          | (have q := (not_congr (z_lt (a := sndS P p (x : Int)) (b := 0) (by omega) (by omega))).mp c20
             rw [decide_eq_true (by omega)] at kk
             rw [show (1 : Int32) = nI 1 from rfl, nI_add]
             exact kk)
          | fail "no way"
      · skip
        refine g_iconst (v := 1) dX11_soundings_23 (by decide) ?_
        refine g_goto (tgt := 28) dX11_soundings_24 (by decide) ?_
        refine g_iadd dX11_soundings_28 ?_
        refine g_istore_n dX11_soundings_29 (by decide) ?_
        show Go _ _ _ _ _ _ [_, _, _, _] _ _ _
        refine g_iinc dX11_soundings_30 rfl (by decide) ?_
        show Go _ _ _ _ _ _ [_, _, _, _] _ _ _
        refine g_goto (tgt := 4) dX11_soundings_33 (by decide) ?_
        have e9 : foldN (fun (p : Nat) (c : Nat) => if decide (0 ≤ sndS P p (x : Int)) then c + 1 else c) 0 (p + 1) = if decide (0 ≤ sndS P p (x : Int)) then foldN (fun (p : Nat) (c : Nat) => if decide (0 ≤ sndS P p (x : Int)) then c + 1 else c) 0 p + 1 else foldN (fun (p : Nat) (c : Nat) => if decide (0 ≤ sndS P p (x : Int)) then c + 1 else c) 0 p := rfl
        rw [e9] at kk
        rw [nI_inc]
        first
          | (have q := (z_lt (a := sndS P p (x : Int)) (b := 0) (by omega) (by omega)).mp c20
             rw [decide_eq_false (by omega)] at kk
             rw [show (0 : Int32) = nI 0 from rfl, nI_add]
             exact kk)
          | (have q := (not_congr (z_lt (a := sndS P p (x : Int)) (b := 0) (by omega) (by omega))).mp c20
             rw [decide_eq_true (by omega)] at kk
             rw [show (1 : Int32) = nI 1 from rfl, nI_add]
             exact kk)
          | fail "no way"
  · skip
    refine g_iload_n dX11_soundings_4 rfl ?_
    refine g_aload_n dX11_soundings_5 rfl ?_
    refine t_getI dX11_soundings_6 fl_X11_116 rfl (by decide) rfl (by decide) ?_
    rw [hP.1]
    refine g_icmp_ge (tgt := 36) dX11_soundings_9 (by decide) (fun c9 => ?_) (fun c9 => ?_)
    · skip
      refine g_iload_n dX11_soundings_36 rfl ?_
      refine g_iret dX11_soundings_37 (fun ty h => by cases h; rfl) ?_
      exact ⟨rfl, rfl⟩
    · exact absurd (Int32.le_refl _) c9
theorem ct_ofPlace {P : Pce} {x w : Nat} (hP : PcM P I) (hO : PcOK P) (hx : x < P.2.1) (hw : w ≤ 2) : Ct X (d + 6) 66 M_X11_ofPlace 66 [.ref 48, .int (nI x), .int (nI w)] (I, J, rf0) (RI (fun y9 m => y9 = nI (tlS P x w) ∧ ∃ g, m = (upR I 63 g, J, rf0))) := by
  have h14 := hO.2.1
  have hid : (I, J, rf0) = (upR I 63 (I 63), J, rf0) := congrArg (fun z => (z, J, rf0)) (funext fun q => by
    by_cases hq : q = 63
    · subst hq; exact upR_s.symm
    · exact (upR_n hq).symm)
  show Go _ _ _ _ _ _ [_, _, _] _ _ _
  refine g_iload_n dX11_ofPlace_0 rfl ?_
  refine g_if_ne (tgt := 13) dX11_ofPlace_1 (by decide) (fun c1 => ?_) (fun c1 => ?_)
  · skip
    refine g_iload_n dX11_ofPlace_13 rfl ?_
    refine g_iconst (v := 1) dX11_ofPlace_14 (by decide) ?_
    refine g_icmp_ne (tgt := 26) dX11_ofPlace_15 (by decide) (fun c15 => ?_) (fun c15 => ?_)
    · skip
      refine g_aload_n dX11_ofPlace_26 rfl ?_
      refine g_iload_n dX11_ofPlace_27 rfl ?_
      refine g_callVi dX11_ofPlace_28 ln_X11_149 ⟨_, rfl⟩ rfl (by decide) ⟨_, _, rfl⟩ rfl (Nat.le_of_ble_eq_true rfl) (Nat.le_of_ble_eq_true rfl) (ct_soundings hP hO (by omega)) rfl (fun r28 m28 h28 => ?_)
      obtain ⟨rfl, rfl⟩ := h28
      refine g_iret dX11_ofPlace_31 (fun ty h => by cases h; rfl) ?_
      first
        | (have w0 : w = 0 := (nI_eq (by omega) (by decide)).mp (show nI w = nI 0 from c1)
           subst w0
           exact ⟨by rw [cl_nI (by omega)]; exact hP.2.2.1 x hx, _, hid⟩)
        | (have w1 : w = 1 := (nI_eq (by omega) (by decide)).mp (show nI w = nI 1 from c15)
           subst w1
           exact ⟨rfl, g, rfl⟩)
        | (have w0 : w ≠ 0 := fun q => c1 (by rw [q]; rfl)
           have w1 : w ≠ 1 := fun q => c15 (by rw [q]; rfl)
           refine ⟨?_, _, hid⟩
           unfold tlS
           rw [if_neg w0, if_neg w1])
        | fail "no way"
    · skip
      refine g_aload_n dX11_ofPlace_18 rfl ?_
      refine g_iload_n dX11_ofPlace_19 rfl ?_
      refine g_callVi dX11_ofPlace_20 ln_X11_146 ⟨_, rfl⟩ rfl (by decide) ⟨_, _, rfl⟩ rfl (Nat.le_of_ble_eq_true rfl) (Nat.le_of_ble_eq_true rfl) (ct_plain hP hO hx) rfl (fun r20 m20 h20 => ?_)
      obtain ⟨rfl, g, rfl, -⟩ := h20
      refine g_goto (tgt := 31) dX11_ofPlace_23 (by decide) ?_
      refine g_iret dX11_ofPlace_31 (fun ty h => by cases h; rfl) ?_
      first
        | (have w0 : w = 0 := (nI_eq (by omega) (by decide)).mp (show nI w = nI 0 from c1)
           subst w0
           exact ⟨by rw [cl_nI (by omega)]; exact hP.2.2.1 x hx, _, hid⟩)
        | (have w1 : w = 1 := (nI_eq (by omega) (by decide)).mp (show nI w = nI 1 from c15)
           subst w1
           exact ⟨rfl, g, rfl⟩)
        | (have w0 : w ≠ 0 := fun q => c1 (by rw [q]; rfl)
           have w1 : w ≠ 1 := fun q => c15 (by rw [q]; rfl)
           refine ⟨?_, _, hid⟩
           unfold tlS
           rw [if_neg w0, if_neg w1])
        | fail "no way"
  · skip
    refine g_aload_n dX11_ofPlace_4 rfl ?_
    refine t_getR dX11_ofPlace_5 fl_X11_26 rfl (by decide) rfl (by decide) rfl ?_
    refine g_iload_n dX11_ofPlace_8 rfl ?_
    refine t_iald dX11_ofPlace_9 rfl (by decide) (in_nI (by omega) (by decide)) ?_
    refine g_goto (tgt := 31) dX11_ofPlace_10 (by decide) ?_
    refine g_iret dX11_ofPlace_31 (fun ty h => by cases h; rfl) ?_
    first
      | (have w0 : w = 0 := (nI_eq (by omega) (by decide)).mp (show nI w = nI 0 from c1)
         subst w0
         exact ⟨by rw [cl_nI (by omega)]; exact hP.2.2.1 x hx, _, hid⟩)
      | (have w1 : w = 1 := (nI_eq (by omega) (by decide)).mp (show nI w = nI 1 from c15)
         subst w1
         exact ⟨rfl, g, rfl⟩)
      | (have w0 : w ≠ 0 := fun q => c1 (by rw [q]; rfl)
         have w1 : w ≠ 1 := fun q => c15 (by rw [q]; rfl)
         refine ⟨?_, _, hid⟩
         unfold tlS
         rw [if_neg w0, if_neg w1])
      | fail "no way"
end
