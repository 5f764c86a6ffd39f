section
variable {X : Nat × (Nat → Int32)} {d : Nat} {I : Nat → Nat → Int32} {J : Nat → Nat → Int64}
/-! ===== promises 32 to 36, model side ===== -/
theorem pop_s {P : Pce} (hO : PcOK P) {x c : Nat} : pop64 (mtF P x (c + 1)) = if (mtF P x c).testBit (hrS P (oC c) x) then pop64 (mtF P x c) else pop64 (mtF P x c) + 1 := pop_or (hrS_lt hO _ _)
theorem ct_tellsOf {P : Pce} (hP : PcM P I) (hO : PcOK P) {x : Nat} (hx : x < P.2.1) : Ct X (d + 5) 66 M_X11_tellsOf 66 [.ref 48, .int (nI x)] (I, J, rf0) (RI (fun y9 m => ∃ I', m = (I', J, rf0) ∧ Fr [63] I I' ∧ y9 = nI (tlN P x))) := by
  have h4 := hO.1
  have h625 := p5 h4
  show Go _ _ _ _ _ _ [_, _, _, _, _, _, _, _] _ _ _
  refine g_lconst (v := 0) dX11_tellsOf_0 (by decide) ?_
  refine g_lstore_n dX11_tellsOf_1 (by decide) ?_
  show Go _ _ _ _ _ _ [_, _, _, _, _, _, _, _] _ _ _
  refine g_iconst (v := 0) dX11_tellsOf_2 (by decide) ?_
  refine g_istore dX11_tellsOf_3 (by decide) ?_
  show Go _ _ _ _ _ _ [_, _, _, _, _, _, _, _] _ _ _
  refine g_iconst (v := 0) dX11_tellsOf_5 (by decide) ?_
  refine g_istore dX11_tellsOf_6 (by decide) ?_
  show Go _ _ _ _ _ _ [_, _, _, _, _, _, _, _] _ _ _
  refine (fun (key : ∀ n, n = pop64 (mtF P x 0) → Go X (d + 5) 66 M_X11_tellsOf 66 8 [.ref 48, .int (nI x), .long (lN (mtF P x 0)), .null, .int (nI n), .int (nI 0), .null, .null] [] (I, J, rf0) (RI (fun y9 m => ∃ I', m = (I', J, rf0) ∧ Fr [63] I I' ∧ y9 = nI (tlN P x)))) => key 0 (by show 0 = pop64 0; decide)) (fun n hn => ?_)
  rw [hn]
  refine go_mem (fun c I2 => Fr [63] I I2) (5 ^ P.1) (fun c I2 => Go X (d + 5) 66 M_X11_tellsOf 66 8 [.ref 48, .int (nI x), .long (lN (mtF P x c)), .null, .int (nI (pop64 (mtF P x c))), .int (nI c), .null, .null] [] (I2, J, rf0) (RI (fun y9 m => ∃ I', m = (I', J, rf0) ∧ Fr [63] I I' ∧ y9 = nI (tlN P x)))) (fun c I2 hc h9 kk => ?_) (fun I2 h9 => ?_) _ Fr.rf
  · skip
    refine g_iload dX11_tellsOf_8 rfl ?_
    refine g_aload_n dX11_tellsOf_10 rfl ?_
    refine g_callVi dX11_tellsOf_11 ln_X11_212 ⟨_, rfl⟩ rfl (by decide) ⟨_, _, rfl⟩ rfl (Nat.le_of_ble_eq_true rfl) (Nat.le_of_ble_eq_true rfl) (ct_outs (hP.scr h9) hO) rfl (fun r11 m11 h11 => ?_)
    obtain ⟨rfl, rfl⟩ := h11
    refine g_icmp_ge (tgt := 71) dX11_tellsOf_14 (by decide) (fun c14 => ?_) (fun c14 => ?_)
    · exact absurd (nI_lt hc (by omega)) (Int32.not_lt.mpr c14)
    · skip
      refine g_aload_n dX11_tellsOf_17 rfl ?_
      refine g_iload dX11_tellsOf_18 rfl ?_
      refine g_callVi dX11_tellsOf_20 ln_X11_209 ⟨_, rfl⟩ rfl (by decide) ⟨_, _, rfl⟩ rfl (Nat.le_of_ble_eq_true rfl) (Nat.le_of_ble_eq_true rfl) (ct_tries (c := c) (hP.scr h9) hO (by omega)) rfl (fun r20 m20 h20 => ?_)
      obtain ⟨rfl, I3, rfl, hf3, ho3⟩ := h20
      have h93 : Fr [63] I I3 := h9.trans hf3
      have hwp := wtC_pos c P.1
      have hw4 := wtC_le c P.1
      have hw5 := p4 h4
      refine g_istore dX11_tellsOf_23 (by decide) ?_
      show Go _ _ _ _ _ _ [_, _, _, _, _, _, _, _] _ _ _
      refine g_aload_n dX11_tellsOf_25 rfl ?_
      refine g_iload_n dX11_tellsOf_26 rfl ?_
      refine g_callVi dX11_tellsOf_27 ln_X11_143 ⟨_, rfl⟩ rfl (by decide) ⟨_, _, rfl⟩ rfl (Nat.le_of_ble_eq_true rfl) (Nat.le_of_ble_eq_true rfl) (ct_hears (x := x) (hP.scr h93) hO hx (oM_R P c) ho3) rfl (fun r27 m27 h27 => ?_)
      obtain ⟨rfl, rfl⟩ := h27
      rw [oM_h]
      have hh := hrS_lt hO (oC c) x
      refine g_istore dX11_tellsOf_30 (by decide) ?_
      show Go _ _ _ _ _ _ [_, _, _, _, _, _, _, _] _ _ _
      refine g_iload dX11_tellsOf_32 rfl ?_
      refine g_iload dX11_tellsOf_34 rfl ?_
      refine g_if_le (tgt := 54) dX11_tellsOf_36 (by decide) (fun c36 => ?_) (fun c36 => ?_)
      · exact absurd c36 (nI_nle hwp (by omega))
      · skip
        refine g_lload_n dX11_tellsOf_39 rfl ?_
        refine g_iload dX11_tellsOf_40 rfl ?_
        refine g_lshr dX11_tellsOf_42 ?_
        skip
        refine g_lconst (v := 1) dX11_tellsOf_43 (by decide) ?_
        refine g_land dX11_tellsOf_44 ?_
        rw [bitL (mtF_lt hO x c) hh]
        refine g_lconst (v := 0) dX11_tellsOf_45 (by decide) ?_
        refine g_lcmp dX11_tellsOf_46 ?_
        refine g_if_ne (tgt := 54) dX11_tellsOf_47 (by decide) (fun c47 => ?_) (fun c47 => ?_)
        · skip
          refine g_iconst (v := 0) dX11_tellsOf_54 (by decide) ?_
          refine g_iadd dX11_tellsOf_55 ?_
          refine g_istore dX11_tellsOf_56 (by decide) ?_
          show Go _ _ _ _ _ _ [_, _, _, _, _, _, _, _] _ _ _
          refine g_lload_n dX11_tellsOf_58 rfl ?_
          refine g_lconst (v := 1) dX11_tellsOf_59 (by decide) ?_
          refine g_iload dX11_tellsOf_60 rfl ?_
          refine g_lshl dX11_tellsOf_62 ?_
          rw [shl1L _ hh]
          refine g_lor dX11_tellsOf_63 ?_
          rw [or_lN]
          refine g_lstore_n dX11_tellsOf_64 (by decide) ?_
          show Go _ _ _ _ _ _ [_, _, _, _, _, _, _, _] _ _ _
          refine g_iinc dX11_tellsOf_65 rfl (by decide) ?_
          show Go _ _ _ _ _ _ [_, _, _, _, _, _, _, _] _ _ _
          refine g_goto (tgt := 8) dX11_tellsOf_68 (by decide) ?_
          refine g_forget 6 ?_
          refine g_forget 7 ?_
          show Go _ _ _ _ _ _ [_, _, _, _, _, _, _, _] _ _ _
          rw [nI_inc]
          rw [pop_s hO] at kk
          cases hb : (mtF P x c).testBit (hrS P (oC c) x) with
          | true =>
            rw [hb] at kk c47
            first
              | exact absurd ((lg_cmp_eq _ _).mp c47) (by decide)
              | (rw [show (0 : Int32) = nI 0 from rfl, nI_add]
                 exact kk _ h93)
              | fail "no way"
          | false =>
            rw [hb] at kk c47
            first
              | (rw [show (1 : Int32) = nI 1 from rfl, nI_add]
                 exact kk _ h93)
              | exact absurd ((lg_cmp_eq _ _).mpr rfl) c47
              | fail "no way"
        · skip
          refine g_iconst (v := 1) dX11_tellsOf_50 (by decide) ?_
          refine g_goto (tgt := 55) dX11_tellsOf_51 (by decide) ?_
          refine g_iadd dX11_tellsOf_55 ?_
          refine g_istore dX11_tellsOf_56 (by decide) ?_
          show Go _ _ _ _ _ _ [_, _, _, _, _, _, _, _] _ _ _
          refine g_lload_n dX11_tellsOf_58 rfl ?_
          refine g_lconst (v := 1) dX11_tellsOf_59 (by decide) ?_
          refine g_iload dX11_tellsOf_60 rfl ?_
          refine g_lshl dX11_tellsOf_62 ?_
          rw [shl1L _ hh]
          refine g_lor dX11_tellsOf_63 ?_
          rw [or_lN]
          refine g_lstore_n dX11_tellsOf_64 (by decide) ?_
          show Go _ _ _ _ _ _ [_, _, _, _, _, _, _, _] _ _ _
          refine g_iinc dX11_tellsOf_65 rfl (by decide) ?_
          show Go _ _ _ _ _ _ [_, _, _, _, _, _, _, _] _ _ _
          refine g_goto (tgt := 8) dX11_tellsOf_68 (by decide) ?_
          refine g_forget 6 ?_
          refine g_forget 7 ?_
          show Go _ _ _ _ _ _ [_, _, _, _, _, _, _, _] _ _ _
          rw [nI_inc]
          rw [pop_s hO] at kk
          cases hb : (mtF P x c).testBit (hrS P (oC c) x) with
          | true =>
            rw [hb] at kk c47
            first
              | exact absurd ((lg_cmp_eq _ _).mp c47) (by decide)
              | (rw [show (0 : Int32) = nI 0 from rfl, nI_add]
                 exact kk _ h93)
              | fail "no way"
          | false =>
            rw [hb] at kk c47
            first
              | (rw [show (1 : Int32) = nI 1 from rfl, nI_add]
                 exact kk _ h93)
              | exact absurd ((lg_cmp_eq _ _).mpr rfl) c47
              | fail "no way"
  · skip
    refine g_iload dX11_tellsOf_8 rfl ?_
    refine g_aload_n dX11_tellsOf_10 rfl ?_
    refine g_callVi dX11_tellsOf_11 ln_X11_212 ⟨_, rfl⟩ rfl (by decide) ⟨_, _, rfl⟩ rfl (Nat.le_of_ble_eq_true rfl) (Nat.le_of_ble_eq_true rfl) (ct_outs (hP.scr h9) hO) rfl (fun r11 m11 h11 => ?_)
    obtain ⟨rfl, rfl⟩ := h11
    refine g_icmp_ge (tgt := 71) dX11_tellsOf_14 (by decide) (fun c14 => ?_) (fun c14 => ?_)
    · skip
      refine g_iload dX11_tellsOf_71 rfl ?_
      refine g_iret dX11_tellsOf_73 (fun ty h => by cases h; rfl) ?_
      exact ⟨I2, rfl, h9, rfl⟩
    · exact absurd (Int32.le_refl _) c14
theorem ct_hidden {P : Pce} (hP : PcM P I) (hO : PcOK P) {p : Nat} {z : Int} (hp : p < P.1) (hz : -2 ≤ z ∧ z ≤ 2) : Ct X (d + 6) 66 M_X11_hidden 66 [.ref 48, .int (nI p), .int (zI z)] (I, J, rf0) (RI (fun y9 m => ∃ I', m = (I', J, rf0) ∧ Fr [63] I I' ∧ y9 = nI (hdF P p z P.2.1))) := by
  have h14 := hO.2.1
  have h4 := hO.1
  show Go _ _ _ _ _ _ [_, _, _, _, _, _] _ _ _
  refine g_iconst (v := 0) dX11_hidden_0 (by decide) ?_
  refine g_istore_n dX11_hidden_1 (by decide) ?_
  show Go _ _ _ _ _ _ [_, _, _, _, _, _] _ _ _
  refine g_iconst (v := 0) dX11_hidden_2 (by decide) ?_
  refine g_istore dX11_hidden_3 (by decide) ?_
  show Go _ _ _ _ _ _ [_, _, _, _, _, _] _ _ _
  refine go_mem (fun x I2 => Fr [63] I I2) P.2.1 (fun x I2 => Go X (d + 6) 66 M_X11_hidden 66 5 [.ref 48, .int (nI p), .int (zI z), .int (nI (hdF P p z x)), .int (nI x), .null] [] (I2, J, rf0) (RI (fun y9 m => ∃ I', m = (I', J, rf0) ∧ Fr [63] I I' ∧ y9 = nI (hdF P p z P.2.1)))) (fun x I2 hx h9 kk => ?_) (fun I2 h9 => ?_) _ Fr.rf
  · skip
    refine g_iload dX11_hidden_5 rfl ?_
    refine g_aload_n dX11_hidden_7 rfl ?_
    refine t_getI dX11_hidden_8 fl_X11_119 rfl (by decide) rfl (by decide) ?_
    rw [h9 48 (by decide), hP.2.1]
    refine g_icmp_ge (tgt := 57) dX11_hidden_11 (by decide) (fun c11 => ?_) (fun c11 => ?_)
    · exact absurd (nI_lt hx (by omega)) (Int32.not_lt.mpr c11)
    · skip
      refine g_aload_n dX11_hidden_14 rfl ?_
      refine g_iload dX11_hidden_15 rfl ?_
      refine g_callVi dX11_hidden_17 ln_X11_146 ⟨_, rfl⟩ rfl (by decide) ⟨_, _, rfl⟩ rfl (Nat.le_of_ble_eq_true rfl) (Nat.le_of_ble_eq_true rfl) (ct_plain (x := x) (hP.scr h9) hO hx) rfl (fun r17 m17 h17 => ?_)
      obtain ⟨rfl, g, rfl, hg⟩ := h17
      refine g_istore dX11_hidden_20 (by decide) ?_
      show Go _ _ _ _ _ _ [_, _, _, _, _, _] _ _ _
      refine g_aload_n dX11_hidden_22 rfl ?_
      refine t_getR dX11_hidden_23 fl_X11_57 rfl (by decide) rfl (by decide) rfl ?_
      refine g_iload_n dX11_hidden_26 rfl ?_
      refine g_iload_n dX11_hidden_27 rfl ?_
      refine t_iast dX11_hidden_28 rfl (by decide) (in_nI (by omega) (by decide)) ?_
      rw [cl_nI (by omega)]
      refine g_abs (fun I4 => Fr [63] I I4 ∧ OuV 63 (upR (fun _ => 0 : Nat → Int) p z) I4) ⟨(h9.up (by decide)).up (by decide), fun q hq => ?_⟩ (fun I4 h4b => ?_)
      · rw [upR_s]
        by_cases e : q = p
        · rw [e, pk_us, upR_s]
        · rw [pk_un e, upR_s, upR_n e, hg q hq]; rfl
      refine g_iload_n dX11_hidden_29 rfl ?_
      refine g_aload_n dX11_hidden_30 rfl ?_
      refine g_iload dX11_hidden_31 rfl ?_
      refine g_callVi dX11_hidden_33 ln_X11_143 ⟨_, rfl⟩ rfl (by decide) ⟨_, _, rfl⟩ rfl (Nat.le_of_ble_eq_true rfl) (Nat.le_of_ble_eq_true rfl) (ct_hears (o := upR (fun _ => 0 : Nat → Int) p z) (x := x) (hP.scr h4b.1) hO hx (OuR1 hz) h4b.2) rfl (fun r33 m33 h33 => ?_)
      obtain ⟨rfl, rfl⟩ := h33
      refine g_iload dX11_hidden_36 rfl ?_
      refine g_icmp_ne (tgt := 48) dX11_hidden_38 (by decide) (fun c38 => ?_) (fun c38 => ?_)
      · skip
        refine g_iconst (v := 0) dX11_hidden_48 (by decide) ?_
        refine g_ior dX11_hidden_49 ?_
        refine g_istore_n dX11_hidden_50 (by decide) ?_
        show Go _ _ _ _ _ _ [_, _, _, _, _, _] _ _ _
        refine g_iinc dX11_hidden_51 rfl (by decide) ?_
        show Go _ _ _ _ _ _ [_, _, _, _, _, _] _ _ _
        refine g_goto (tgt := 5) dX11_hidden_54 (by decide) ?_
        refine g_forget 5 ?_
        show Go _ _ _ _ _ _ [_, _, _, _, _, _] _ _ _
        rw [nI_inc]
        rw [hdF_s] at kk
        have b1 := hrS_lt hO (upR (fun _ => 0 : Nat → Int) p z) x
        have b2 := hrS_lt hO (fun _ => 0 : Nat → Int) x
        first
          | (rw [if_pos ((nI_eq (by omega) (by omega)).mp c38)] at kk
             rw [orbit (by omega)]
             exact kk _ h4b.1)
          | (rw [if_neg (fun q => c38 (by rw [q]))] at kk
             rw [show (0 : Int32) = nI 0 from rfl, or_nI, Nat.or_zero]
             exact kk _ h4b.1)
          | fail "no way"
      · skip
        refine g_iconst (v := 1) dX11_hidden_41 (by decide) ?_
        refine g_iload dX11_hidden_42 rfl ?_
        refine g_ishl dX11_hidden_44 ?_
        refine g_goto (tgt := 49) dX11_hidden_45 (by decide) ?_
        refine g_ior dX11_hidden_49 ?_
        refine g_istore_n dX11_hidden_50 (by decide) ?_
        show Go _ _ _ _ _ _ [_, _, _, _, _, _] _ _ _
        refine g_iinc dX11_hidden_51 rfl (by decide) ?_
        show Go _ _ _ _ _ _ [_, _, _, _, _, _] _ _ _
        refine g_goto (tgt := 5) dX11_hidden_54 (by decide) ?_
        refine g_forget 5 ?_
        show Go _ _ _ _ _ _ [_, _, _, _, _, _] _ _ _
        rw [nI_inc]
        rw [hdF_s] at kk
        have b1 := hrS_lt hO (upR (fun _ => 0 : Nat → Int) p z) x
        have b2 := hrS_lt hO (fun _ => 0 : Nat → Int) x
        first
          | (rw [if_pos ((nI_eq (by omega) (by omega)).mp c38)] at kk
             rw [orbit (by omega)]
             exact kk _ h4b.1)
          | (rw [if_neg (fun q => c38 (by rw [q]))] at kk
             rw [show (0 : Int32) = nI 0 from rfl, or_nI, Nat.or_zero]
             exact kk _ h4b.1)
          | fail "no way"
  · skip
    refine g_iload dX11_hidden_5 rfl ?_
    refine g_aload_n dX11_hidden_7 rfl ?_
    refine t_getI dX11_hidden_8 fl_X11_119 rfl (by decide) rfl (by decide) ?_
    rw [h9 48 (by decide), hP.2.1]
    refine g_icmp_ge (tgt := 57) dX11_hidden_11 (by decide) (fun c11 => ?_) (fun c11 => ?_)
    · skip
      refine g_iload_n dX11_hidden_57 rfl ?_
      refine g_iret dX11_hidden_58 (fun ty h => by cases h; rfl) ?_
      exact ⟨I2, rfl, h9, rfl⟩
    · exact absurd (Int32.le_refl _) c11
theorem ct_hiddenM1 {P : Pce} (hP : PcM P I) (hO : PcOK P) {p : Nat} (hp : p < P.1) : Ct X (d + 6) 66 M_X11_hidden 66 [.ref 48, .int (nI p), .int (-1)] (I, J, rf0) (RI (fun y9 m => ∃ I', m = (I', J, rf0) ∧ Fr [63] I I' ∧ y9 = nI (hdF P p (-1) P.2.1))) := by
  have := ct_hidden (X := X) (d := d) (J := J) (z := -1) hP hO hp (by decide)
  rwa [← z_m1] at this
def tdN (P : Pce) (s n : Nat) : Bool := decide (∀ p, p < n → nB s (hdF P p (-1) P.2.1) = true ∧ nB s (hdF P p 1 P.2.1) = true)
theorem tdN_mono {P : Pce} {s n m : Nat} (h : tdN P s n = false) (hnm : n ≤ m) : tdN P s m = false := bfalse (fun q => by
  have q2 : tdN P s n = true := decide_eq_true (fun p hp => (of_decide_eq_true q) p (by omega))
  rw [q2] at h; cases h)
theorem ct_isTold {P : Pce} (hP : PcM P I) (hO : PcOK P) {s : Nat} : Ct X (d + 7) 66 M_X11_isTold 66 [.ref 48, .int (nI s)] (I, J, rf0) (RI (fun y9 m => ∃ I', m = (I', J, rf0) ∧ Fr [63] I I' ∧ y9 = bI (tdB P s))) := by
  have h4 := hO.1
  show Go _ _ _ _ _ _ [_, _, _, _] _ _ _
  refine g_iconst (v := 1) dX11_isTold_0 (by decide) ?_
  refine g_istore_n dX11_isTold_1 (by decide) ?_
  show Go _ _ _ _ _ _ [_, _, _, _] _ _ _
  refine g_iconst (v := 0) dX11_isTold_2 (by decide) ?_
  refine g_istore_n dX11_isTold_3 (by decide) ?_
  show Go _ _ _ _ _ _ [_, _, _, _] _ _ _
  refine go_mem (fun p I2 => Fr [63] I I2) P.1 (fun p I2 => Go X (d + 7) 66 M_X11_isTold 66 4 [.ref 48, .int (nI s), .int (bI (tdN P s p)), .int (nI p)] [] (I2, J, rf0) (RI (fun y9 m => ∃ I', m = (I', J, rf0) ∧ Fr [63] I I' ∧ y9 = bI (tdB P s)))) (fun p I2 hp h9 kk => ?_) (fun I2 h9 => ?_) _ Fr.rf
  · skip
    refine g_iload_n dX11_isTold_4 rfl ?_
    refine g_aload_n dX11_isTold_5 rfl ?_
    refine t_getI dX11_isTold_6 fl_X11_116 rfl (by decide) rfl (by decide) ?_
    rw [h9 48 (by decide), hP.1]
    refine g_icmp_ge (tgt := 54) dX11_isTold_9 (by decide) (fun c9 => ?_) (fun c9 => ?_)
    · exact absurd (nI_lt hp (by omega)) (Int32.not_lt.mpr c9)
    · skip
      refine g_iload_n dX11_isTold_12 rfl ?_
      refine g_if_eq (tgt := 54) dX11_isTold_13 (by decide) (fun c13 => ?_) (fun c13 => ?_)
      · skip
        refine g_iload_n dX11_isTold_54 rfl ?_
        refine g_iret dX11_isTold_55 (fun ty h => by cases h; exact bI_narrow _) ?_
        refine ⟨I2, rfl, h9, ?_⟩
        first
          | rfl
          | (rw [show tdB P s = tdN P s P.1 from rfl, bI_eq c13, tdN_mono (bI_eq c13) (show p ≤ P.1 by omega)])
          | fail "no way"
      · skip
        refine g_iload_n dX11_isTold_16 rfl ?_
        refine g_aload_n dX11_isTold_17 rfl ?_
        refine g_iload_n dX11_isTold_18 rfl ?_
        refine g_iconst (v := -1) dX11_isTold_19 (by decide) ?_
        refine g_callVi dX11_isTold_20 ln_X11_235 ⟨_, rfl⟩ rfl (by decide) ⟨_, _, rfl⟩ rfl (Nat.le_of_ble_eq_true rfl) (Nat.le_of_ble_eq_true rfl) (ct_hiddenM1 (hP.scr h9) hO hp) rfl (fun r20 m20 h20 => ?_)
        obtain ⟨I3, rfl, hf3, rfl⟩ := h20
        have h93 := h9.trans hf3
        refine g_iconst (v := -1) dX11_isTold_23 (by decide) ?_
        refine g_ixor dX11_isTold_24 ?_
        refine g_iand dX11_isTold_25 ?_
        refine g_if_eq (tgt := 46) dX11_isTold_26 (by decide) (fun c26 => ?_) (fun c26 => ?_)
        · skip
          refine g_iconst (v := 0) dX11_isTold_46 (by decide) ?_
          refine g_istore_n dX11_isTold_47 (by decide) ?_
          show Go _ _ _ _ _ _ [_, _, _, _] _ _ _
          refine g_iinc dX11_isTold_48 rfl (by decide) ?_
          show Go _ _ _ _ _ _ [_, _, _, _] _ _ _
          refine g_goto (tgt := 4) dX11_isTold_51 (by decide) ?_
          rw [nI_inc]
          have hall := of_decide_eq_true (bI_ne c13)
          first
            | (rw [show tdN P s (p + 1) = true from decide_eq_true (fun i hi => by
                 rcases Nat.lt_or_ge i p with q | q
                 · exact hall i q
                 · rw [show i = p by omega]; exact ⟨decide_eq_true c26, decide_eq_true c39⟩)] at kk
               exact kk _ h95)
            | (rw [show tdN P s (p + 1) = false from decide_eq_false (fun q => of_decide_eq_true (q p (by omega)).2 c39)] at kk
               exact kk _ h95)
            | (rw [show tdN P s (p + 1) = false from decide_eq_false (fun q => of_decide_eq_true (q p (by omega)).1 c26)] at kk
               exact kk _ h93)
            | fail "no way"
        · skip
          refine g_iload_n dX11_isTold_29 rfl ?_
          refine g_aload_n dX11_isTold_30 rfl ?_
          refine g_iload_n dX11_isTold_31 rfl ?_
          refine g_iconst (v := 1) dX11_isTold_32 (by decide) ?_
          refine g_callVi dX11_isTold_33 ln_X11_235 ⟨_, rfl⟩ rfl (by decide) ⟨_, _, rfl⟩ rfl (Nat.le_of_ble_eq_true rfl) (Nat.le_of_ble_eq_true rfl) (ct_hidden (z := 1) (hP.scr h93) hO hp (by decide)) rfl (fun r33 m33 h33 => ?_)
          obtain ⟨I5, rfl, hf5, rfl⟩ := h33
          have h95 := h93.trans hf5
          refine g_iconst (v := -1) dX11_isTold_36 (by decide) ?_
          refine g_ixor dX11_isTold_37 ?_
          refine g_iand dX11_isTold_38 ?_
          refine g_if_eq (tgt := 46) dX11_isTold_39 (by decide) (fun c39 => ?_) (fun c39 => ?_)
          · skip
            refine g_iconst (v := 0) dX11_isTold_46 (by decide) ?_
            refine g_istore_n dX11_isTold_47 (by decide) ?_
            show Go _ _ _ _ _ _ [_, _, _, _] _ _ _
            refine g_iinc dX11_isTold_48 rfl (by decide) ?_
            show Go _ _ _ _ _ _ [_, _, _, _] _ _ _
            refine g_goto (tgt := 4) dX11_isTold_51 (by decide) ?_
            rw [nI_inc]
            have hall := of_decide_eq_true (bI_ne c13)
            first
              | (rw [show tdN P s (p + 1) = true from decide_eq_true (fun i hi => by
                   rcases Nat.lt_or_ge i p with q | q
                   · exact hall i q
                   · rw [show i = p by omega]; exact ⟨decide_eq_true c26, decide_eq_true c39⟩)] at kk
                 exact kk _ h95)
              | (rw [show tdN P s (p + 1) = false from decide_eq_false (fun q => of_decide_eq_true (q p (by omega)).2 c39)] at kk
                 exact kk _ h95)
              | (rw [show tdN P s (p + 1) = false from decide_eq_false (fun q => of_decide_eq_true (q p (by omega)).1 c26)] at kk
                 exact kk _ h93)
              | fail "no way"
          · skip
            refine g_iconst (v := 1) dX11_isTold_42 (by decide) ?_
            refine g_goto (tgt := 47) dX11_isTold_43 (by decide) ?_
            refine g_istore_n dX11_isTold_47 (by decide) ?_
            show Go _ _ _ _ _ _ [_, _, _, _] _ _ _
            refine g_iinc dX11_isTold_48 rfl (by decide) ?_
            show Go _ _ _ _ _ _ [_, _, _, _] _ _ _
            refine g_goto (tgt := 4) dX11_isTold_51 (by decide) ?_
            rw [nI_inc]
            have hall := of_decide_eq_true (bI_ne c13)
            first
              | (rw [show tdN P s (p + 1) = true from decide_eq_true (fun i hi => by
                   rcases Nat.lt_or_ge i p with q | q
                   · exact hall i q
                   · rw [show i = p by omega]; exact ⟨decide_eq_true c26, decide_eq_true c39⟩)] at kk
                 exact kk _ h95)
              | (rw [show tdN P s (p + 1) = false from decide_eq_false (fun q => of_decide_eq_true (q p (by omega)).2 c39)] at kk
                 exact kk _ h95)
              | (rw [show tdN P s (p + 1) = false from decide_eq_false (fun q => of_decide_eq_true (q p (by omega)).1 c26)] at kk
                 exact kk _ h93)
              | fail "no way"
  · skip
    refine g_iload_n dX11_isTold_4 rfl ?_
    refine g_aload_n dX11_isTold_5 rfl ?_
    refine t_getI dX11_isTold_6 fl_X11_116 rfl (by decide) rfl (by decide) ?_
    rw [h9 48 (by decide), hP.1]
    refine g_icmp_ge (tgt := 54) dX11_isTold_9 (by decide) (fun c9 => ?_) (fun c9 => ?_)
    · skip
      refine g_iload_n dX11_isTold_54 rfl ?_
      refine g_iret dX11_isTold_55 (fun ty h => by cases h; exact bI_narrow _) ?_
      refine ⟨I2, rfl, h9, ?_⟩
      first
        | rfl
        | (rw [show tdB P s = tdN P s P.1 from rfl, bI_eq c13, tdN_mono (bI_eq c13) (show p ≤ P.1 by omega)])
        | fail "no way"
    · exact absurd (Int32.le_refl _) c9
theorem pm_tells {rw tx : Tab} {P : Pce} {ds : List Deed} {sh : Shf} {tl : Int32} {ch : Int64 × Int64} {fn : Fnd} {x : Int32} (hA : AbsM rw tx P ds sh tl ch fn I J) (hO : StOK rw tx P ds sh) : Ct X (d + 6) 66 M_X11_tells 66 [.ref 48, .int x] (I, J, rf0) (RI (fun y9 m => ∃ I', m = (I', J, rf0) ∧ FrM I I' ∧ y9 = S_tells P x ∧ AbsM rw tx P ds sh tl ch fn I' J)) := by
  have hP := hA.2.2.1
  have hQ := hO.2.2.1
  have h14 := hQ.2.1
  have h4 := hQ.1
  show Go _ _ _ _ _ _ [_, _] _ _ _
  refine g_aload_n dX11_tells_0 rfl ?_
  refine g_iload_n dX11_tells_1 rfl ?_
  refine g_callVi dX11_tells_2 ln_X11_125 ⟨_, rfl⟩ rfl (by decide) ⟨_, _, rfl⟩ rfl (Nat.le_of_ble_eq_true rfl) (Nat.le_of_ble_eq_true rfl) (ct_isPlace hP hQ) rfl (fun r2 m2 h2 => ?_)
  obtain ⟨rfl, rfl⟩ := h2
  refine g_if_eq (tgt := 16) dX11_tells_5 (by decide) (fun c5 => ?_) (fun c5 => ?_)
  · skip
    refine g_iconst (v := -1) dX11_tells_16 (by decide) ?_
    refine g_iret dX11_tells_17 (fun ty h => by cases h; rfl) ?_
    first
      | exact ⟨_, rfl, FrM.rf, by unfold S_tells; rw [bI_eq c5]; rfl, hA⟩
      | exact ⟨I1, rfl, FrM.of hf1 (by decide), by unfold S_tells; rw [q1, cl_nI (by omega)]; rfl, hA.s63 hf1⟩
      | fail "no way"
  · skip
    have q1 := bI_ne c5
    obtain ⟨x, hx, rfl⟩ := inR_ix (by omega) q1
    refine g_aload_n dX11_tells_8 rfl ?_
    refine g_iload_n dX11_tells_9 rfl ?_
    refine g_callVi dX11_tells_10 ln_X11_232 ⟨_, rfl⟩ rfl (by decide) ⟨_, _, rfl⟩ rfl (Nat.le_of_ble_eq_true rfl) (Nat.le_of_ble_eq_true rfl) (ct_tellsOf hP hQ hx) rfl (fun r10 m10 h10 => ?_)
    obtain ⟨I1, rfl, hf1, rfl⟩ := h10
    refine g_goto (tgt := 17) dX11_tells_13 (by decide) ?_
    refine g_iret dX11_tells_17 (fun ty h => by cases h; rfl) ?_
    first
      | exact ⟨_, rfl, FrM.rf, by unfold S_tells; rw [bI_eq c5]; rfl, hA⟩
      | exact ⟨I1, rfl, FrM.of hf1 (by decide), by unfold S_tells; rw [q1, cl_nI (by omega)]; rfl, hA.s63 hf1⟩
      | fail "no way"
theorem pm_best {rw tx : Tab} {P : Pce} {ds : List Deed} {sh : Shf} {tl : Int32} {ch : Int64 × Int64} {fn : Fnd} (hA : AbsM rw tx P ds sh tl ch fn I J) (hO : StOK rw tx P ds sh) : Ct X (d + 6) 66 M_X11_best 66 [.ref 48] (I, J, rf0) (RI (fun y9 m => ∃ I', m = (I', J, rf0) ∧ FrM I I' ∧ y9 = (S_best P tl).1 ∧ AbsM rw tx P ds sh (S_best P tl).2 ch fn I' J)) := by
  have hP := hA.2.2.1
  have hQ := hO.2.2.1
  have h14 := hQ.2.1
  have h4 := hQ.1
  show Go _ _ _ _ _ _ [_, _, _, _, _] _ _ _
  refine g_aload_n dX11_best_0 rfl ?_
  refine t_getI dX11_best_1 fl_X11_119 rfl (by decide) rfl (by decide) ?_
  rw [hP.2.1]
  refine g_if_ne (tgt := 10) dX11_best_4 (by decide) (fun c4 => ?_) (fun c4 => ?_)
  · skip
    refine g_iconst (v := 0) dX11_best_10 (by decide) ?_
    refine g_istore_n dX11_best_11 (by decide) ?_
    show Go _ _ _ _ _ _ [_, _, _, _, _] _ _ _
    refine g_iconst (v := 0) dX11_best_12 (by decide) ?_
    refine g_istore_n dX11_best_13 (by decide) ?_
    show Go _ _ _ _ _ _ [_, _, _, _, _] _ _ _
    refine g_iconst (v := 0) dX11_best_14 (by decide) ?_
    refine g_istore_n dX11_best_15 (by decide) ?_
    show Go _ _ _ _ _ _ [_, _, _, _, _] _ _ _
    refine go_mem (fun x I2 => Fr [63] I I2) P.2.1 (fun x I2 => Go X (d + 6) 66 M_X11_best 66 16 [.ref 48, .int (nI (btF P x).1), .int (nI (btF P x).2), .int (nI x), .null] [] (I2, J, rf0) (RI (fun y9 m => ∃ I', m = (I', J, rf0) ∧ FrM I I' ∧ y9 = (S_best P tl).1 ∧ AbsM rw tx P ds sh (S_best P tl).2 ch fn I' J))) (fun x I2 hx h9 kk => ?_) (fun I2 h9 => ?_) _ Fr.rf
    · skip
      refine g_iload_n dX11_best_16 rfl ?_
      refine g_aload_n dX11_best_17 rfl ?_
      refine t_getI dX11_best_18 fl_X11_119 rfl (by decide) rfl (by decide) ?_
      rw [h9 48 (by decide), hP.2.1]
      refine g_icmp_ge (tgt := 62) dX11_best_21 (by decide) (fun c21 => ?_) (fun c21 => ?_)
      · exact absurd (nI_lt hx (by omega)) (Int32.not_lt.mpr c21)
      · skip
        refine g_aload_n dX11_best_24 rfl ?_
        refine g_iload_n dX11_best_25 rfl ?_
        refine g_callVi dX11_best_26 ln_X11_232 ⟨_, rfl⟩ rfl (by decide) ⟨_, _, rfl⟩ rfl (Nat.le_of_ble_eq_true rfl) (Nat.le_of_ble_eq_true rfl) (ct_tellsOf (x := x) (hP.scr h9) hQ hx) rfl (fun r26 m26 h26 => ?_)
        obtain ⟨I3, rfl, hf3, rfl⟩ := h26
        refine g_istore dX11_best_29 (by decide) ?_
        show Go _ _ _ _ _ _ [_, _, _, _, _] _ _ _
        refine g_iload dX11_best_31 rfl ?_
        refine g_iload_n dX11_best_33 rfl ?_
        refine g_icmp_le (tgt := 41) dX11_best_34 (by decide) (fun c34 => ?_) (fun c34 => ?_)
        · skip
          refine g_iload_n dX11_best_41 rfl ?_
          refine g_istore_n dX11_best_42 (by decide) ?_
          show Go _ _ _ _ _ _ [_, _, _, _, _] _ _ _
          refine g_iload dX11_best_43 rfl ?_
          refine g_iload_n dX11_best_45 rfl ?_
          refine g_icmp_le (tgt := 54) dX11_best_46 (by decide) (fun c46 => ?_) (fun c46 => ?_)
          · skip
            refine g_iload_n dX11_best_54 rfl ?_
            refine g_istore_n dX11_best_55 (by decide) ?_
            show Go _ _ _ _ _ _ [_, _, _, _, _] _ _ _
            refine g_iinc dX11_best_56 rfl (by decide) ?_
            show Go _ _ _ _ _ _ [_, _, _, _, _] _ _ _
            refine g_goto (tgt := 16) dX11_best_59 (by decide) ?_
            refine g_forget 4 ?_
            show Go _ _ _ _ _ _ [_, _, _, _, _] _ _ _
            rw [nI_inc]
            rw [btF_s] at kk
            have b1 := btF_le P x
            have b2 := tlN_le P x
            first
              | exact absurd c34 c46
              | exact absurd c46 c34
              | (rw [if_pos ((nI_ltI (by omega) (by omega)).mp (Int32.not_le.mp c34))] at kk
                 exact kk _ (h9.trans hf3))
              | (rw [if_neg (fun q => absurd (nI_lt q (by omega)) (Int32.not_lt.mpr c34))] at kk
                 exact kk _ (h9.trans hf3))
              | fail "no way"
          · skip
            refine g_iload dX11_best_49 rfl ?_
            refine g_goto (tgt := 55) dX11_best_51 (by decide) ?_
            refine g_istore_n dX11_best_55 (by decide) ?_
            show Go _ _ _ _ _ _ [_, _, _, _, _] _ _ _
            refine g_iinc dX11_best_56 rfl (by decide) ?_
            show Go _ _ _ _ _ _ [_, _, _, _, _] _ _ _
            refine g_goto (tgt := 16) dX11_best_59 (by decide) ?_
            refine g_forget 4 ?_
            show Go _ _ _ _ _ _ [_, _, _, _, _] _ _ _
            rw [nI_inc]
            rw [btF_s] at kk
            have b1 := btF_le P x
            have b2 := tlN_le P x
            first
              | exact absurd c34 c46
              | exact absurd c46 c34
              | (rw [if_pos ((nI_ltI (by omega) (by omega)).mp (Int32.not_le.mp c34))] at kk
                 exact kk _ (h9.trans hf3))
              | (rw [if_neg (fun q => absurd (nI_lt q (by omega)) (Int32.not_lt.mpr c34))] at kk
                 exact kk _ (h9.trans hf3))
              | fail "no way"
        · skip
          refine g_iload_n dX11_best_37 rfl ?_
          refine g_goto (tgt := 42) dX11_best_38 (by decide) ?_
          refine g_istore_n dX11_best_42 (by decide) ?_
          show Go _ _ _ _ _ _ [_, _, _, _, _] _ _ _
          refine g_iload dX11_best_43 rfl ?_
          refine g_iload_n dX11_best_45 rfl ?_
          refine g_icmp_le (tgt := 54) dX11_best_46 (by decide) (fun c46 => ?_) (fun c46 => ?_)
          · skip
            refine g_iload_n dX11_best_54 rfl ?_
            refine g_istore_n dX11_best_55 (by decide) ?_
            show Go _ _ _ _ _ _ [_, _, _, _, _] _ _ _
            refine g_iinc dX11_best_56 rfl (by decide) ?_
            show Go _ _ _ _ _ _ [_, _, _, _, _] _ _ _
            refine g_goto (tgt := 16) dX11_best_59 (by decide) ?_
            refine g_forget 4 ?_
            show Go _ _ _ _ _ _ [_, _, _, _, _] _ _ _
            rw [nI_inc]
            rw [btF_s] at kk
            have b1 := btF_le P x
            have b2 := tlN_le P x
            first
              | exact absurd c34 c46
              | exact absurd c46 c34
              | (rw [if_pos ((nI_ltI (by omega) (by omega)).mp (Int32.not_le.mp c34))] at kk
                 exact kk _ (h9.trans hf3))
              | (rw [if_neg (fun q => absurd (nI_lt q (by omega)) (Int32.not_lt.mpr c34))] at kk
                 exact kk _ (h9.trans hf3))
              | fail "no way"
          · skip
            refine g_iload dX11_best_49 rfl ?_
            refine g_goto (tgt := 55) dX11_best_51 (by decide) ?_
            refine g_istore_n dX11_best_55 (by decide) ?_
            show Go _ _ _ _ _ _ [_, _, _, _, _] _ _ _
            refine g_iinc dX11_best_56 rfl (by decide) ?_
            show Go _ _ _ _ _ _ [_, _, _, _, _] _ _ _
            refine g_goto (tgt := 16) dX11_best_59 (by decide) ?_
            refine g_forget 4 ?_
            show Go _ _ _ _ _ _ [_, _, _, _, _] _ _ _
            rw [nI_inc]
            rw [btF_s] at kk
            have b1 := btF_le P x
            have b2 := tlN_le P x
            first
              | exact absurd c34 c46
              | exact absurd c46 c34
              | (rw [if_pos ((nI_ltI (by omega) (by omega)).mp (Int32.not_le.mp c34))] at kk
                 exact kk _ (h9.trans hf3))
              | (rw [if_neg (fun q => absurd (nI_lt q (by omega)) (Int32.not_lt.mpr c34))] at kk
                 exact kk _ (h9.trans hf3))
              | fail "no way"
    · skip
      refine g_iload_n dX11_best_16 rfl ?_
      refine g_aload_n dX11_best_17 rfl ?_
      refine t_getI dX11_best_18 fl_X11_119 rfl (by decide) rfl (by decide) ?_
      rw [h9 48 (by decide), hP.2.1]
      refine g_icmp_ge (tgt := 62) dX11_best_21 (by decide) (fun c21 => ?_) (fun c21 => ?_)
      · skip
        refine g_aload_n dX11_best_62 rfl ?_
        refine g_iload_n dX11_best_63 rfl ?_
        refine g_iload_n dX11_best_64 rfl ?_
        refine g_callVi dX11_best_65 ln_X11_84 ⟨_, rfl⟩ rfl (by decide) ⟨_, _, rfl⟩ rfl (Nat.le_of_ble_eq_true rfl) (Nat.le_of_ble_eq_true rfl) ct_asks rfl (fun r65 m65 h65 => ?_)
        obtain ⟨rfl, rfl⟩ := h65
        refine g_iret dX11_best_68 (fun ty h => by cases h; rfl) ?_
        have hS : S_best P tl = (nI (btF P P.2.1).1, nI (btF P P.2.1).2) := by unfold S_best; rw [if_neg (show ¬ P.2.1 = 0 from fun q => c4 (by rw [q]; rfl))]
        exact ⟨_, rfl, (FrM.of h9 (by decide)).up (by decide), by rw [hS], by rw [hS]; exact (hA.s63 h9).told⟩
      · exact absurd (Int32.le_refl _) c21
  · skip
    refine g_bipush (v := -4) dX11_best_7 (by decide) ?_
    refine g_iret dX11_best_9 (fun ty h => by cases h; rfl) ?_
    have h0 : P.2.1 = 0 := (nI_eq (by omega) (by decide)).mp (show nI P.2.1 = nI 0 from c4)
    have hS : S_best P tl = (-4, tl) := by unfold S_best; rw [if_pos h0]
    exact ⟨_, rfl, FrM.rf, by rw [hS], by rw [hS]; exact hA⟩
theorem inJ_22e {e : Int32} : inJ e.toInt64 (-2) 2 = decide (-2 ≤ e.toInt ∧ e.toInt ≤ 2) := by
  have z1 : (-2 : Int64).toInt = -2 := by decide
  have z2 : (2 : Int64).toInt = 2 := by decide
  unfold inJ
  exact decide_eq_decide.mpr (by rw [Int64.le_iff_toInt_le, Int64.le_iff_toInt_le, Int32.toInt_toInt64, z1, z2])
theorem pm_hides {rw tx : Tab} {P : Pce} {ds : List Deed} {sh : Shf} {tl : Int32} {ch : Int64 × Int64} {fn : Fnd} {p e : Int32} (hA : AbsM rw tx P ds sh tl ch fn I J) (hO : StOK rw tx P ds sh) : Ct X (d + 7) 66 M_X11_hides 66 [.ref 48, .int p, .int e] (I, J, rf0) (RI (fun y9 m => ∃ I', m = (I', J, rf0) ∧ FrM I I' ∧ y9 = S_hides P p e ∧ AbsM rw tx P ds sh tl ch fn I' J)) := by
  have hP := hA.2.2.1
  have hQ := hO.2.2.1
  have h14 := hQ.2.1
  have h4 := hQ.1
  show Go _ _ _ _ _ _ [_, _, _] _ _ _
  refine g_aload_n dX11_hides_0 rfl ?_
  refine g_iload_n dX11_hides_1 rfl ?_
  refine g_callVi dX11_hides_2 ln_X11_157 ⟨_, rfl⟩ rfl (by decide) ⟨_, _, rfl⟩ rfl (Nat.le_of_ble_eq_true rfl) (Nat.le_of_ble_eq_true rfl) (ct_isPlayer hP hQ) rfl (fun r2 m2 h2 => ?_)
  obtain ⟨rfl, rfl⟩ := h2
  refine g_if_eq (tgt := 26) dX11_hides_5 (by decide) (fun c5 => ?_) (fun c5 => ?_)
  · skip
    refine g_iconst (v := -1) dX11_hides_26 (by decide) ?_
    refine g_goto (tgt := 36) dX11_hides_27 (by decide) ?_
    refine g_iret dX11_hides_36 (fun ty h => by cases h; rfl) ?_
    first
      | (refine ⟨_, rfl, FrM.rf, ?_, hA⟩
         unfold S_hides
         first
           | (rw [bI_eq c5]; rfl)
           | (rw [bI_eq c19, Bool.false_and, Bool.and_false]; rfl)
           | (rw [show decide (¬ e = 0) = false from decide_eq_false (not_not_intro c23), Bool.and_false, Bool.and_false]; rfl))
      | (refine ⟨I1, rfl, FrM.of hf1 (by decide), ?_, hA.s63 hf1⟩
         unfold S_hides
         rw [q1, z_int (by omega), decide_eq_true hz, decide_eq_true (show ¬ zI z = 0 by rw [← hez]; exact c23), cl_nI (by omega)]
         rfl)
      | fail "no way"
  · skip
    refine g_iload_n dX11_hides_8 rfl ?_
    refine g_i2l dX11_hides_9 ?_
    refine g_ldc2 dX11_hides_10 tb_1251 ?_
    refine g_ldc2 dX11_hides_13 tb_1187 ?_
    refine g_callSi dX11_hides_16 ln_X11_76 ⟨_, rfl⟩ rfl (Nat.le_of_ble_eq_true rfl) (Nat.le_of_ble_eq_true rfl) ct_in rfl (fun r16 m16 h16 => ?_)
    obtain ⟨rfl, rfl⟩ := h16
    rw [inJ_22e]
    refine g_if_eq (tgt := 26) dX11_hides_19 (by decide) (fun c19 => ?_) (fun c19 => ?_)
    · skip
      refine g_iconst (v := -1) dX11_hides_26 (by decide) ?_
      refine g_goto (tgt := 36) dX11_hides_27 (by decide) ?_
      refine g_iret dX11_hides_36 (fun ty h => by cases h; rfl) ?_
      first
        | (refine ⟨_, rfl, FrM.rf, ?_, hA⟩
           unfold S_hides
           first
             | (rw [bI_eq c5]; rfl)
             | (rw [bI_eq c19, Bool.false_and, Bool.and_false]; rfl)
             | (rw [show decide (¬ e = 0) = false from decide_eq_false (not_not_intro c23), Bool.and_false, Bool.and_false]; rfl))
        | (refine ⟨I1, rfl, FrM.of hf1 (by decide), ?_, hA.s63 hf1⟩
           unfold S_hides
           rw [q1, z_int (by omega), decide_eq_true hz, decide_eq_true (show ¬ zI z = 0 by rw [← hez]; exact c23), cl_nI (by omega)]
           rfl)
        | fail "no way"
    · skip
      refine g_iload_n dX11_hides_22 rfl ?_
      refine g_if_ne (tgt := 30) dX11_hides_23 (by decide) (fun c23 => ?_) (fun c23 => ?_)
      · skip
        have q1 := bI_ne c5
        obtain ⟨p, hp, rfl⟩ := inR_ix (by omega) q1
        have hz := of_decide_eq_true (bI_ne c19)
        obtain ⟨z, hze⟩ : ∃ z, z = e.toInt := ⟨_, rfl⟩
        rw [← hze] at hz
        have hez : e = zI z := by rw [hze, zI_i]
        rw [hez]
        show Go _ _ _ _ _ _ [_, _, .int (zI z)] _ _ _
        refine g_aload_n dX11_hides_30 rfl ?_
        refine g_iload_n dX11_hides_31 rfl ?_
        refine g_iload_n dX11_hides_32 rfl ?_
        refine g_callVi dX11_hides_33 ln_X11_235 ⟨_, rfl⟩ rfl (by decide) ⟨_, _, rfl⟩ rfl (Nat.le_of_ble_eq_true rfl) (Nat.le_of_ble_eq_true rfl) (ct_hidden hP hQ hp hz) rfl (fun r33 m33 h33 => ?_)
        obtain ⟨I1, rfl, hf1, rfl⟩ := h33
        refine g_iret dX11_hides_36 (fun ty h => by cases h; rfl) ?_
        first
          | (refine ⟨_, rfl, FrM.rf, ?_, hA⟩
             unfold S_hides
             first
               | (rw [bI_eq c5]; rfl)
               | (rw [bI_eq c19, Bool.false_and, Bool.and_false]; rfl)
               | (rw [show decide (¬ e = 0) = false from decide_eq_false (not_not_intro c23), Bool.and_false, Bool.and_false]; rfl))
          | (refine ⟨I1, rfl, FrM.of hf1 (by decide), ?_, hA.s63 hf1⟩
             unfold S_hides
             rw [q1, z_int (by omega), decide_eq_true hz, decide_eq_true (show ¬ zI z = 0 by rw [← hez]; exact c23), cl_nI (by omega)]
             rfl)
          | fail "no way"
      · skip
        refine g_iconst (v := -1) dX11_hides_26 (by decide) ?_
        refine g_goto (tgt := 36) dX11_hides_27 (by decide) ?_
        refine g_iret dX11_hides_36 (fun ty h => by cases h; rfl) ?_
        first
          | (refine ⟨_, rfl, FrM.rf, ?_, hA⟩
             unfold S_hides
             first
               | (rw [bI_eq c5]; rfl)
               | (rw [bI_eq c19, Bool.false_and, Bool.and_false]; rfl)
               | (rw [show decide (¬ e = 0) = false from decide_eq_false (not_not_intro c23), Bool.and_false, Bool.and_false]; rfl))
          | (refine ⟨I1, rfl, FrM.of hf1 (by decide), ?_, hA.s63 hf1⟩
             unfold S_hides
             rw [q1, z_int (by omega), decide_eq_true hz, decide_eq_true (show ¬ zI z = 0 by rw [← hez]; exact c23), cl_nI (by omega)]
             rfl)
          | fail "no way"
theorem lsP_0 {P : Pce} {k s : Nat} : lsP P 0 k s = (decide (popN s = k) && tdB P s) := by unfold lsP; rw [Nat.zero_or]
theorem lsR_no {P : Pce} {be k : Nat} (h : ∀ s, s < 2 ^ be → lsP P 0 k s = false) : lsR P 0 be k = none := by unfold lsR lsF; rw [fstN_none h]; rfl
theorem lsR_yes {P : Pce} {be k s : Nat} (hs : s < 2 ^ be) (h1 : lsP P 0 k s = true) (h : ∀ j, j < s → lsP P 0 k j = false) : lsR P 0 be k = some s := by unfold lsR lsF; rw [fstN_some h1 h hs]; show some (0 ||| s) = _; rw [Nat.zero_or]
theorem popN_le (s : Nat) : popN s ≤ 14 := cntP_le _ 14
theorem pm_fewest {rw tx : Tab} {P : Pce} {ds : List Deed} {sh : Shf} {tl : Int32} {ch : Int64 × Int64} {fn : Fnd} (hA : AbsM rw tx P ds sh tl ch fn I J) (hO : StOK rw tx P ds sh) : Ct X (d + 8) 66 M_X11_fewest 66 [.ref 48] (I, J, rf0) (RI (fun y9 m => ∃ I', m = (I', J, rf0) ∧ FrM I I' ∧ y9 = (S_fewest P tl).1 ∧ AbsM rw tx P ds sh (S_fewest P tl).2 ch fn I' J)) := by
  have hP := hA.2.2.1
  have hQ := hO.2.2.1
  have h14 := hQ.2.1
  have h4 := hQ.1
  have h2p : 2 ^ P.2.1 ≤ 16384 := Nat.pow_le_pow_right (n := 2) (by decide) h14
  show Go _ _ _ _ _ _ [_, _, _] _ _ _
  refine g_aload_n dX11_fewest_0 rfl ?_
  refine t_getI dX11_fewest_1 fl_X11_119 rfl (by decide) rfl (by decide) ?_
  rw [hP.2.1]
  refine g_if_ne (tgt := 10) dX11_fewest_4 (by decide) (fun c4 => ?_) (fun c4 => ?_)
  · skip
    refine g_iconst (v := 1) dX11_fewest_10 (by decide) ?_
    refine g_istore_n dX11_fewest_11 (by decide) ?_
    show Go _ _ _ _ _ _ [_, _, _] _ _ _
    refine go_mem (fun i I4 => Fr [63] I I4 ∧ ∀ j, j < i → lsR P 0 P.2.1 (j + 1) = none) 3 (fun i I4 => Go X (d + 8) 66 M_X11_fewest 66 12 [.ref 48, .int (nI (i + 1)), .null] [] (I4, J, rf0) (RI (fun y9 m => ∃ I', m = (I', J, rf0) ∧ FrM I I' ∧ y9 = (S_fewest P tl).1 ∧ AbsM rw tx P ds sh (S_fewest P tl).2 ch fn I' J))) (fun i I4 hi h8 kk2 => ?_) (fun I4 h8 => ?_) _ ⟨Fr.rf, fun q hq => absurd hq (Nat.not_lt_zero q)⟩
    · skip
      refine g_iload_n dX11_fewest_12 rfl ?_
      refine g_iconst (v := 4) dX11_fewest_13 (by decide) ?_
      refine g_icmp_ge (tgt := 64) dX11_fewest_14 (by decide) (fun c14 => ?_) (fun c14 => ?_)
      · exact absurd (nI_lt (show i + 1 < 4 by omega) (by decide)) (Int32.not_lt.mpr c14)
      · skip
        refine g_iconst (v := 0) dX11_fewest_17 (by decide) ?_
        refine g_istore_n dX11_fewest_18 (by decide) ?_
        show Go _ _ _ _ _ _ [_, _, _] _ _ _
        refine (fun (key : ∀ I5, Fr [63] I I5 ∧ (∀ s, s < 0 → lsP P 0 (i + 1) s = false) → Go X (d + 8) 66 M_X11_fewest 66 19 [.ref 48, .int (nI (i + 1)), .int (nI 0)] [] (I5, J, rf0) (RI (fun y9 m => ∃ I', m = (I', J, rf0) ∧ FrM I I' ∧ y9 = (S_fewest P tl).1 ∧ AbsM rw tx P ds sh (S_fewest P tl).2 ch fn I' J))) => key _ ⟨h8.1, fun s hs => absurd hs (Nat.not_lt_zero s)⟩) (fun I5 h5 => ?_)
        refine go_mem (fun s I2 => Fr [63] I I2 ∧ ∀ t, t < s → lsP P 0 (i + 1) t = false) (2 ^ P.2.1) (fun s I2 => Go X (d + 8) 66 M_X11_fewest 66 19 [.ref 48, .int (nI (i + 1)), .int (nI s)] [] (I2, J, rf0) (RI (fun y9 m => ∃ I', m = (I', J, rf0) ∧ FrM I I' ∧ y9 = (S_fewest P tl).1 ∧ AbsM rw tx P ds sh (S_fewest P tl).2 ch fn I' J))) (fun s I2 hs h9b kk => ?_) (fun I2 h9b => ?_) _ h5
        · obtain ⟨h9, hno⟩ := h9b
          refine g_iload_n dX11_fewest_19 rfl ?_
          refine g_iconst (v := 1) dX11_fewest_20 (by decide) ?_
          refine g_aload_n dX11_fewest_21 rfl ?_
          refine t_getI dX11_fewest_22 fl_X11_119 rfl (by decide) rfl (by decide) ?_
          rw [h9 48 (by decide), hP.2.1]
          refine g_ishl dX11_fewest_25 ?_
          rw [shl1 _ (by omega)]
          refine g_icmp_ge (tgt := 58) dX11_fewest_26 (by decide) (fun c26 => ?_) (fun c26 => ?_)
          · exact absurd (nI_lt hs (by omega)) (Int32.not_lt.mpr c26)
          · skip
            refine g_iload_n dX11_fewest_29 rfl ?_
            refine g_callSi dX11_fewest_30 ln_X11_173 ⟨_, rfl⟩ rfl (Nat.le_of_ble_eq_true rfl) (Nat.le_of_ble_eq_true rfl) (ct_bits (by omega)) rfl (fun r30 m30 h30 => ?_)
            obtain ⟨rfl, rfl⟩ := h30
            refine g_iload_n dX11_fewest_33 rfl ?_
            refine g_icmp_ne (tgt := 52) dX11_fewest_34 (by decide) (fun c34 => ?_) (fun c34 => ?_)
            · skip
              refine g_iinc dX11_fewest_52 rfl (by decide) ?_
              show Go _ _ _ _ _ _ [_, _, _] _ _ _
              refine g_goto (tgt := 19) dX11_fewest_55 (by decide) ?_
              rw [nI_inc]
              have hpl := popN_le s
              first
                | (have hne : ¬ popN s = i + 1 := fun q => c34 (by rw [q])
                   exact kk _ ⟨h9, fun t ht => by
                     rcases Nat.lt_or_ge t s with q1 | q1
                     · exact hno t q1
                     · rw [show t = s by omega, lsP_0, decide_eq_false hne]; rfl⟩)
                | (exact kk _ ⟨h93, fun t ht => by
                     rcases Nat.lt_or_ge t s with q1 | q1
                     · exact hno t q1
                     · rw [show t = s by omega, lsP_0, bI_eq c42, Bool.and_false]⟩)
                | fail "no way"
            · skip
              refine g_aload_n dX11_fewest_37 rfl ?_
              refine g_iload_n dX11_fewest_38 rfl ?_
              refine g_callVi dX11_fewest_39 ln_X11_238 ⟨_, rfl⟩ rfl (by decide) ⟨_, _, rfl⟩ rfl (Nat.le_of_ble_eq_true rfl) (Nat.le_of_ble_eq_true rfl) (ct_isTold (s := s) (hP.scr h9) hQ) rfl (fun r39 m39 h39 => ?_)
              obtain ⟨I3, rfl, hf3, rfl⟩ := h39
              have h93 := h9.trans hf3
              refine g_if_eq (tgt := 52) dX11_fewest_42 (by decide) (fun c42 => ?_) (fun c42 => ?_)
              · skip
                refine g_iinc dX11_fewest_52 rfl (by decide) ?_
                show Go _ _ _ _ _ _ [_, _, _] _ _ _
                refine g_goto (tgt := 19) dX11_fewest_55 (by decide) ?_
                rw [nI_inc]
                have hpl := popN_le s
                first
                  | (have hne : ¬ popN s = i + 1 := fun q => c34 (by rw [q])
                     exact kk _ ⟨h9, fun t ht => by
                       rcases Nat.lt_or_ge t s with q1 | q1
                       · exact hno t q1
                       · rw [show t = s by omega, lsP_0, decide_eq_false hne]; rfl⟩)
                  | (exact kk _ ⟨h93, fun t ht => by
                       rcases Nat.lt_or_ge t s with q1 | q1
                       · exact hno t q1
                       · rw [show t = s by omega, lsP_0, bI_eq c42, Bool.and_false]⟩)
                  | fail "no way"
              · skip
                refine g_aload_n dX11_fewest_45 rfl ?_
                refine g_iload_n dX11_fewest_46 rfl ?_
                refine g_iload_n dX11_fewest_47 rfl ?_
                refine g_callVi dX11_fewest_48 ln_X11_84 ⟨_, rfl⟩ rfl (by decide) ⟨_, _, rfl⟩ rfl (Nat.le_of_ble_eq_true rfl) (Nat.le_of_ble_eq_true rfl) ct_asks rfl (fun r48 m48 h48 => ?_)
                obtain ⟨rfl, rfl⟩ := h48
                refine g_iret dX11_fewest_51 (fun ty h => by cases h; rfl) ?_
                have hpl := popN_le s
                have heq : popN s = i + 1 := (nI_eq (by omega) (by omega)).mp c34
                have hS := few_at (tl := tl) (show ¬ P.2.1 = 0 from fun q => c4 (by rw [q]; rfl)) hi h8.2 (lsR_yes hs (by rw [lsP_0, decide_eq_true heq, bI_ne c42]; rfl) hno)
                exact ⟨_, rfl, (FrM.of h93 (by decide)).up (by decide), by rw [hS], by rw [hS]; exact (hA.s63 h93).told⟩
        · obtain ⟨h9, hno⟩ := h9b
          refine g_iload_n dX11_fewest_19 rfl ?_
          refine g_iconst (v := 1) dX11_fewest_20 (by decide) ?_
          refine g_aload_n dX11_fewest_21 rfl ?_
          refine t_getI dX11_fewest_22 fl_X11_119 rfl (by decide) rfl (by decide) ?_
          rw [h9 48 (by decide), hP.2.1]
          refine g_ishl dX11_fewest_25 ?_
          rw [shl1 _ (by omega)]
          refine g_icmp_ge (tgt := 58) dX11_fewest_26 (by decide) (fun c26 => ?_) (fun c26 => ?_)
          · skip
            refine g_iinc dX11_fewest_58 rfl (by decide) ?_
            show Go _ _ _ _ _ _ [_, _, _] _ _ _
            refine g_goto (tgt := 12) dX11_fewest_61 (by decide) ?_
            refine g_forget 2 ?_
            show Go _ _ _ _ _ _ [_, _, _] _ _ _
            rw [nI_inc]
            exact kk2 _ ⟨h9, fun j hj => by
              rcases Nat.lt_or_ge j i with q1 | q1
              · exact h8.2 j q1
              · rw [show j = i by omega]; exact lsR_no hno⟩
          · exact absurd (Int32.le_refl _) c26
    · skip
      refine g_iload_n dX11_fewest_12 rfl ?_
      refine g_iconst (v := 4) dX11_fewest_13 (by decide) ?_
      refine g_icmp_ge (tgt := 64) dX11_fewest_14 (by decide) (fun c14 => ?_) (fun c14 => ?_)
      · skip
        refine g_bipush (v := -9) dX11_fewest_64 (by decide) ?_
        refine g_iret dX11_fewest_66 (fun ty h => by cases h; rfl) ?_
        have hS := few_no (tl := tl) (show ¬ P.2.1 = 0 from fun q => c4 (by rw [q]; rfl)) h8.2
        exact ⟨_, rfl, FrM.of h8.1 (by decide), by rw [hS], by rw [hS]; exact hA.s63 h8.1⟩
      · exact absurd (by decide) c14
  · skip
    refine g_bipush (v := -4) dX11_fewest_7 (by decide) ?_
    refine g_iret dX11_fewest_9 (fun ty h => by cases h; rfl) ?_
    have h0 : P.2.1 = 0 := (nI_eq (by omega) (by decide)).mp (show nI P.2.1 = nI 0 from c4)
    have hS : S_fewest P tl = (-4, tl) := by unfold S_fewest; rw [if_pos h0]
    exact ⟨_, rfl, FrM.rf, by rw [hS], by rw [hS]; exact hA⟩
theorem pm_modern {rw tx : Tab} {P : Pce} {ds : List Deed} {sh : Shf} {tl : Int32} {ch : Int64 × Int64} {fn : Fnd} (hA : AbsM rw tx P ds sh tl ch fn I J) (hO : StOK rw tx P ds sh) : Ct X (d + 6) 66 M_X11_modern 66 [.ref 48] (I, J, rf0) (RI (fun y9 m => ∃ I', m = (I', J, rf0) ∧ FrM I I' ∧ y9 = (S_modern P).1 ∧ AbsM rw tx P ds sh (S_modern P).2 ch fn I' J)) := by
  have hP := hA.2.2.1
  have hQ := hO.2.2.1
  have h14 := hQ.2.1
  have h4 := hQ.1
  show Go _ _ _ _ _ _ [_, _, _, _] _ _ _
  refine g_iconst (v := 0) dX11_modern_0 (by decide) ?_
  refine g_istore_n dX11_modern_1 (by decide) ?_
  show Go _ _ _ _ _ _ [_, _, _, _] _ _ _
  refine g_iconst (v := 0) dX11_modern_2 (by decide) ?_
  refine g_istore_n dX11_modern_3 (by decide) ?_
  show Go _ _ _ _ _ _ [_, _, _, _] _ _ _
  refine g_iconst (v := 0) dX11_modern_4 (by decide) ?_
  refine g_istore_n dX11_modern_5 (by decide) ?_
  show Go _ _ _ _ _ _ [_, _, _, _] _ _ _
  refine go_mem (fun x I2 => Fr [63] I I2) P.2.1 (fun x I2 => Go X (d + 6) 66 M_X11_modern 66 6 [.ref 48, .int (nI (mdF P x).1), .int (nI (mdF P x).2), .int (nI x)] [] (I2, J, rf0) (RI (fun y9 m => ∃ I', m = (I', J, rf0) ∧ FrM I I' ∧ y9 = (S_modern P).1 ∧ AbsM rw tx P ds sh (S_modern P).2 ch fn I' J))) (fun x I2 hx h9 kk => ?_) (fun I2 h9 => ?_) _ Fr.rf
  · skip
    refine g_iload_n dX11_modern_6 rfl ?_
    refine g_aload_n dX11_modern_7 rfl ?_
    refine t_getI dX11_modern_8 fl_X11_119 rfl (by decide) rfl (by decide) ?_
    rw [h9 48 (by decide), hP.2.1]
    refine g_icmp_ge (tgt := 57) dX11_modern_11 (by decide) (fun c11 => ?_) (fun c11 => ?_)
    · exact absurd (nI_lt hx (by omega)) (Int32.not_lt.mpr c11)
    · skip
      refine g_aload_n dX11_modern_14 rfl ?_
      refine g_iload_n dX11_modern_15 rfl ?_
      refine g_callVi dX11_modern_16 ln_X11_146 ⟨_, rfl⟩ rfl (by decide) ⟨_, _, rfl⟩ rfl (Nat.le_of_ble_eq_true rfl) (Nat.le_of_ble_eq_true rfl) (ct_plain (x := x) (hP.scr h9) hQ hx) rfl (fun r16 m16 h16 => ?_)
      obtain ⟨rfl, g, rfl, hg⟩ := h16
      have h9g : Fr [63] I (upR I2 63 g) := h9.up (by decide)
      refine g_if_eq (tgt := 51) dX11_modern_19 (by decide) (fun c19 => ?_) (fun c19 => ?_)
      · skip
        refine g_iinc dX11_modern_51 rfl (by decide) ?_
        show Go _ _ _ _ _ _ [_, _, _, _] _ _ _
        refine g_goto (tgt := 6) dX11_modern_54 (by decide) ?_
        rw [nI_inc]
        rw [mdF_s] at kk
        have b1 := hrS_lt hQ (upR (fun _ => 0 : Nat → Int) 0 (-1)) x
        have b2 := hrS_lt hQ (fun _ => 0 : Nat → Int) x
        first
          | (rw [if_pos ((nI_eq (by omega) (by decide)).mp (show nI (hrS P (fun _ => 0 : Nat → Int) x) = nI 0 from c19))] at kk
             exact kk _ h9g)
          | (rw [if_neg (show ¬ hrS P (fun _ => 0 : Nat → Int) x = 0 from fun q => c19 (by rw [q]; rfl))] at kk
             first
               | (rw [if_pos ((nI_eq (by omega) (by decide)).mp (show nI (hrS P (upR (fun _ => 0 : Nat → Int) 0 (-1)) x) = nI 0 from c41))] at kk
                  rw [show (1 : Int32) = nI 1 from rfl, nI_add]
                  exact kk _ h4b.1)
               | (rw [if_neg (show ¬ hrS P (upR (fun _ => 0 : Nat → Int) 0 (-1)) x = 0 from fun q => c41 (by rw [q]; rfl))] at kk
                  rw [show (0 : Int32) = nI 0 from rfl, nI_add]
                  exact kk _ h4b.1))
          | fail "no way"
      · skip
        refine g_iload_n dX11_modern_22 rfl ?_
        refine g_iconst (v := 1) dX11_modern_23 (by decide) ?_
        refine g_iload_n dX11_modern_24 rfl ?_
        refine g_ishl dX11_modern_25 ?_
        refine g_ior dX11_modern_26 ?_
        rw [orbit (by omega)]
        refine g_istore_n dX11_modern_27 (by decide) ?_
        show Go _ _ _ _ _ _ [_, _, _, _] _ _ _
        refine g_aload_n dX11_modern_28 rfl ?_
        refine t_getR dX11_modern_29 fl_X11_57 rfl (by decide) rfl (by decide) rfl ?_
        refine g_iconst (v := 0) dX11_modern_32 (by decide) ?_
        refine g_iconst (v := -1) dX11_modern_33 (by decide) ?_
        refine t_iast dX11_modern_34 rfl (by decide) (in_nI (j := 0) (by decide) (by decide)) ?_
        rw [show (0 : Int32).toNatClampNeg = 0 by decide]
        refine g_abs (fun I4 => Fr [63] I I4 ∧ OuV 63 (upR (fun _ => 0 : Nat → Int) 0 (-1)) I4) ⟨h9g.up (by decide), fun q hq => ?_⟩ (fun I4 h4b => ?_)
        · rw [upR_s]
          by_cases e : q = 0
          · rw [e, pk_us, upR_s]; exact z_m1
          · rw [pk_un e, upR_s, upR_n e, hg q hq]; rfl
        refine g_iload_n dX11_modern_35 rfl ?_
        refine g_aload_n dX11_modern_36 rfl ?_
        refine g_iload_n dX11_modern_37 rfl ?_
        refine g_callVi dX11_modern_38 ln_X11_143 ⟨_, rfl⟩ rfl (by decide) ⟨_, _, rfl⟩ rfl (Nat.le_of_ble_eq_true rfl) (Nat.le_of_ble_eq_true rfl) (ct_hears (o := upR (fun _ => 0 : Nat → Int) 0 (-1)) (x := x) (hP.scr h4b.1) hQ hx (OuR1 (by decide)) h4b.2) rfl (fun r38 m38 h38 => ?_)
        obtain ⟨rfl, rfl⟩ := h38
        refine g_if_ne (tgt := 48) dX11_modern_41 (by decide) (fun c41 => ?_) (fun c41 => ?_)
        · skip
          refine g_iconst (v := 0) dX11_modern_48 (by decide) ?_
          refine g_iadd dX11_modern_49 ?_
          refine g_istore_n dX11_modern_50 (by decide) ?_
          show Go _ _ _ _ _ _ [_, _, _, _] _ _ _
          refine g_iinc dX11_modern_51 rfl (by decide) ?_
          show Go _ _ _ _ _ _ [_, _, _, _] _ _ _
          refine g_goto (tgt := 6) dX11_modern_54 (by decide) ?_
          rw [nI_inc]
          rw [mdF_s] at kk
          have b1 := hrS_lt hQ (upR (fun _ => 0 : Nat → Int) 0 (-1)) x
          have b2 := hrS_lt hQ (fun _ => 0 : Nat → Int) x
          first
            | (rw [if_pos ((nI_eq (by omega) (by decide)).mp (show nI (hrS P (fun _ => 0 : Nat → Int) x) = nI 0 from c19))] at kk
               exact kk _ h9g)
            | (rw [if_neg (show ¬ hrS P (fun _ => 0 : Nat → Int) x = 0 from fun q => c19 (by rw [q]; rfl))] at kk
               first
                 | (rw [if_pos ((nI_eq (by omega) (by decide)).mp (show nI (hrS P (upR (fun _ => 0 : Nat → Int) 0 (-1)) x) = nI 0 from c41))] at kk
                    rw [show (1 : Int32) = nI 1 from rfl, nI_add]
                    exact kk _ h4b.1)
                 | (rw [if_neg (show ¬ hrS P (upR (fun _ => 0 : Nat → Int) 0 (-1)) x = 0 from fun q => c41 (by rw [q]; rfl))] at kk
                    rw [show (0 : Int32) = nI 0 from rfl, nI_add]
                    exact kk _ h4b.1))
            | fail "no way"
        · skip
          refine g_iconst (v := 1) dX11_modern_44 (by decide) ?_
          refine g_goto (tgt := 49) dX11_modern_45 (by decide) ?_
          refine g_iadd dX11_modern_49 ?_
          refine g_istore_n dX11_modern_50 (by decide) ?_
          show Go _ _ _ _ _ _ [_, _, _, _] _ _ _
          refine g_iinc dX11_modern_51 rfl (by decide) ?_
          show Go _ _ _ _ _ _ [_, _, _, _] _ _ _
          refine g_goto (tgt := 6) dX11_modern_54 (by decide) ?_
          rw [nI_inc]
          rw [mdF_s] at kk
          have b1 := hrS_lt hQ (upR (fun _ => 0 : Nat → Int) 0 (-1)) x
          have b2 := hrS_lt hQ (fun _ => 0 : Nat → Int) x
          first
            | (rw [if_pos ((nI_eq (by omega) (by decide)).mp (show nI (hrS P (fun _ => 0 : Nat → Int) x) = nI 0 from c19))] at kk
               exact kk _ h9g)
            | (rw [if_neg (show ¬ hrS P (fun _ => 0 : Nat → Int) x = 0 from fun q => c19 (by rw [q]; rfl))] at kk
               first
                 | (rw [if_pos ((nI_eq (by omega) (by decide)).mp (show nI (hrS P (upR (fun _ => 0 : Nat → Int) 0 (-1)) x) = nI 0 from c41))] at kk
                    rw [show (1 : Int32) = nI 1 from rfl, nI_add]
                    exact kk _ h4b.1)
                 | (rw [if_neg (show ¬ hrS P (upR (fun _ => 0 : Nat → Int) 0 (-1)) x = 0 from fun q => c41 (by rw [q]; rfl))] at kk
                    rw [show (0 : Int32) = nI 0 from rfl, nI_add]
                    exact kk _ h4b.1))
            | fail "no way"
  · skip
    refine g_iload_n dX11_modern_6 rfl ?_
    refine g_aload_n dX11_modern_7 rfl ?_
    refine t_getI dX11_modern_8 fl_X11_119 rfl (by decide) rfl (by decide) ?_
    rw [h9 48 (by decide), hP.2.1]
    refine g_icmp_ge (tgt := 57) dX11_modern_11 (by decide) (fun c11 => ?_) (fun c11 => ?_)
    · skip
      refine g_aload_n dX11_modern_57 rfl ?_
      refine g_iload_n dX11_modern_58 rfl ?_
      refine g_iload_n dX11_modern_59 rfl ?_
      refine g_callVi dX11_modern_60 ln_X11_84 ⟨_, rfl⟩ rfl (by decide) ⟨_, _, rfl⟩ rfl (Nat.le_of_ble_eq_true rfl) (Nat.le_of_ble_eq_true rfl) ct_asks rfl (fun r60 m60 h60 => ?_)
      obtain ⟨rfl, rfl⟩ := h60
      refine g_iret dX11_modern_63 (fun ty h => by cases h; rfl) ?_
      exact ⟨_, rfl, (FrM.of h9 (by decide)).up (by decide), rfl, (hA.s63 h9).told⟩
    · exact absurd (Int32.le_refl _) c11
end
