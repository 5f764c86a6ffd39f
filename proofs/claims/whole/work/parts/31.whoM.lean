section
variable {X : Nat × (Nat → Int32)} {d : Nat} {I : Nat → Nat → Int32} {J : Nat → Nat → Int64}
/-! ===== promises 26 to 31 and 42, model side ===== -/
theorem hrS_congr {P : Pce} {o o' : Nat → Int} (h : ∀ p, p < P.1 → o p = o' p) (x : Nat) : hrS P o x = hrS P o' x := by
  have e : ∀ a, sndS P a ((x : Int) + o a) = sndS P a ((x : Int) + o' a) := fun a => by
    by_cases ha : a < P.1
    · rw [h a ha]
    · unfold sndS
      rw [if_neg (fun q => ha q.1), if_neg (fun q => ha q.1)]
  unfold hrS hrK
  congr 2
  funext a b
  rw [e a, e b]
def oM (P : Pce) (c p : Nat) : Int := if p < P.1 then oC c p else 0
theorem oM_R (P : Pce) (c : Nat) : OuR (oM P c) := fun p hp => by
  unfold oM
  split
  · exact oC_R c p hp
  · exact ⟨by decide, by decide⟩
theorem oM_h {P : Pce} {c x : Nat} : hrS P (oM P c) x = hrS P (oC c) x := hrS_congr (fun p hp => if_pos hp) x
theorem oC_1 {c p : Nat} : zI (oC c p) = 1 ↔ dC c p = 3 := by
  have := dC_lt c p
  rw [show (1 : Int32) = zI 1 from rfl, z_eq (by unfold oC; omega) (by omega)]
  unfold oC
  omega
theorem oC_m1 {c p : Nat} : zI (oC c p) = -1 ↔ dC c p = 1 := by
  have := dC_lt c p
  rw [z_m1, z_eq (by unfold oC; omega) (by omega)]
  unfold oC
  omega
def TrV (P : Pce) (c : Nat) (I : Nat → Nat → Int32) : Prop := OuV 63 (oM P c) I
theorem TrV.at {P : Pce} {c p : Nat} (h : TrV P c I) (h4 : P.1 ≤ 4) (hp : p < P.1) : I 63 p = zI (oC c p) := by
  rw [h p (by omega)]; unfold oM; rw [if_pos hp]
theorem PcM.scr {P : Pce} {I' : Nat → Nat → Int32} (h : PcM P I) (hf : Fr [63] I I') : PcM P I' := h.keep (by rw [hf 48 (by decide)]) (by rw [hf 48 (by decide)]) (hf 54 (by decide)) (hf 55 (by decide))
theorem EsM.scr {s : Evs} {I' : Nat → Nat → Int32} (h : EsM s I) (hf : Fr [63] I I') : EsM s I' := ⟨by rw [hf 48 (by decide)]; exact h.1, by rw [hf 48 (by decide)]; exact h.2.1, by rw [hf 48 (by decide)]; exact h.2.2.1, h.2.2.2.1.keep (hf 60 (by decide)), fun t ht => by rw [hf 61 (by decide)]; exact h.2.2.2.2 t ht⟩
theorem AbsM.s63 {rw tx : Tab} {P : Pce} {ds : List Deed} {sh : Shf} {tl : Int32} {ch : Int64 × Int64} {fn : Fnd} {I' : Nat → Nat → Int32} (h : AbsM rw tx P ds sh tl ch fn I J) (hf : Fr [63] I I') : AbsM rw tx P ds sh tl ch fn I' J := h.scr (hf.mono (by decide))
theorem AbsM.chs {rw tx : Tab} {P : Pce} {ds : List Deed} {sh : Shf} {tl : Int32} {ch : Int64 × Int64} {fn : Fnd} {c2 : Int64 × Int64} {J' : Nat → Nat → Int64} (h : AbsM rw tx P ds sh tl ch fn I J) (h1 : J' 48 21 = c2.1) (h2 : J' 48 22 = c2.2) : AbsM rw tx P ds sh tl c2 fn I J' := ⟨h.1, h.2.1, h.2.2.1, h.2.2.2.1, h.2.2.2.2.1, h.2.2.2.2.2.1, ⟨h1, h2⟩, h.2.2.2.2.2.2.2⟩
theorem smF_add (f g : Nat → Nat) : ∀ n, smF f n + smF g n = smF (fun i => f i + g i) n
  | 0 => rfl
  | n + 1 => by
    rw [smF_s, smF_s, smF_s, ← smF_add f g n]
    omega
theorem smF_congr {f g : Nat → Nat} : ∀ {n : Nat}, (∀ i, i < n → f i = g i) → smF f n = smF g n
  | 0, _ => rfl
  | n + 1, h => by rw [smF_s, smF_s, smF_congr (n := n) (fun i hi => h i (by omega)), h n (by omega)]
def upO (P : Pce) (s : Evs) (p c : Nat) : Nat := if dC c p = 2 then 0 else fW P s c
theorem upO_w (P : Pce) (s : Evs) (p : Nat) : smF (upO P s p) (5 ^ P.1) = wO P s p := by
  have h := smF_add (upO P s p) (wE P s p 2) (5 ^ P.1)
  have e9 : smF (fun i => upO P s p i + wE P s p 2 i) (5 ^ P.1) = smF (fW P s) (5 ^ P.1) := smF_congr (fun i _ => by show upO P s p i + wE P s p 2 i = _; unfold upO wE; split <;> omega)
  rw [e9] at h
  unfold wO
  omega
def upS (P : Pce) (s : Evs) (p c : Nat) : Nat := if cntO c P.1 = 0 then 0 else wE P s p 2 c
theorem upS_w {P : Pce} {s : Evs} {p : Nat} (hp : p < P.1) : smF (upS P s p) (5 ^ P.1) = smF (wE P s p 2) (5 ^ P.1) - smF (nobW P s) (5 ^ P.1) := by
  have h := smF_add (upS P s p) (nobW P s) (5 ^ P.1)
  have e9 : smF (fun i => upS P s p i + nobW P s i) (5 ^ P.1) = smF (wE P s p 2) (5 ^ P.1) := smF_congr (fun i _ => by
    show upS P s p i + nobW P s i = _
    unfold upS nobW
    by_cases h0 : cntO i P.1 = 0
    · have := Decidable.of_not_not (of_decide_eq_false (cntP_zero h0 p hp))
      rw [if_pos h0, if_pos h0]; unfold wE; rw [if_pos this]; omega
    · rw [if_neg h0, if_neg h0]; rfl)
  rw [e9] at h
  omega
theorem ct_outs {P : Pce} (hP : PcM P I) (hO : PcOK P) : Ct X d 66 M_X11_outs 66 [.ref 48] (I, J, rf0) (RI (fun y9 m => y9 = nI (5 ^ P.1) ∧ m = (I, J, rf0))) := by
  have h4 := hO.1
  show Go _ _ _ _ _ _ [_, _, _] _ _ _
  refine g_iconst (v := 1) dX11_outs_0 (by decide) ?_
  refine g_istore_n dX11_outs_1 (by decide) ?_
  show Go _ _ _ _ _ _ [_, _, _] _ _ _
  refine g_iconst (v := 0) dX11_outs_2 (by decide) ?_
  refine g_istore_n dX11_outs_3 (by decide) ?_
  show Go _ _ _ _ _ _ [_, _, _] _ _ _
  refine go_ix P.1 (fun p => Go X d 66 M_X11_outs 66 4 [.ref 48, .int (nI (5 ^ p)), .int (nI p)] [] (I, J, rf0) (RI (fun y9 m => y9 = nI (5 ^ P.1) ∧ m = (I, J, rf0)))) (fun p hp kk => ?_) ?_
  · skip
    refine g_iload_n dX11_outs_4 rfl ?_
    refine g_aload_n dX11_outs_5 rfl ?_
    refine t_getI dX11_outs_6 fl_X11_116 rfl (by decide) rfl (by decide) ?_
    rw [hP.1]
    refine g_icmp_ge (tgt := 22) dX11_outs_9 (by decide) (fun c9 => ?_) (fun c9 => ?_)
    · exact absurd (nI_lt hp (by omega)) (Int32.not_lt.mpr c9)
    · skip
      refine g_iload_n dX11_outs_12 rfl ?_
      refine g_iconst (v := 5) dX11_outs_13 (by decide) ?_
      refine g_imul dX11_outs_14 ?_
      refine g_istore_n dX11_outs_15 (by decide) ?_
      show Go _ _ _ _ _ _ [_, _, _] _ _ _
      refine g_iinc dX11_outs_16 rfl (by decide) ?_
      show Go _ _ _ _ _ _ [_, _, _] _ _ _
      refine g_goto (tgt := 4) dX11_outs_19 (by decide) ?_
      rw [nI_inc, show (5 : Int32) = nI 5 from rfl, pk_mul]
      exact kk
  · skip
    refine g_iload_n dX11_outs_4 rfl ?_
    refine g_aload_n dX11_outs_5 rfl ?_
    refine t_getI dX11_outs_6 fl_X11_116 rfl (by decide) rfl (by decide) ?_
    rw [hP.1]
    refine g_icmp_ge (tgt := 22) dX11_outs_9 (by decide) (fun c9 => ?_) (fun c9 => ?_)
    · skip
      refine g_iload_n dX11_outs_22 rfl ?_
      refine g_iret dX11_outs_23 (fun ty h => by cases h; rfl) ?_
      exact ⟨rfl, rfl⟩
    · exact absurd (Int32.le_refl _) c9
theorem ct_tries {P : Pce} (hP : PcM P I) (hO : PcOK P) {c : Nat} (hc : c < 625) : Ct X (d + 1) 66 M_X11_tries 66 [.ref 48, .int (nI c)] (I, J, rf0) (RI (fun y9 m => y9 = nI (wtC P.1 c) ∧ ∃ I', m = (I', J, rf0) ∧ Fr [63] I I' ∧ TrV P c I')) := by
  have h4 := hO.1
  show Go _ _ _ _ _ _ [_, _, _, _, _] _ _ _
  refine g_iload_n dX11_tries_0 rfl ?_
  refine g_istore_n dX11_tries_1 (by decide) ?_
  show Go _ _ _ _ _ _ [_, _, _, _, _] _ _ _
  refine g_iconst (v := 1) dX11_tries_2 (by decide) ?_
  refine g_istore_n dX11_tries_3 (by decide) ?_
  show Go _ _ _ _ _ _ [_, _, _, _, _] _ _ _
  refine g_aload_n dX11_tries_4 rfl ?_
  refine g_callVv dX11_tries_5 ln_X11_140 rfl rfl (by decide) ⟨_, _, rfl⟩ rfl (Nat.le_of_ble_eq_true rfl) (Nat.le_of_ble_eq_true rfl) ct_nobody rfl (fun m5 h5 => ?_)
  obtain ⟨g, rfl, hg⟩ := h5
  refine g_iconst (v := 0) dX11_tries_8 (by decide) ?_
  refine g_istore dX11_tries_9 (by decide) ?_
  show Go _ _ _ _ _ _ [_, _, _, _, _] _ _ _
  refine (fun (key : Go X (d + 1) 66 M_X11_tries 66 11 [.ref 48, .int (nI c), .int (nI (c / 5 ^ 0)), .int (nI (wtC 0 c)), .int (nI 0)] [] (upR I 63 g, J, rf0) (RI (fun y9 m => y9 = nI (wtC P.1 c) ∧ ∃ I', m = (I', J, rf0) ∧ Fr [63] I I' ∧ TrV P c I'))) => ?_) ?_
  · rw [Nat.pow_zero, Nat.div_one] at key; exact key
  refine go_mem (fun p I2 => Fr [63] I I2 ∧ (∀ q, q < p → I2 63 q = zI (oC c q)) ∧ ∀ q, p ≤ q → q < 4 → I2 63 q = 0) P.1 (fun p I2 => Go X (d + 1) 66 M_X11_tries 66 11 [.ref 48, .int (nI c), .int (nI (c / 5 ^ p)), .int (nI (wtC p c)), .int (nI p)] [] (I2, J, rf0) (RI (fun y9 m => y9 = nI (wtC P.1 c) ∧ ∃ I', m = (I', J, rf0) ∧ Fr [63] I I' ∧ TrV P c I'))) (fun p I2 hp h9 kk => ?_) (fun I2 h9 => ?_) _ ⟨Fr.rf.up (by decide), fun q hq => absurd hq (Nat.not_lt_zero q), fun q _ hq => by rw [upR_s]; exact hg q hq⟩
  · have hlt : c / 5 ^ p < 2 ^ 31 := Nat.lt_of_le_of_lt (Nat.div_le_self _ _) (by omega)
    refine g_iload dX11_tries_11 rfl ?_
    refine g_aload_n dX11_tries_13 rfl ?_
    refine t_getI dX11_tries_14 fl_X11_116 rfl (by decide) rfl (by decide) ?_
    rw [h9.1 48 (by decide), hP.1]
    refine g_icmp_ge (tgt := 86) dX11_tries_17 (by decide) (fun c17 => ?_) (fun c17 => ?_)
    · exact absurd (nI_lt hp (by omega)) (Int32.not_lt.mpr c17)
    · skip
      refine g_aload_n dX11_tries_20 rfl ?_
      refine t_getR dX11_tries_21 fl_X11_57 rfl (by decide) rfl (by decide) rfl ?_
      refine g_iload dX11_tries_24 rfl ?_
      refine g_iload_n dX11_tries_26 rfl ?_
      refine g_iconst (v := 5) dX11_tries_27 (by decide) ?_
      refine g_irem dX11_tries_28 (by decide) ?_
      rw [rem5 hlt]
      refine g_iconst (v := 2) dX11_tries_29 (by decide) ?_
      refine g_isub dX11_tries_30 ?_
      rw [show nI (c / 5 ^ p % 5) - 2 = zI (oC c p) by rw [show (2 : Int32) = zI 2 from rfl, nI_z, z_sub]; rfl]
      refine t_iast dX11_tries_31 rfl (by decide) (in_nI (by omega) (by decide)) ?_
      rw [cl_nI (by omega)]
      refine g_iload_n dX11_tries_32 rfl ?_
      refine g_iconst (v := 5) dX11_tries_33 (by decide) ?_
      refine g_idiv dX11_tries_34 (by decide) ?_
      rw [div5 hlt, Nat.div_div_eq_div_mul, ← Nat.pow_succ]
      refine g_istore_n dX11_tries_35 (by decide) ?_
      show Go _ _ _ _ _ _ [_, _, _, _, _] _ _ _
      refine g_iload_n dX11_tries_36 rfl ?_
      refine g_aload_n dX11_tries_37 rfl ?_
      refine t_getR dX11_tries_38 fl_X11_57 rfl (by decide) rfl (by decide) rfl ?_
      refine g_iload dX11_tries_41 rfl ?_
      refine t_iald dX11_tries_43 rfl (by decide) (in_nI (by omega) (by decide)) ?_
      rw [cl_nI (by omega), upR_s, pk_us]
      refine g_if_ne (tgt := 51) dX11_tries_44 (by decide) (fun c44 => ?_) (fun c44 => ?_)
      · skip
        refine g_aload_n dX11_tries_51 rfl ?_
        refine t_getR dX11_tries_52 fl_X11_57 rfl (by decide) rfl (by decide) rfl ?_
        refine g_iload dX11_tries_55 rfl ?_
        refine t_iald dX11_tries_57 rfl (by decide) (in_nI (by omega) (by decide)) ?_
        rw [cl_nI (by omega), upR_s, pk_us]
        refine g_iconst (v := 1) dX11_tries_58 (by decide) ?_
        refine g_icmp_eq (tgt := 73) dX11_tries_59 (by decide) (fun c59 => ?_) (fun c59 => ?_)
        · skip
          refine g_iconst (v := 2) dX11_tries_73 (by decide) ?_
          refine g_goto (tgt := 78) dX11_tries_74 (by decide) ?_
          refine g_imul dX11_tries_78 ?_
          refine g_istore_n dX11_tries_79 (by decide) ?_
          show Go _ _ _ _ _ _ [_, _, _, _, _] _ _ _
          refine g_iinc dX11_tries_80 rfl (by decide) ?_
          show Go _ _ _ _ _ _ [_, _, _, _, _] _ _ _
          refine g_goto (tgt := 11) dX11_tries_83 (by decide) ?_
          rw [nI_inc]
          have e9 : wtC (p + 1) c = wtC p c * w1 (dC c p) := rfl
          have hi9 : Fr [63] I (upR I2 63 (upd (I2 63) p (zI (oC c p)))) ∧ (∀ q, q < p + 1 → upR I2 63 (upd (I2 63) p (zI (oC c p))) 63 q = zI (oC c q)) ∧ ∀ q, p + 1 ≤ q → q < 4 → upR I2 63 (upd (I2 63) p (zI (oC c p))) 63 q = 0 := by
            refine ⟨h9.1.up (by decide), fun q hq => ?_, fun q h1 h2 => ?_⟩
            · rw [upR_s]
              by_cases e : q = p
              · rw [e, pk_us]
              · rw [pk_un e]; exact h9.2.1 q (by omega)
            · rw [upR_s, pk_un (by omega)]; exact h9.2.2 q (by omega) h2
          first
            | (have h0 := oC_0.mp c44
               rw [show w1 (dC c p) = 4 by unfold w1; rw [if_pos h0]] at e9
               rw [show (4 : Int32) = nI 4 from rfl, pk_mul, ← e9]
               exact kk _ hi9)
            | (have h0 := oC_1.mp c59
               rw [show w1 (dC c p) = 2 by unfold w1; rw [if_neg (by omega), if_pos (Or.inr h0)]] at e9
               rw [show (2 : Int32) = nI 2 from rfl, pk_mul, ← e9]
               exact kk _ hi9)
            | (have h0 := oC_m1.mp c70
               rw [show w1 (dC c p) = 2 by unfold w1; rw [if_neg (by omega), if_pos (Or.inl h0)]] at e9
               rw [show (2 : Int32) = nI 2 from rfl, pk_mul, ← e9]
               exact kk _ hi9)
            | (have h1 : ¬ dC c p = 2 := fun q => c44 (oC_0.mpr q)
               have h2 : ¬ dC c p = 3 := fun q => c59 (oC_1.mpr q)
               have h3 : ¬ dC c p = 1 := fun q => c70 (oC_m1.mpr q)
               rw [show w1 (dC c p) = 1 by unfold w1; rw [if_neg h1, if_neg (by omega)]] at e9
               rw [show (1 : Int32) = nI 1 from rfl, pk_mul, ← e9]
               exact kk _ hi9)
            | fail "no way"
        · skip
          refine g_aload_n dX11_tries_62 rfl ?_
          refine t_getR dX11_tries_63 fl_X11_57 rfl (by decide) rfl (by decide) rfl ?_
          refine g_iload dX11_tries_66 rfl ?_
          refine t_iald dX11_tries_68 rfl (by decide) (in_nI (by omega) (by decide)) ?_
          rw [cl_nI (by omega), upR_s, pk_us]
          refine g_iconst (v := -1) dX11_tries_69 (by decide) ?_
          refine g_icmp_ne (tgt := 77) dX11_tries_70 (by decide) (fun c70 => ?_) (fun c70 => ?_)
          · skip
            refine g_iconst (v := 1) dX11_tries_77 (by decide) ?_
            refine g_imul dX11_tries_78 ?_
            refine g_istore_n dX11_tries_79 (by decide) ?_
            show Go _ _ _ _ _ _ [_, _, _, _, _] _ _ _
            refine g_iinc dX11_tries_80 rfl (by decide) ?_
            show Go _ _ _ _ _ _ [_, _, _, _, _] _ _ _
            refine g_goto (tgt := 11) dX11_tries_83 (by decide) ?_
            rw [nI_inc]
            have e9 : wtC (p + 1) c = wtC p c * w1 (dC c p) := rfl
            have hi9 : Fr [63] I (upR I2 63 (upd (I2 63) p (zI (oC c p)))) ∧ (∀ q, q < p + 1 → upR I2 63 (upd (I2 63) p (zI (oC c p))) 63 q = zI (oC c q)) ∧ ∀ q, p + 1 ≤ q → q < 4 → upR I2 63 (upd (I2 63) p (zI (oC c p))) 63 q = 0 := by
              refine ⟨h9.1.up (by decide), fun q hq => ?_, fun q h1 h2 => ?_⟩
              · rw [upR_s]
                by_cases e : q = p
                · rw [e, pk_us]
                · rw [pk_un e]; exact h9.2.1 q (by omega)
              · rw [upR_s, pk_un (by omega)]; exact h9.2.2 q (by omega) h2
            first
              | (have h0 := oC_0.mp c44
                 rw [show w1 (dC c p) = 4 by unfold w1; rw [if_pos h0]] at e9
                 rw [show (4 : Int32) = nI 4 from rfl, pk_mul, ← e9]
                 exact kk _ hi9)
              | (have h0 := oC_1.mp c59
                 rw [show w1 (dC c p) = 2 by unfold w1; rw [if_neg (by omega), if_pos (Or.inr h0)]] at e9
                 rw [show (2 : Int32) = nI 2 from rfl, pk_mul, ← e9]
                 exact kk _ hi9)
              | (have h0 := oC_m1.mp c70
                 rw [show w1 (dC c p) = 2 by unfold w1; rw [if_neg (by omega), if_pos (Or.inl h0)]] at e9
                 rw [show (2 : Int32) = nI 2 from rfl, pk_mul, ← e9]
                 exact kk _ hi9)
              | (have h1 : ¬ dC c p = 2 := fun q => c44 (oC_0.mpr q)
                 have h2 : ¬ dC c p = 3 := fun q => c59 (oC_1.mpr q)
                 have h3 : ¬ dC c p = 1 := fun q => c70 (oC_m1.mpr q)
                 rw [show w1 (dC c p) = 1 by unfold w1; rw [if_neg h1, if_neg (by omega)]] at e9
                 rw [show (1 : Int32) = nI 1 from rfl, pk_mul, ← e9]
                 exact kk _ hi9)
              | fail "no way"
          · skip
            refine g_iconst (v := 2) dX11_tries_73 (by decide) ?_
            refine g_goto (tgt := 78) dX11_tries_74 (by decide) ?_
            refine g_imul dX11_tries_78 ?_
            refine g_istore_n dX11_tries_79 (by decide) ?_
            show Go _ _ _ _ _ _ [_, _, _, _, _] _ _ _
            refine g_iinc dX11_tries_80 rfl (by decide) ?_
            show Go _ _ _ _ _ _ [_, _, _, _, _] _ _ _
            refine g_goto (tgt := 11) dX11_tries_83 (by decide) ?_
            rw [nI_inc]
            have e9 : wtC (p + 1) c = wtC p c * w1 (dC c p) := rfl
            have hi9 : Fr [63] I (upR I2 63 (upd (I2 63) p (zI (oC c p)))) ∧ (∀ q, q < p + 1 → upR I2 63 (upd (I2 63) p (zI (oC c p))) 63 q = zI (oC c q)) ∧ ∀ q, p + 1 ≤ q → q < 4 → upR I2 63 (upd (I2 63) p (zI (oC c p))) 63 q = 0 := by
              refine ⟨h9.1.up (by decide), fun q hq => ?_, fun q h1 h2 => ?_⟩
              · rw [upR_s]
                by_cases e : q = p
                · rw [e, pk_us]
                · rw [pk_un e]; exact h9.2.1 q (by omega)
              · rw [upR_s, pk_un (by omega)]; exact h9.2.2 q (by omega) h2
            first
              | (have h0 := oC_0.mp c44
                 rw [show w1 (dC c p) = 4 by unfold w1; rw [if_pos h0]] at e9
                 rw [show (4 : Int32) = nI 4 from rfl, pk_mul, ← e9]
                 exact kk _ hi9)
              | (have h0 := oC_1.mp c59
                 rw [show w1 (dC c p) = 2 by unfold w1; rw [if_neg (by omega), if_pos (Or.inr h0)]] at e9
                 rw [show (2 : Int32) = nI 2 from rfl, pk_mul, ← e9]
                 exact kk _ hi9)
              | (have h0 := oC_m1.mp c70
                 rw [show w1 (dC c p) = 2 by unfold w1; rw [if_neg (by omega), if_pos (Or.inl h0)]] at e9
                 rw [show (2 : Int32) = nI 2 from rfl, pk_mul, ← e9]
                 exact kk _ hi9)
              | (have h1 : ¬ dC c p = 2 := fun q => c44 (oC_0.mpr q)
                 have h2 : ¬ dC c p = 3 := fun q => c59 (oC_1.mpr q)
                 have h3 : ¬ dC c p = 1 := fun q => c70 (oC_m1.mpr q)
                 rw [show w1 (dC c p) = 1 by unfold w1; rw [if_neg h1, if_neg (by omega)]] at e9
                 rw [show (1 : Int32) = nI 1 from rfl, pk_mul, ← e9]
                 exact kk _ hi9)
              | fail "no way"
      · skip
        refine g_iconst (v := 4) dX11_tries_47 (by decide) ?_
        refine g_goto (tgt := 78) dX11_tries_48 (by decide) ?_
        refine g_imul dX11_tries_78 ?_
        refine g_istore_n dX11_tries_79 (by decide) ?_
        show Go _ _ _ _ _ _ [_, _, _, _, _] _ _ _
        refine g_iinc dX11_tries_80 rfl (by decide) ?_
        show Go _ _ _ _ _ _ [_, _, _, _, _] _ _ _
        refine g_goto (tgt := 11) dX11_tries_83 (by decide) ?_
        rw [nI_inc]
        have e9 : wtC (p + 1) c = wtC p c * w1 (dC c p) := rfl
        have hi9 : Fr [63] I (upR I2 63 (upd (I2 63) p (zI (oC c p)))) ∧ (∀ q, q < p + 1 → upR I2 63 (upd (I2 63) p (zI (oC c p))) 63 q = zI (oC c q)) ∧ ∀ q, p + 1 ≤ q → q < 4 → upR I2 63 (upd (I2 63) p (zI (oC c p))) 63 q = 0 := by
          refine ⟨h9.1.up (by decide), fun q hq => ?_, fun q h1 h2 => ?_⟩
          · rw [upR_s]
            by_cases e : q = p
            · rw [e, pk_us]
            · rw [pk_un e]; exact h9.2.1 q (by omega)
          · rw [upR_s, pk_un (by omega)]; exact h9.2.2 q (by omega) h2
        first
          | (have h0 := oC_0.mp c44
             rw [show w1 (dC c p) = 4 by unfold w1; rw [if_pos h0]] at e9
             rw [show (4 : Int32) = nI 4 from rfl, pk_mul, ← e9]
             exact kk _ hi9)
          | (have h0 := oC_1.mp c59
             rw [show w1 (dC c p) = 2 by unfold w1; rw [if_neg (by omega), if_pos (Or.inr h0)]] at e9
             rw [show (2 : Int32) = nI 2 from rfl, pk_mul, ← e9]
             exact kk _ hi9)
          | (have h0 := oC_m1.mp c70
             rw [show w1 (dC c p) = 2 by unfold w1; rw [if_neg (by omega), if_pos (Or.inl h0)]] at e9
             rw [show (2 : Int32) = nI 2 from rfl, pk_mul, ← e9]
             exact kk _ hi9)
          | (have h1 : ¬ dC c p = 2 := fun q => c44 (oC_0.mpr q)
             have h2 : ¬ dC c p = 3 := fun q => c59 (oC_1.mpr q)
             have h3 : ¬ dC c p = 1 := fun q => c70 (oC_m1.mpr q)
             rw [show w1 (dC c p) = 1 by unfold w1; rw [if_neg h1, if_neg (by omega)]] at e9
             rw [show (1 : Int32) = nI 1 from rfl, pk_mul, ← e9]
             exact kk _ hi9)
          | fail "no way"
  · skip
    refine g_iload dX11_tries_11 rfl ?_
    refine g_aload_n dX11_tries_13 rfl ?_
    refine t_getI dX11_tries_14 fl_X11_116 rfl (by decide) rfl (by decide) ?_
    rw [h9.1 48 (by decide), hP.1]
    refine g_icmp_ge (tgt := 86) dX11_tries_17 (by decide) (fun c17 => ?_) (fun c17 => ?_)
    · skip
      refine g_iload_n dX11_tries_86 rfl ?_
      refine g_iret dX11_tries_87 (fun ty h => by cases h; rfl) ?_
      refine ⟨rfl, I2, rfl, h9.1, fun q hq => ?_⟩
      unfold oM
      by_cases e : q < P.1
      · rw [if_pos e]; exact h9.2.1 q e
      · rw [if_neg e]; exact h9.2.2 q (by omega) hq
    · exact absurd (Int32.le_refl _) c17
theorem ct_fitting {P : Pce} {s : Evs} (hP : PcM P I) (hO : PcOK P) (hE : EsM s I) (hR : EvR s) (hP2 : EvP P s) {c : Nat} (hc : c < 625) : Ct X (d + 5) 66 M_X11_fitting 66 [.ref 48, .int (nI c)] (I, J, rf0) (RI (fun y9 m => y9 = nI (fW P s c) ∧ ∃ I', m = (I', J, rf0) ∧ Fr [63] I I' ∧ TrV P c I')) := by
  have h4 := hO.1
  have hr14 := hR.1
  have hr2 := hR.2.1
  have hp1 := hP2.1
  show Go _ _ _ _ _ _ [_, _, _, _] _ _ _
  refine g_aload_n dX11_fitting_0 rfl ?_
  refine g_iload_n dX11_fitting_1 rfl ?_
  refine g_callVi dX11_fitting_2 ln_X11_209 ⟨_, rfl⟩ rfl (by decide) ⟨_, _, rfl⟩ rfl (Nat.le_of_ble_eq_true rfl) (Nat.le_of_ble_eq_true rfl) (ct_tries hP hO hc) rfl (fun r2 m2 h2 => ?_)
  obtain ⟨rfl, I1, rfl, hf1, ho1⟩ := h2
  have hE1 := hE.scr hf1
  refine g_istore_n dX11_fitting_5 (by decide) ?_
  show Go _ _ _ _ _ _ [_, _, _, _] _ _ _
  refine g_iconst (v := 0) dX11_fitting_6 (by decide) ?_
  refine g_istore_n dX11_fitting_7 (by decide) ?_
  show Go _ _ _ _ _ _ [_, _, _, _] _ _ _
  refine go_ix (s.1 - s.2.1) (fun i => (∀ x, x < s.2.1 + i → s.2.1 ≤ x → hrS P (oC c) x = s.2.2.2 x) → Go X (d + 5) 66 M_X11_fitting 66 8 [.ref 48, .int (nI c), .int (nI (wtC P.1 c)), .int (nI i)] [] (I1, J, rf0) (RI (fun y9 m => y9 = nI (fW P s c) ∧ ∃ I', m = (I', J, rf0) ∧ Fr [63] I I' ∧ TrV P c I'))) (fun i hi kk hn => ?_) (fun hn => ?_) (fun x h1 h2 => absurd h1 (by omega))
  · skip
    refine g_iload_n dX11_fitting_8 rfl ?_
    refine g_aload_n dX11_fitting_9 rfl ?_
    refine t_getI dX11_fitting_10 fl_X11_182 rfl (by decide) rfl (by decide) ?_
    rw [hE1.2.2.1]
    refine g_icmp_ge (tgt := 43) dX11_fitting_13 (by decide) (fun c13 => ?_) (fun c13 => ?_)
    · exact absurd (nI_lt hi (by omega)) (Int32.not_lt.mpr c13)
    · skip
      refine g_aload_n dX11_fitting_16 rfl ?_
      refine g_aload_n dX11_fitting_17 rfl ?_
      refine t_getI dX11_fitting_18 fl_X11_179 rfl (by decide) rfl (by decide) ?_
      rw [hE1.2.1]
      refine g_iload_n dX11_fitting_21 rfl ?_
      refine g_iadd dX11_fitting_22 ?_
      rw [nI_add]
      refine g_callVi dX11_fitting_23 ln_X11_143 ⟨_, rfl⟩ rfl (by decide) ⟨_, _, rfl⟩ rfl (Nat.le_of_ble_eq_true rfl) (Nat.le_of_ble_eq_true rfl) (ct_hears (x := s.2.1 + i) (hP.scr hf1) hO (by omega) (oM_R P c) ho1) rfl (fun r23 m23 h23 => ?_)
      obtain ⟨rfl, rfl⟩ := h23
      rw [oM_h]
      refine g_aload_n dX11_fitting_26 rfl ?_
      refine t_getR dX11_fitting_27 fl_X11_47 rfl (by decide) rfl (by decide) rfl ?_
      refine g_iload_n dX11_fitting_30 rfl ?_
      refine t_iald dX11_fitting_31 rfl (by decide) (in_nI (by omega) (by decide)) ?_
      rw [cl_nI (by omega), hE1.2.2.2.2 i hi]
      refine g_icmp_eq (tgt := 37) dX11_fitting_32 (by decide) (fun c32 => ?_) (fun c32 => ?_)
      · skip
        refine g_iinc dX11_fitting_37 rfl (by decide) ?_
        show Go _ _ _ _ _ _ [_, _, _, _] _ _ _
        refine g_goto (tgt := 8) dX11_fitting_40 (by decide) ?_
        rw [nI_inc]
        exact kk (fun x h1 h2 => by
          rcases Nat.lt_or_ge x (s.2.1 + i) with q | q
          · exact hn x q h2
          · rw [show x = s.2.1 + i by omega]
            have h64 := hrS_lt hO (oC c) (s.2.1 + i)
            have h65 := hR.2.2.2 (s.2.1 + i)
            exact (nI_eq (by omega) (by omega)).mp c32)
      · skip
        refine g_iconst (v := 0) dX11_fitting_35 (by decide) ?_
        refine g_iret dX11_fitting_36 (fun ty h => by cases h; rfl) ?_
        refine ⟨?_, I1, rfl, hf1, ho1⟩
        unfold fW ftB agB
        rw [decide_eq_false (fun q => c32 (by rw [q (s.2.1 + i) (by omega) (by omega)]))]
        rfl
  · skip
    refine g_iload_n dX11_fitting_8 rfl ?_
    refine g_aload_n dX11_fitting_9 rfl ?_
    refine t_getI dX11_fitting_10 fl_X11_182 rfl (by decide) rfl (by decide) ?_
    rw [hE1.2.2.1]
    refine g_icmp_ge (tgt := 43) dX11_fitting_13 (by decide) (fun c13 => ?_) (fun c13 => ?_)
    · skip
      refine g_iload_n dX11_fitting_43 rfl ?_
      refine g_iret dX11_fitting_44 (fun ty h => by cases h; rfl) ?_
      refine ⟨?_, I1, rfl, hf1, ho1⟩
      unfold fW ftB agB
      rw [decide_eq_true (fun x h1 h2 => hn x (by omega) h2)]
      rfl
    · exact absurd (Int32.le_refl _) c13
theorem ct_chance {a b : Nat} (ha : a < 262144) (hb : b < 262144) (hb0 : 0 < b) : Ct X d 66 M_X11_chance 66 [.ref 48, .long (lN a), .long (lN b)] (I, J, rf0) (RI (fun y9 m => y9 = 1 ∧ ∃ J', m = (I, J', rf0) ∧ J' 48 21 = (chS a b).1 ∧ J' 48 22 = (chS a b).2 ∧ J' 0 = J 0)) := by
  have hg0 : 0 < Nat.gcd a b := Nat.gcd_pos_of_pos_right a hb0
  have hg1 : Nat.gcd a b ≤ b := Nat.gcd_le_right a hb0
  have hgn : ¬ lN (Nat.gcd a b) = 0 := lN_ne0 hg0 (by omega)
  show Go _ _ _ _ _ _ [_, _, _, _, _, _, _, _, _, _, _] _ _ _
  refine g_lload_n dX11_chance_0 rfl ?_
  refine g_lstore dX11_chance_1 (by decide) ?_
  show Go _ _ _ _ _ _ [_, _, _, _, _, _, _, _, _, _, _] _ _ _
  refine g_lload_n dX11_chance_3 rfl ?_
  refine g_lstore dX11_chance_4 (by decide) ?_
  show Go _ _ _ _ _ _ [_, _, _, _, _, _, _, _, _, _, _] _ _ _
  refine go_rec (σ := Nat × Nat) (fun n q => ∀ x y, q = (x, y) → y ≤ n → x < 262144 → y < 262144 → Nat.gcd x y = Nat.gcd a b → Go X d 66 M_X11_chance 66 6 [.ref 48, .long (lN a), .null, .long (lN b), .null, .long (lN x), .null, .long (lN y), .null, .null, .null] [] (I, J, rf0) (RI (fun y9 m => y9 = 1 ∧ ∃ J', m = (I, J', rf0) ∧ J' 48 21 = (chS a b).1 ∧ J' 48 22 = (chS a b).2 ∧ J' 0 = J 0))) (fun n kk q x y hq hn hx hy hg => ?_) (fun q x y hq hn hx hy hg => ?_) b (a, b) a b rfl (Nat.le_refl _) ha hb rfl
  · skip
    refine g_lload dX11_chance_6 rfl ?_
    refine g_lconst (v := 0) dX11_chance_8 (by decide) ?_
    refine g_lcmp dX11_chance_9 ?_
    refine g_if_eq (tgt := 31) dX11_chance_10 (by decide) (fun c10 => ?_) (fun c10 => ?_)
    · skip
      have hy0 : y = 0 := (lN_eq (by omega) (by decide)).mp (show lN y = lN 0 from (lg_cmp_eq _ _).mp c10)
      have h0 : lN x = lN (Nat.gcd a b) := by rw [← hg, hy0, Nat.gcd_zero_right]
      rw [h0]
      refine g_aload_n dX11_chance_31 rfl ?_
      refine g_lload_n dX11_chance_32 rfl ?_
      refine g_lload dX11_chance_33 rfl ?_
      refine g_ldiv dX11_chance_35 hgn ?_
      rw [pk_lDiv (by omega) hg0 (by omega)]
      refine t_putJ dX11_chance_36 fl_X11_219 rfl (by decide) rfl (by decide) ?_
      refine g_aload_n dX11_chance_39 rfl ?_
      refine g_lload_n dX11_chance_40 rfl ?_
      refine g_lload dX11_chance_41 rfl ?_
      refine g_ldiv dX11_chance_43 hgn ?_
      rw [pk_lDiv (by omega) hg0 (by omega)]
      refine t_putJ dX11_chance_44 fl_X11_50 rfl (by decide) rfl (by decide) ?_
      refine g_iconst (v := 1) dX11_chance_47 (by decide) ?_
      refine g_iret dX11_chance_48 (fun ty h => by cases h; rfl) ?_
      exact ⟨rfl, _, rfl, by rw [upR_s, pk_uLn (by decide), upR_s, pk_uLs]; rfl, by rw [upR_s, pk_uLs]; rfl, by rw [upR_n (by decide), upR_n (by decide)]⟩
    · skip
      have hy0 : 0 < y := Nat.pos_of_ne_zero (fun q => c10 ((lg_cmp_eq _ _).mpr (by rw [q]; rfl)))
      refine g_lload dX11_chance_13 rfl ?_
      refine g_lload dX11_chance_15 rfl ?_
      refine g_lrem dX11_chance_17 (lN_ne0 hy0 (by omega)) ?_
      rw [pk_lRem (by omega) hy0 (by omega)]
      refine g_lstore dX11_chance_18 (by decide) ?_
      show Go _ _ _ _ _ _ [_, _, _, _, _, _, _, _, _, _, _] _ _ _
      refine g_lload dX11_chance_20 rfl ?_
      refine g_lstore dX11_chance_22 (by decide) ?_
      show Go _ _ _ _ _ _ [_, _, _, _, _, _, _, _, _, _, _] _ _ _
      refine g_lload dX11_chance_24 rfl ?_
      refine g_lstore dX11_chance_26 (by decide) ?_
      show Go _ _ _ _ _ _ [_, _, _, _, _, _, _, _, _, _, _] _ _ _
      refine g_goto (tgt := 6) dX11_chance_28 (by decide) ?_
      refine g_forget 9 ?_
      show Go _ _ _ _ _ _ [_, _, _, _, _, _, _, _, _, _, _] _ _ _
      have hm := Nat.mod_lt x hy0
      exact kk (y, x % y) y (x % y) rfl (by omega) (by omega) (by omega) (by rw [Nat.gcd_comm, ← Nat.gcd_rec, Nat.gcd_comm]; exact hg)
  · skip
    refine g_lload dX11_chance_6 rfl ?_
    refine g_lconst (v := 0) dX11_chance_8 (by decide) ?_
    refine g_lcmp dX11_chance_9 ?_
    refine g_if_eq (tgt := 31) dX11_chance_10 (by decide) (fun c10 => ?_) (fun c10 => ?_)
    · skip
      have hy0 : y = 0 := (lN_eq (by omega) (by decide)).mp (show lN y = lN 0 from (lg_cmp_eq _ _).mp c10)
      have h0 : lN x = lN (Nat.gcd a b) := by rw [← hg, hy0, Nat.gcd_zero_right]
      rw [h0]
      refine g_aload_n dX11_chance_31 rfl ?_
      refine g_lload_n dX11_chance_32 rfl ?_
      refine g_lload dX11_chance_33 rfl ?_
      refine g_ldiv dX11_chance_35 hgn ?_
      rw [pk_lDiv (by omega) hg0 (by omega)]
      refine t_putJ dX11_chance_36 fl_X11_219 rfl (by decide) rfl (by decide) ?_
      refine g_aload_n dX11_chance_39 rfl ?_
      refine g_lload_n dX11_chance_40 rfl ?_
      refine g_lload dX11_chance_41 rfl ?_
      refine g_ldiv dX11_chance_43 hgn ?_
      rw [pk_lDiv (by omega) hg0 (by omega)]
      refine t_putJ dX11_chance_44 fl_X11_50 rfl (by decide) rfl (by decide) ?_
      refine g_iconst (v := 1) dX11_chance_47 (by decide) ?_
      refine g_iret dX11_chance_48 (fun ty h => by cases h; rfl) ?_
      exact ⟨rfl, _, rfl, by rw [upR_s, pk_uLn (by decide), upR_s, pk_uLs]; rfl, by rw [upR_s, pk_uLs]; rfl, by rw [upR_n (by decide), upR_n (by decide)]⟩
    · exact absurd ((lg_cmp_eq _ _).mpr (show lN y = 0 by rw [show y = 0 by omega]; rfl)) c10
theorem ct_isAny {P : Pce} (hP : PcM P I) (hO : PcOK P) {c : Nat} (hT : TrV P c I) : Ct X d 66 M_X11_isAny 66 [.ref 48] (I, J, rf0) (RI (fun y9 m => y9 = bI (decide (¬ cntO c P.1 = 0)) ∧ m = (I, J, rf0))) := by
  have h4 := hO.1
  show Go _ _ _ _ _ _ [_, _, _] _ _ _
  refine g_iconst (v := 0) dX11_isAny_0 (by decide) ?_
  refine g_istore_n dX11_isAny_1 (by decide) ?_
  show Go _ _ _ _ _ _ [_, _, _] _ _ _
  refine g_iconst (v := 0) dX11_isAny_2 (by decide) ?_
  refine g_istore_n dX11_isAny_3 (by decide) ?_
  show Go _ _ _ _ _ _ [_, _, _] _ _ _
  refine go_ix P.1 (fun p => Go X d 66 M_X11_isAny 66 4 [.ref 48, .int (bI (decide (¬ cntO c p = 0))), .int (nI p)] [] (I, J, rf0) (RI (fun y9 m => y9 = bI (decide (¬ cntO c P.1 = 0)) ∧ m = (I, J, rf0)))) (fun p hp kk => ?_) ?_
  · skip
    refine g_iload_n dX11_isAny_4 rfl ?_
    refine g_aload_n dX11_isAny_5 rfl ?_
    refine t_getI dX11_isAny_6 fl_X11_116 rfl (by decide) rfl (by decide) ?_
    rw [hP.1]
    refine g_icmp_ge (tgt := 37) dX11_isAny_9 (by decide) (fun c9 => ?_) (fun c9 => ?_)
    · exact absurd (nI_lt hp (by omega)) (Int32.not_lt.mpr c9)
    · skip
      refine g_iload_n dX11_isAny_12 rfl ?_
      refine g_if_ne (tgt := 25) dX11_isAny_13 (by decide) (fun c13 => ?_) (fun c13 => ?_)
      · skip
        refine g_iconst (v := 1) dX11_isAny_25 (by decide) ?_
        refine g_goto (tgt := 30) dX11_isAny_26 (by decide) ?_
        refine g_istore_n dX11_isAny_30 (by decide) ?_
        show Go _ _ _ _ _ _ [_, _, _] _ _ _
        refine g_iinc dX11_isAny_31 rfl (by decide) ?_
        show Go _ _ _ _ _ _ [_, _, _] _ _ _
        refine g_goto (tgt := 4) dX11_isAny_34 (by decide) ?_
        rw [nI_inc]
        have e9 : cntO c (p + 1) = if decide (¬ dC c p = 2) then cntO c p + 1 else cntO c p := rfl
        first
          | (have h1 := of_decide_eq_true (bI_ne c13)
             rw [show decide (¬ cntO c (p + 1) = 0) = true by rw [e9]; exact decide_eq_true (by split <;> omega)] at kk
             exact kk)
          | (have h1 : dC c p = 2 := oC_0.mp c22
             rw [show decide (¬ cntO c (p + 1) = 0) = false by
               rw [e9, decide_eq_false (not_not_intro h1), if_neg (by decide)]
               exact bI_eq c13] at kk
             exact kk)
          | (have h1 : ¬ dC c p = 2 := fun q => c22 (oC_0.mpr q)
             rw [show decide (¬ cntO c (p + 1) = 0) = true by
               rw [e9, decide_eq_true h1, if_pos rfl]
               exact decide_eq_true (by omega)] at kk
             exact kk)
          | fail "no way"
      · skip
        refine g_aload_n dX11_isAny_16 rfl ?_
        refine t_getR dX11_isAny_17 fl_X11_57 rfl (by decide) rfl (by decide) rfl ?_
        refine g_iload_n dX11_isAny_20 rfl ?_
        refine t_iald dX11_isAny_21 rfl (by decide) (in_nI (by omega) (by decide)) ?_
        rw [cl_nI (by omega), hT.at h4 hp]
        refine g_if_eq (tgt := 29) dX11_isAny_22 (by decide) (fun c22 => ?_) (fun c22 => ?_)
        · skip
          refine g_iconst (v := 0) dX11_isAny_29 (by decide) ?_
          refine g_istore_n dX11_isAny_30 (by decide) ?_
          show Go _ _ _ _ _ _ [_, _, _] _ _ _
          refine g_iinc dX11_isAny_31 rfl (by decide) ?_
          show Go _ _ _ _ _ _ [_, _, _] _ _ _
          refine g_goto (tgt := 4) dX11_isAny_34 (by decide) ?_
          rw [nI_inc]
          have e9 : cntO c (p + 1) = if decide (¬ dC c p = 2) then cntO c p + 1 else cntO c p := rfl
          first
            | (have h1 := of_decide_eq_true (bI_ne c13)
               rw [show decide (¬ cntO c (p + 1) = 0) = true by rw [e9]; exact decide_eq_true (by split <;> omega)] at kk
               exact kk)
            | (have h1 : dC c p = 2 := oC_0.mp c22
               rw [show decide (¬ cntO c (p + 1) = 0) = false by
                 rw [e9, decide_eq_false (not_not_intro h1), if_neg (by decide)]
                 exact bI_eq c13] at kk
               exact kk)
            | (have h1 : ¬ dC c p = 2 := fun q => c22 (oC_0.mpr q)
               rw [show decide (¬ cntO c (p + 1) = 0) = true by
                 rw [e9, decide_eq_true h1, if_pos rfl]
                 exact decide_eq_true (by omega)] at kk
               exact kk)
            | fail "no way"
        · skip
          refine g_iconst (v := 1) dX11_isAny_25 (by decide) ?_
          refine g_goto (tgt := 30) dX11_isAny_26 (by decide) ?_
          refine g_istore_n dX11_isAny_30 (by decide) ?_
          show Go _ _ _ _ _ _ [_, _, _] _ _ _
          refine g_iinc dX11_isAny_31 rfl (by decide) ?_
          show Go _ _ _ _ _ _ [_, _, _] _ _ _
          refine g_goto (tgt := 4) dX11_isAny_34 (by decide) ?_
          rw [nI_inc]
          have e9 : cntO c (p + 1) = if decide (¬ dC c p = 2) then cntO c p + 1 else cntO c p := rfl
          first
            | (have h1 := of_decide_eq_true (bI_ne c13)
               rw [show decide (¬ cntO c (p + 1) = 0) = true by rw [e9]; exact decide_eq_true (by split <;> omega)] at kk
               exact kk)
            | (have h1 : dC c p = 2 := oC_0.mp c22
               rw [show decide (¬ cntO c (p + 1) = 0) = false by
                 rw [e9, decide_eq_false (not_not_intro h1), if_neg (by decide)]
                 exact bI_eq c13] at kk
               exact kk)
            | (have h1 : ¬ dC c p = 2 := fun q => c22 (oC_0.mpr q)
               rw [show decide (¬ cntO c (p + 1) = 0) = true by
                 rw [e9, decide_eq_true h1, if_pos rfl]
                 exact decide_eq_true (by omega)] at kk
               exact kk)
            | fail "no way"
  · skip
    refine g_iload_n dX11_isAny_4 rfl ?_
    refine g_aload_n dX11_isAny_5 rfl ?_
    refine t_getI dX11_isAny_6 fl_X11_116 rfl (by decide) rfl (by decide) ?_
    rw [hP.1]
    refine g_icmp_ge (tgt := 37) dX11_isAny_9 (by decide) (fun c9 => ?_) (fun c9 => ?_)
    · skip
      refine g_iload_n dX11_isAny_37 rfl ?_
      refine g_iret dX11_isAny_38 (fun ty h => by cases h; exact bI_narrow _) ?_
      exact ⟨rfl, rfl⟩
    · exact absurd (Int32.le_refl _) c9
theorem pm_fits {rw tx : Tab} {P : Pce} {ds : List Deed} {sh : Shf} {tl : Int32} {ch : Int64 × Int64} {fn : Fnd} (hA : AbsM rw tx P ds sh tl ch fn I J) (hO : StOK rw tx P ds sh) : Ct X (d + 6) 66 M_X11_fits 66 [.ref 48] (I, J, rf0) (RI (fun y9 m => ∃ I', m = (I', J, rf0) ∧ FrM I I' ∧ y9 = (S_fits P ds tl).1 ∧ AbsM rw tx P ds sh (S_fits P ds tl).2 ch fn I' J)) := by
  have hP := hA.2.2.1
  have hQ := hO.2.2.1
  have h14 := hQ.2.1
  have h4 := hQ.1
  have hEv := hA.2.2.2.1
  have hD := hO.2.2.2.1
  have hE := hEv.2.2
  have hR : EvR (evO P ds) := EvR.e.run hQ hD.2
  have hP2 : EvP P (evO P ds) := EvP.e.run hD.2
  have h625 := p5 h4
  have htot := tot_lt hQ (evO P ds)
  show Go _ _ _ _ _ _ [_, _, _, _] _ _ _
  refine g_aload_n dX11_fits_0 rfl ?_
  refine t_getI dX11_fits_1 fl_X11_119 rfl (by decide) rfl (by decide) ?_
  rw [hP.2.1]
  refine g_if_ne (tgt := 10) dX11_fits_4 (by decide) (fun c4 => ?_) (fun c4 => ?_)
  · skip
    refine g_iconst (v := 0) dX11_fits_10 (by decide) ?_
    refine g_istore_n dX11_fits_11 (by decide) ?_
    show Go _ _ _ _ _ _ [_, _, _, _] _ _ _
    refine g_bipush (v := -9) dX11_fits_12 (by decide) ?_
    refine g_istore_n dX11_fits_14 (by decide) ?_
    show Go _ _ _ _ _ _ [_, _, _, _] _ _ _
    refine g_iconst (v := 0) dX11_fits_15 (by decide) ?_
    refine g_istore_n dX11_fits_16 (by decide) ?_
    show Go _ _ _ _ _ _ [_, _, _, _] _ _ _
    refine go_mem (fun c I2 => Fr [63] I I2) (5 ^ P.1) (fun c I2 => Go X (d + 6) 66 M_X11_fits 66 17 [.ref 48, .int (nI (cntP (ftB P (evO P ds)) c)), .int (oI (fstN (ftB P (evO P ds)) c)), .int (nI c)] [] (I2, J, rf0) (RI (fun y9 m => ∃ I', m = (I', J, rf0) ∧ FrM I I' ∧ y9 = (S_fits P ds tl).1 ∧ AbsM rw tx P ds sh (S_fits P ds tl).2 ch fn I' J))) (fun c I2 hc h9 kk => ?_) (fun I2 h9 => ?_) _ Fr.rf
    · skip
      refine g_iload_n dX11_fits_17 rfl ?_
      refine g_aload_n dX11_fits_18 rfl ?_
      refine g_callVi dX11_fits_19 ln_X11_212 ⟨_, rfl⟩ rfl (by decide) ⟨_, _, rfl⟩ rfl (Nat.le_of_ble_eq_true rfl) (Nat.le_of_ble_eq_true rfl) (ct_outs (hP.scr h9) hQ) rfl (fun r19 m19 h19 => ?_)
      obtain ⟨rfl, rfl⟩ := h19
      refine g_icmp_ge (tgt := 52) dX11_fits_22 (by decide) (fun c22 => ?_) (fun c22 => ?_)
      · exact absurd (nI_lt hc (by omega)) (Int32.not_lt.mpr c22)
      · skip
        refine g_aload_n dX11_fits_25 rfl ?_
        refine g_iload_n dX11_fits_26 rfl ?_
        refine g_callVi dX11_fits_27 ln_X11_216 ⟨_, rfl⟩ rfl (by decide) ⟨_, _, rfl⟩ rfl (Nat.le_of_ble_eq_true rfl) (Nat.le_of_ble_eq_true rfl) (ct_fitting (s := evO P ds) (c := c) (hP.scr h9) hQ (hE.scr h9) hR hP2 (by omega)) rfl (fun r27 m27 h27 => ?_)
        obtain ⟨rfl, I3, rfl, hf3, ho3⟩ := h27
        have h93 : Fr [63] I I3 := h9.trans hf3
        have hfw := fW_le hQ (evO P ds) c
        refine g_if_le (tgt := 46) dX11_fits_30 (by decide) (fun c30 => ?_) (fun c30 => ?_)
        · skip
          refine g_iinc dX11_fits_46 rfl (by decide) ?_
          show Go _ _ _ _ _ _ [_, _, _, _] _ _ _
          refine g_goto (tgt := 17) dX11_fits_49 (by decide) ?_
          rw [nI_inc]
          first
            | (have hno : ftB P (evO P ds) c = false := bfalse (fun q => by
                 have := fW_pos.mpr q
                 exact absurd c30 (nI_nle this (by omega)))
               have e1 : cntP (ftB P (evO P ds)) (c + 1) = cntP (ftB P (evO P ds)) c := by rw [cntP_s, hno]; rfl
               rw [e1, fst_stay hno] at kk
               exact kk _ h93)
            | (have hyes : ftB P (evO P ds) c = true := fW_pos.mp (Nat.pos_of_ne_zero (fun q => c30 (by rw [q]; decide)))
               rw [nI_inc]
               have e1 : cntP (ftB P (evO P ds)) (c + 1) = cntP (ftB P (evO P ds)) c + 1 := by rw [cntP_s, hyes]; rfl
               have hle := cntP_le (ftB P (evO P ds)) c
               rw [e1, fstN_s] at kk
               first
                 | (have h0 : cntP (ftB P (evO P ds)) c = 0 := (nI_eq (by omega) (by decide)).mp (show nI (cntP (ftB P (evO P ds)) c) = nI 0 from c34)
                    rw [cnt_fst.mp h0] at kk
                    dsimp only at kk
                    rw [hyes] at kk
                    exact kk _ h93)
                 | (have h0 : ¬ cntP (ftB P (evO P ds)) c = 0 := fun q => c34 (by rw [q]; rfl)
                    cases hh : fstN (ftB P (evO P ds)) c with
                    | none => exact absurd (cnt_fst.mpr hh) h0
                    | some i =>
                      rw [hh] at kk
                      exact kk _ h93))
            | fail "no way"
        · skip
          refine g_iload_n dX11_fits_33 rfl ?_
          refine g_if_ne (tgt := 41) dX11_fits_34 (by decide) (fun c34 => ?_) (fun c34 => ?_)
          · skip
            refine g_iload_n dX11_fits_41 rfl ?_
            refine g_istore_n dX11_fits_42 (by decide) ?_
            show Go _ _ _ _ _ _ [_, _, _, _] _ _ _
            refine g_iinc dX11_fits_43 rfl (by decide) ?_
            show Go _ _ _ _ _ _ [_, _, _, _] _ _ _
            refine g_iinc dX11_fits_46 rfl (by decide) ?_
            show Go _ _ _ _ _ _ [_, _, _, _] _ _ _
            refine g_goto (tgt := 17) dX11_fits_49 (by decide) ?_
            rw [nI_inc]
            first
              | (have hno : ftB P (evO P ds) c = false := bfalse (fun q => by
                   have := fW_pos.mpr q
                   exact absurd c30 (nI_nle this (by omega)))
                 have e1 : cntP (ftB P (evO P ds)) (c + 1) = cntP (ftB P (evO P ds)) c := by rw [cntP_s, hno]; rfl
                 rw [e1, fst_stay hno] at kk
                 exact kk _ h93)
              | (have hyes : ftB P (evO P ds) c = true := fW_pos.mp (Nat.pos_of_ne_zero (fun q => c30 (by rw [q]; decide)))
                 rw [nI_inc]
                 have e1 : cntP (ftB P (evO P ds)) (c + 1) = cntP (ftB P (evO P ds)) c + 1 := by rw [cntP_s, hyes]; rfl
                 have hle := cntP_le (ftB P (evO P ds)) c
                 rw [e1, fstN_s] at kk
                 first
                   | (have h0 : cntP (ftB P (evO P ds)) c = 0 := (nI_eq (by omega) (by decide)).mp (show nI (cntP (ftB P (evO P ds)) c) = nI 0 from c34)
                      rw [cnt_fst.mp h0] at kk
                      dsimp only at kk
                      rw [hyes] at kk
                      exact kk _ h93)
                   | (have h0 : ¬ cntP (ftB P (evO P ds)) c = 0 := fun q => c34 (by rw [q]; rfl)
                      cases hh : fstN (ftB P (evO P ds)) c with
                      | none => exact absurd (cnt_fst.mpr hh) h0
                      | some i =>
                        rw [hh] at kk
                        exact kk _ h93))
              | fail "no way"
          · skip
            refine g_iload_n dX11_fits_37 rfl ?_
            refine g_goto (tgt := 42) dX11_fits_38 (by decide) ?_
            refine g_istore_n dX11_fits_42 (by decide) ?_
            show Go _ _ _ _ _ _ [_, _, _, _] _ _ _
            refine g_iinc dX11_fits_43 rfl (by decide) ?_
            show Go _ _ _ _ _ _ [_, _, _, _] _ _ _
            refine g_iinc dX11_fits_46 rfl (by decide) ?_
            show Go _ _ _ _ _ _ [_, _, _, _] _ _ _
            refine g_goto (tgt := 17) dX11_fits_49 (by decide) ?_
            rw [nI_inc]
            first
              | (have hno : ftB P (evO P ds) c = false := bfalse (fun q => by
                   have := fW_pos.mpr q
                   exact absurd c30 (nI_nle this (by omega)))
                 have e1 : cntP (ftB P (evO P ds)) (c + 1) = cntP (ftB P (evO P ds)) c := by rw [cntP_s, hno]; rfl
                 rw [e1, fst_stay hno] at kk
                 exact kk _ h93)
              | (have hyes : ftB P (evO P ds) c = true := fW_pos.mp (Nat.pos_of_ne_zero (fun q => c30 (by rw [q]; decide)))
                 rw [nI_inc]
                 have e1 : cntP (ftB P (evO P ds)) (c + 1) = cntP (ftB P (evO P ds)) c + 1 := by rw [cntP_s, hyes]; rfl
                 have hle := cntP_le (ftB P (evO P ds)) c
                 rw [e1, fstN_s] at kk
                 first
                   | (have h0 : cntP (ftB P (evO P ds)) c = 0 := (nI_eq (by omega) (by decide)).mp (show nI (cntP (ftB P (evO P ds)) c) = nI 0 from c34)
                      rw [cnt_fst.mp h0] at kk
                      dsimp only at kk
                      rw [hyes] at kk
                      exact kk _ h93)
                   | (have h0 : ¬ cntP (ftB P (evO P ds)) c = 0 := fun q => c34 (by rw [q]; rfl)
                      cases hh : fstN (ftB P (evO P ds)) c with
                      | none => exact absurd (cnt_fst.mpr hh) h0
                      | some i =>
                        rw [hh] at kk
                        exact kk _ h93))
              | fail "no way"
    · skip
      refine g_iload_n dX11_fits_17 rfl ?_
      refine g_aload_n dX11_fits_18 rfl ?_
      refine g_callVi dX11_fits_19 ln_X11_212 ⟨_, rfl⟩ rfl (by decide) ⟨_, _, rfl⟩ rfl (Nat.le_of_ble_eq_true rfl) (Nat.le_of_ble_eq_true rfl) (ct_outs (hP.scr h9) hQ) rfl (fun r19 m19 h19 => ?_)
      obtain ⟨rfl, rfl⟩ := h19
      refine g_icmp_ge (tgt := 52) dX11_fits_22 (by decide) (fun c22 => ?_) (fun c22 => ?_)
      · skip
        refine g_aload_n dX11_fits_52 rfl ?_
        refine g_iload_n dX11_fits_53 rfl ?_
        refine g_iload_n dX11_fits_54 rfl ?_
        refine g_callVi dX11_fits_55 ln_X11_84 ⟨_, rfl⟩ rfl (by decide) ⟨_, _, rfl⟩ rfl (Nat.le_of_ble_eq_true rfl) (Nat.le_of_ble_eq_true rfl) ct_asks rfl (fun r55 m55 h55 => ?_)
        obtain ⟨rfl, rfl⟩ := h55
        refine g_iret dX11_fits_58 (fun ty h => by cases h; rfl) ?_
        have hS : S_fits P ds tl = (nI (cntP (ftB P (evO P ds)) (5 ^ P.1)), oI (fstN (ftB P (evO P ds)) (5 ^ P.1))) := by unfold S_fits; rw [if_neg (show ¬ P.2.1 = 0 from fun q => c4 (by rw [q]; rfl))]
        exact ⟨_, rfl, (FrM.of h9 (by decide)).up (by decide), by rw [hS], by rw [hS]; exact (hA.s63 h9).told⟩
      · exact absurd (Int32.le_refl _) c22
  · skip
    refine g_bipush (v := -4) dX11_fits_7 (by decide) ?_
    refine g_iret dX11_fits_9 (fun ty h => by cases h; rfl) ?_
    have h0 : P.2.1 = 0 := (nI_eq (by omega) (by decide)).mp (show nI P.2.1 = nI 0 from c4)
    have hS : S_fits P ds tl = (-4, tl) := by unfold S_fits; rw [if_pos h0]
    exact ⟨_, rfl, FrM.rf, by rw [hS], by rw [hS]; exact hA⟩
theorem pm_likely {rw tx : Tab} {P : Pce} {ds : List Deed} {sh : Shf} {tl : Int32} {ch : Int64 × Int64} {fn : Fnd} (hA : AbsM rw tx P ds sh tl ch fn I J) (hO : StOK rw tx P ds sh) : Ct X (d + 6) 66 M_X11_likely 66 [.ref 48] (I, J, rf0) (RI (fun y9 m => ∃ I', m = (I', J, rf0) ∧ FrM I I' ∧ y9 = S_likely P ds ∧ AbsM rw tx P ds sh tl ch fn I' J)) := by
  have hP := hA.2.2.1
  have hQ := hO.2.2.1
  have h14 := hQ.2.1
  have h4 := hQ.1
  have hEv := hA.2.2.2.1
  have hD := hO.2.2.2.1
  have hE := hEv.2.2
  have hR : EvR (evO P ds) := EvR.e.run hQ hD.2
  have hP2 : EvP P (evO P ds) := EvP.e.run hD.2
  have h625 := p5 h4
  have htot := tot_lt hQ (evO P ds)
  show Go _ _ _ _ _ _ [_, _, _, _, _] _ _ _
  refine g_aload_n dX11_likely_0 rfl ?_
  refine t_getI dX11_likely_1 fl_X11_119 rfl (by decide) rfl (by decide) ?_
  rw [hP.2.1]
  refine g_if_ne (tgt := 10) dX11_likely_4 (by decide) (fun c4 => ?_) (fun c4 => ?_)
  · skip
    refine g_bipush (v := -9) dX11_likely_10 (by decide) ?_
    refine g_istore_n dX11_likely_12 (by decide) ?_
    show Go _ _ _ _ _ _ [_, _, _, _, _] _ _ _
    refine g_iconst (v := 0) dX11_likely_13 (by decide) ?_
    refine g_istore_n dX11_likely_14 (by decide) ?_
    show Go _ _ _ _ _ _ [_, _, _, _, _] _ _ _
    refine g_iconst (v := 0) dX11_likely_15 (by decide) ?_
    refine g_istore_n dX11_likely_16 (by decide) ?_
    show Go _ _ _ _ _ _ [_, _, _, _, _] _ _ _
    refine go_mem (fun c I2 => Fr [63] I I2) (5 ^ P.1) (fun c I2 => Go X (d + 6) 66 M_X11_likely 66 17 [.ref 48, .int (oI (hvF P (evO P ds) c).1), .int (nI (hvF P (evO P ds) c).2), .int (nI c), .null] [] (I2, J, rf0) (RI (fun y9 m => ∃ I', m = (I', J, rf0) ∧ FrM I I' ∧ y9 = S_likely P ds ∧ AbsM rw tx P ds sh tl ch fn I' J))) (fun c I2 hc h9 kk => ?_) (fun I2 h9 => ?_) _ Fr.rf
    · skip
      refine g_iload_n dX11_likely_17 rfl ?_
      refine g_aload_n dX11_likely_18 rfl ?_
      refine g_callVi dX11_likely_19 ln_X11_212 ⟨_, rfl⟩ rfl (by decide) ⟨_, _, rfl⟩ rfl (Nat.le_of_ble_eq_true rfl) (Nat.le_of_ble_eq_true rfl) (ct_outs (hP.scr h9) hQ) rfl (fun r19 m19 h19 => ?_)
      obtain ⟨rfl, rfl⟩ := h19
      refine g_icmp_ge (tgt := 63) dX11_likely_22 (by decide) (fun c22 => ?_) (fun c22 => ?_)
      · exact absurd (nI_lt hc (by omega)) (Int32.not_lt.mpr c22)
      · skip
        refine g_aload_n dX11_likely_25 rfl ?_
        refine g_iload_n dX11_likely_26 rfl ?_
        refine g_callVi dX11_likely_27 ln_X11_216 ⟨_, rfl⟩ rfl (by decide) ⟨_, _, rfl⟩ rfl (Nat.le_of_ble_eq_true rfl) (Nat.le_of_ble_eq_true rfl) (ct_fitting (s := evO P ds) (c := c) (hP.scr h9) hQ (hE.scr h9) hR hP2 (by omega)) rfl (fun r27 m27 h27 => ?_)
        obtain ⟨rfl, I3, rfl, hf3, ho3⟩ := h27
        have h93 : Fr [63] I I3 := h9.trans hf3
        have hfw := fW_le hQ (evO P ds) c
        refine g_istore dX11_likely_30 (by decide) ?_
        show Go _ _ _ _ _ _ [_, _, _, _, _] _ _ _
        refine g_iload dX11_likely_32 rfl ?_
        refine g_iload_n dX11_likely_34 rfl ?_
        refine g_icmp_le (tgt := 42) dX11_likely_35 (by decide) (fun c35 => ?_) (fun c35 => ?_)
        · skip
          refine g_iload_n dX11_likely_42 rfl ?_
          refine g_istore_n dX11_likely_43 (by decide) ?_
          show Go _ _ _ _ _ _ [_, _, _, _, _] _ _ _
          refine g_iload dX11_likely_44 rfl ?_
          refine g_iload_n dX11_likely_46 rfl ?_
          refine g_icmp_le (tgt := 55) dX11_likely_47 (by decide) (fun c47 => ?_) (fun c47 => ?_)
          · skip
            refine g_iload_n dX11_likely_55 rfl ?_
            refine g_istore_n dX11_likely_56 (by decide) ?_
            show Go _ _ _ _ _ _ [_, _, _, _, _] _ _ _
            refine g_iinc dX11_likely_57 rfl (by decide) ?_
            show Go _ _ _ _ _ _ [_, _, _, _, _] _ _ _
            refine g_goto (tgt := 17) dX11_likely_60 (by decide) ?_
            refine g_forget 4 ?_
            show Go _ _ _ _ _ _ [_, _, _, _, _] _ _ _
            rw [nI_inc]
            rw [hvF_s] at kk
            have hhv := hvF_le hQ (evO P ds) c
            first
              | (rw [if_neg (fun q => absurd (nI_lt q (by omega)) (Int32.not_lt.mpr c35))] at kk
                 first
                   | exact kk _ h93
                   | exact absurd c35 c47)
              | (rw [if_pos ((nI_ltI (by omega) (by omega)).mp (Int32.not_le.mp c35))] at kk
                 first
                   | exact kk _ h93
                   | exact absurd c47 c35)
              | fail "no way"
          · skip
            refine g_iload dX11_likely_50 rfl ?_
            refine g_goto (tgt := 56) dX11_likely_52 (by decide) ?_
            refine g_istore_n dX11_likely_56 (by decide) ?_
            show Go _ _ _ _ _ _ [_, _, _, _, _] _ _ _
            refine g_iinc dX11_likely_57 rfl (by decide) ?_
            show Go _ _ _ _ _ _ [_, _, _, _, _] _ _ _
            refine g_goto (tgt := 17) dX11_likely_60 (by decide) ?_
            refine g_forget 4 ?_
            show Go _ _ _ _ _ _ [_, _, _, _, _] _ _ _
            rw [nI_inc]
            rw [hvF_s] at kk
            have hhv := hvF_le hQ (evO P ds) c
            first
              | (rw [if_neg (fun q => absurd (nI_lt q (by omega)) (Int32.not_lt.mpr c35))] at kk
                 first
                   | exact kk _ h93
                   | exact absurd c35 c47)
              | (rw [if_pos ((nI_ltI (by omega) (by omega)).mp (Int32.not_le.mp c35))] at kk
                 first
                   | exact kk _ h93
                   | exact absurd c47 c35)
              | fail "no way"
        · skip
          refine g_iload_n dX11_likely_38 rfl ?_
          refine g_goto (tgt := 43) dX11_likely_39 (by decide) ?_
          refine g_istore_n dX11_likely_43 (by decide) ?_
          show Go _ _ _ _ _ _ [_, _, _, _, _] _ _ _
          refine g_iload dX11_likely_44 rfl ?_
          refine g_iload_n dX11_likely_46 rfl ?_
          refine g_icmp_le (tgt := 55) dX11_likely_47 (by decide) (fun c47 => ?_) (fun c47 => ?_)
          · skip
            refine g_iload_n dX11_likely_55 rfl ?_
            refine g_istore_n dX11_likely_56 (by decide) ?_
            show Go _ _ _ _ _ _ [_, _, _, _, _] _ _ _
            refine g_iinc dX11_likely_57 rfl (by decide) ?_
            show Go _ _ _ _ _ _ [_, _, _, _, _] _ _ _
            refine g_goto (tgt := 17) dX11_likely_60 (by decide) ?_
            refine g_forget 4 ?_
            show Go _ _ _ _ _ _ [_, _, _, _, _] _ _ _
            rw [nI_inc]
            rw [hvF_s] at kk
            have hhv := hvF_le hQ (evO P ds) c
            first
              | (rw [if_neg (fun q => absurd (nI_lt q (by omega)) (Int32.not_lt.mpr c35))] at kk
                 first
                   | exact kk _ h93
                   | exact absurd c35 c47)
              | (rw [if_pos ((nI_ltI (by omega) (by omega)).mp (Int32.not_le.mp c35))] at kk
                 first
                   | exact kk _ h93
                   | exact absurd c47 c35)
              | fail "no way"
          · skip
            refine g_iload dX11_likely_50 rfl ?_
            refine g_goto (tgt := 56) dX11_likely_52 (by decide) ?_
            refine g_istore_n dX11_likely_56 (by decide) ?_
            show Go _ _ _ _ _ _ [_, _, _, _, _] _ _ _
            refine g_iinc dX11_likely_57 rfl (by decide) ?_
            show Go _ _ _ _ _ _ [_, _, _, _, _] _ _ _
            refine g_goto (tgt := 17) dX11_likely_60 (by decide) ?_
            refine g_forget 4 ?_
            show Go _ _ _ _ _ _ [_, _, _, _, _] _ _ _
            rw [nI_inc]
            rw [hvF_s] at kk
            have hhv := hvF_le hQ (evO P ds) c
            first
              | (rw [if_neg (fun q => absurd (nI_lt q (by omega)) (Int32.not_lt.mpr c35))] at kk
                 first
                   | exact kk _ h93
                   | exact absurd c35 c47)
              | (rw [if_pos ((nI_ltI (by omega) (by omega)).mp (Int32.not_le.mp c35))] at kk
                 first
                   | exact kk _ h93
                   | exact absurd c47 c35)
              | fail "no way"
    · skip
      refine g_iload_n dX11_likely_17 rfl ?_
      refine g_aload_n dX11_likely_18 rfl ?_
      refine g_callVi dX11_likely_19 ln_X11_212 ⟨_, rfl⟩ rfl (by decide) ⟨_, _, rfl⟩ rfl (Nat.le_of_ble_eq_true rfl) (Nat.le_of_ble_eq_true rfl) (ct_outs (hP.scr h9) hQ) rfl (fun r19 m19 h19 => ?_)
      obtain ⟨rfl, rfl⟩ := h19
      refine g_icmp_ge (tgt := 63) dX11_likely_22 (by decide) (fun c22 => ?_) (fun c22 => ?_)
      · skip
        refine g_iload_n dX11_likely_63 rfl ?_
        refine g_iret dX11_likely_64 (fun ty h => by cases h; rfl) ?_
        exact ⟨_, rfl, FrM.of h9 (by decide), by unfold S_likely; rw [if_neg (show ¬ P.2.1 = 0 from fun q => c4 (by rw [q]; rfl))], hA.s63 h9⟩
      · exact absurd (Int32.le_refl _) c22
  · skip
    refine g_bipush (v := -4) dX11_likely_7 (by decide) ?_
    refine g_iret dX11_likely_9 (fun ty h => by cases h; rfl) ?_
    have h0 : P.2.1 = 0 := (nI_eq (by omega) (by decide)).mp (show nI P.2.1 = nI 0 from c4)
    exact ⟨_, rfl, FrM.rf, by unfold S_likely; rw [if_pos h0], hA⟩
theorem pm_odds {rw tx : Tab} {P : Pce} {ds : List Deed} {sh : Shf} {tl : Int32} {ch : Int64 × Int64} {fn : Fnd} {p : Int32} (hA : AbsM rw tx P ds sh tl ch fn I J) (hO : StOK rw tx P ds sh) : Ct X (d + 6) 66 M_X11_odds 66 [.ref 48, .int p] (I, J, rf0) (RI (fun y9 m => ∃ I' J', m = (I', J', rf0) ∧ FrM I I' ∧ J' 0 = J 0 ∧ y9 = (S_odds P ds ch fn p).1 ∧ AbsM rw tx P ds sh tl (S_odds P ds ch fn p).2.1 (S_odds P ds ch fn p).2.2 I' J')) := by
  have hP := hA.2.2.1
  have hQ := hO.2.2.1
  have h14 := hQ.2.1
  have h4 := hQ.1
  have hEv := hA.2.2.2.1
  have hD := hO.2.2.2.1
  have hE := hEv.2.2
  have hR : EvR (evO P ds) := EvR.e.run hQ hD.2
  have hP2 : EvP P (evO P ds) := EvP.e.run hD.2
  have h625 := p5 h4
  have htot := tot_lt hQ (evO P ds)
  show Go _ _ _ _ _ _ [_, _, _, _, _, _, _, _] _ _ _
  refine g_aload_n dX11_odds_0 rfl ?_
  refine g_iload_n dX11_odds_1 rfl ?_
  refine g_callVi dX11_odds_2 ln_X11_157 ⟨_, rfl⟩ rfl (by decide) ⟨_, _, rfl⟩ rfl (Nat.le_of_ble_eq_true rfl) (Nat.le_of_ble_eq_true rfl) (ct_isPlayer hP hQ) rfl (fun r2 m2 h2 => ?_)
  obtain ⟨rfl, rfl⟩ := h2
  refine g_if_ne (tgt := 10) dX11_odds_5 (by decide) (fun c5 => ?_) (fun c5 => ?_)
  · skip
    have q1 := bI_ne c5
    obtain ⟨p, hp, rfl⟩ := inR_ix (by omega) q1
    refine g_lconst (v := 0) dX11_odds_10 (by decide) ?_
    refine g_lstore_n dX11_odds_11 (by decide) ?_
    show Go _ _ _ _ _ _ [_, _, _, _, _, _, _, _] _ _ _
    refine g_lconst (v := 0) dX11_odds_12 (by decide) ?_
    refine g_lstore dX11_odds_13 (by decide) ?_
    show Go _ _ _ _ _ _ [_, _, _, _, _, _, _, _] _ _ _
    refine g_iconst (v := 0) dX11_odds_15 (by decide) ?_
    refine g_istore dX11_odds_16 (by decide) ?_
    show Go _ _ _ _ _ _ [_, _, _, _, _, _, _, _] _ _ _
    refine go_mem (fun c I2 => Fr [63] I I2) (5 ^ P.1) (fun c I2 => Go X (d + 6) 66 M_X11_odds 66 18 [.ref 48, .int (nI p), .long (lN (smF (upO P (evO P ds) p) c)), .null, .long (lN (smF (fW P (evO P ds)) c)), .null, .int (nI c), .null] [] (I2, J, rf0) (RI (fun y9 m => ∃ I' J', m = (I', J', rf0) ∧ FrM I I' ∧ J' 0 = J 0 ∧ y9 = (S_odds P ds ch fn (nI p)).1 ∧ AbsM rw tx P ds sh tl (S_odds P ds ch fn (nI p)).2.1 (S_odds P ds ch fn (nI p)).2.2 I' J'))) (fun c I2 hc h9 kk => ?_) (fun I2 h9 => ?_) _ Fr.rf
    · skip
      refine g_iload dX11_odds_18 rfl ?_
      refine g_aload_n dX11_odds_20 rfl ?_
      refine g_callVi dX11_odds_21 ln_X11_212 ⟨_, rfl⟩ rfl (by decide) ⟨_, _, rfl⟩ rfl (Nat.le_of_ble_eq_true rfl) (Nat.le_of_ble_eq_true rfl) (ct_outs (hP.scr h9) hQ) rfl (fun r21 m21 h21 => ?_)
      obtain ⟨rfl, rfl⟩ := h21
      refine g_icmp_ge (tgt := 68) dX11_odds_24 (by decide) (fun c24 => ?_) (fun c24 => ?_)
      · exact absurd (nI_lt hc (by omega)) (Int32.not_lt.mpr c24)
      · skip
        refine g_aload_n dX11_odds_27 rfl ?_
        refine g_iload dX11_odds_28 rfl ?_
        refine g_callVi dX11_odds_30 ln_X11_216 ⟨_, rfl⟩ rfl (by decide) ⟨_, _, rfl⟩ rfl (Nat.le_of_ble_eq_true rfl) (Nat.le_of_ble_eq_true rfl) (ct_fitting (s := evO P ds) (c := c) (hP.scr h9) hQ (hE.scr h9) hR hP2 (by omega)) rfl (fun r30 m30 h30 => ?_)
        obtain ⟨rfl, I3, rfl, hf3, ho3⟩ := h30
        have h93 : Fr [63] I I3 := h9.trans hf3
        have hfw := fW_le hQ (evO P ds) c
        refine g_istore dX11_odds_33 (by decide) ?_
        show Go _ _ _ _ _ _ [_, _, _, _, _, _, _, _] _ _ _
        refine g_lload dX11_odds_35 rfl ?_
        refine g_iload dX11_odds_37 rfl ?_
        refine g_i2l dX11_odds_39 ?_
        rw [nI_l (by omega)]
        refine g_ladd dX11_odds_40 ?_
        rw [lN_add]
        refine g_lstore dX11_odds_41 (by decide) ?_
        show Go _ _ _ _ _ _ [_, _, _, _, _, _, _, _] _ _ _
        refine g_lload_n dX11_odds_43 rfl ?_
        refine g_aload_n dX11_odds_44 rfl ?_
        refine t_getR dX11_odds_45 fl_X11_57 rfl (by decide) rfl (by decide) rfl ?_
        refine g_iload_n dX11_odds_48 rfl ?_
        refine t_iald dX11_odds_49 rfl (by decide) (in_nI (by omega) (by decide)) ?_
        rw [cl_nI (by omega), ho3.at h4 hp]
        refine g_if_eq (tgt := 59) dX11_odds_50 (by decide) (fun c50 => ?_) (fun c50 => ?_)
        · skip
          refine g_lconst (v := 0) dX11_odds_59 (by decide) ?_
          refine g_ladd dX11_odds_60 ?_
          refine g_lstore_n dX11_odds_61 (by decide) ?_
          show Go _ _ _ _ _ _ [_, _, _, _, _, _, _, _] _ _ _
          refine g_iinc dX11_odds_62 rfl (by decide) ?_
          show Go _ _ _ _ _ _ [_, _, _, _, _, _, _, _] _ _ _
          refine g_goto (tgt := 18) dX11_odds_65 (by decide) ?_
          refine g_forget 7 ?_
          show Go _ _ _ _ _ _ [_, _, _, _, _, _, _, _] _ _ _
          rw [nI_inc]
          rw [smF_s, smF_s] at kk
          first
            | (have h1 : dC c p = 2 := oC_0.mp c50
               rw [show upO P (evO P ds) p c = 0 from if_pos h1] at kk
               rw [show (0 : Int64) = lN 0 from rfl, lN_add]
               exact kk _ h93)
            | (have h1 : ¬ dC c p = 2 := fun q => c50 (oC_0.mpr q)
               rw [show upO P (evO P ds) p c = fW P (evO P ds) c from if_neg h1] at kk
               rw [lN_add]
               exact kk _ h93)
            | fail "no way"
        · skip
          refine g_iload dX11_odds_53 rfl ?_
          refine g_i2l dX11_odds_55 ?_
          rw [nI_l (by omega)]
          refine g_goto (tgt := 60) dX11_odds_56 (by decide) ?_
          refine g_ladd dX11_odds_60 ?_
          refine g_lstore_n dX11_odds_61 (by decide) ?_
          show Go _ _ _ _ _ _ [_, _, _, _, _, _, _, _] _ _ _
          refine g_iinc dX11_odds_62 rfl (by decide) ?_
          show Go _ _ _ _ _ _ [_, _, _, _, _, _, _, _] _ _ _
          refine g_goto (tgt := 18) dX11_odds_65 (by decide) ?_
          refine g_forget 7 ?_
          show Go _ _ _ _ _ _ [_, _, _, _, _, _, _, _] _ _ _
          rw [nI_inc]
          rw [smF_s, smF_s] at kk
          first
            | (have h1 : dC c p = 2 := oC_0.mp c50
               rw [show upO P (evO P ds) p c = 0 from if_pos h1] at kk
               rw [show (0 : Int64) = lN 0 from rfl, lN_add]
               exact kk _ h93)
            | (have h1 : ¬ dC c p = 2 := fun q => c50 (oC_0.mpr q)
               rw [show upO P (evO P ds) p c = fW P (evO P ds) c from if_neg h1] at kk
               rw [lN_add]
               exact kk _ h93)
            | fail "no way"
    · skip
      refine g_iload dX11_odds_18 rfl ?_
      refine g_aload_n dX11_odds_20 rfl ?_
      refine g_callVi dX11_odds_21 ln_X11_212 ⟨_, rfl⟩ rfl (by decide) ⟨_, _, rfl⟩ rfl (Nat.le_of_ble_eq_true rfl) (Nat.le_of_ble_eq_true rfl) (ct_outs (hP.scr h9) hQ) rfl (fun r21 m21 h21 => ?_)
      obtain ⟨rfl, rfl⟩ := h21
      refine g_icmp_ge (tgt := 68) dX11_odds_24 (by decide) (fun c24 => ?_) (fun c24 => ?_)
      · skip
        refine g_lload dX11_odds_68 rfl ?_
        refine g_lconst (v := 0) dX11_odds_70 (by decide) ?_
        refine g_lcmp dX11_odds_71 ?_
        refine g_if_ne (tgt := 83) dX11_odds_72 (by decide) (fun c72 => ?_) (fun c72 => ?_)
        · skip
          refine g_aload_n dX11_odds_83 rfl ?_
          refine g_lload_n dX11_odds_84 rfl ?_
          refine g_lload dX11_odds_85 rfl ?_
          rw [upO_w]
          have ht0 : 0 < smF (fW P (evO P ds)) (5 ^ P.1) := Nat.pos_of_ne_zero (fun q => c72 ((lg_cmp_eq _ _).mpr (by rw [q]; rfl)))
          refine g_callVi dX11_odds_87 ln_X11_222 ⟨_, rfl⟩ rfl (by decide) ⟨_, _, rfl⟩ rfl (Nat.le_of_ble_eq_true rfl) (Nat.le_of_ble_eq_true rfl) (ct_chance (by unfold wO; omega) htot ht0) rfl (fun r87 m87 h87 => ?_)
          obtain ⟨rfl, J1, rfl, hj1, hj2, hj3⟩ := h87
          refine g_iret dX11_odds_90 (fun ty h => by cases h; rfl) ?_
          first
            | (have hz : smF (fW P (evO P ds)) (5 ^ P.1) = 0 := (lN_eq (by omega) (by decide)).mp (show lN (smF (fW P (evO P ds)) (5 ^ P.1)) = lN 0 from (lg_cmp_eq _ _).mp c72)
               have hS : S_odds P ds ch fn (nI p) = (-3, ch, fndS 4 fn) := by unfold S_odds; rw [q1]; exact if_pos ((sm_cnt (fun i => fW_pos)).mp hz)
               exact ⟨_, _, rfl, (FrM.of h9 (by decide)).tr FrM.find, rfl, by rw [hS], by rw [hS]; exact (hA.s63 h9).find (by decide)⟩)
            | (have hz : ¬ cntP (ftB P (evO P ds)) (5 ^ P.1) = 0 := fun q => by have := (sm_cnt (f := fW P (evO P ds)) (fun i => fW_pos)).mpr q; omega
               have hS : S_odds P ds ch fn (nI p) = (1, chS (wO P (evO P ds) p) (smF (fW P (evO P ds)) (5 ^ P.1)), fn) := by unfold S_odds; rw [q1, cl_nI (by omega)]; exact if_neg hz
               exact ⟨_, _, rfl, FrM.of h9 (by decide), hj3, by rw [hS], by rw [hS]; exact (hA.s63 h9).chs hj1 hj2⟩)
            | fail "no way"
        · skip
          refine g_aload_n dX11_odds_75 rfl ?_
          refine g_iconst (v := 4) dX11_odds_76 (by decide) ?_
          refine g_callVi dX11_odds_77 ln_X11_80 ⟨_, rfl⟩ rfl (by decide) ⟨_, _, rfl⟩ rfl (Nat.le_of_ble_eq_true rfl) (Nat.le_of_ble_eq_true rfl) (ct_finds (w := 4) (by decide)) rfl (fun r77 m77 h77 => ?_)
          obtain ⟨rfl, rfl⟩ := h77
          refine g_goto (tgt := 90) dX11_odds_80 (by decide) ?_
          refine g_iret dX11_odds_90 (fun ty h => by cases h; rfl) ?_
          first
            | (have hz : smF (fW P (evO P ds)) (5 ^ P.1) = 0 := (lN_eq (by omega) (by decide)).mp (show lN (smF (fW P (evO P ds)) (5 ^ P.1)) = lN 0 from (lg_cmp_eq _ _).mp c72)
               have hS : S_odds P ds ch fn (nI p) = (-3, ch, fndS 4 fn) := by unfold S_odds; rw [q1]; exact if_pos ((sm_cnt (fun i => fW_pos)).mp hz)
               exact ⟨_, _, rfl, (FrM.of h9 (by decide)).tr FrM.find, rfl, by rw [hS], by rw [hS]; exact (hA.s63 h9).find (by decide)⟩)
            | (have hz : ¬ cntP (ftB P (evO P ds)) (5 ^ P.1) = 0 := fun q => by have := (sm_cnt (f := fW P (evO P ds)) (fun i => fW_pos)).mpr q; omega
               have hS : S_odds P ds ch fn (nI p) = (1, chS (wO P (evO P ds) p) (smF (fW P (evO P ds)) (5 ^ P.1)), fn) := by unfold S_odds; rw [q1, cl_nI (by omega)]; exact if_neg hz
               exact ⟨_, _, rfl, FrM.of h9 (by decide), hj3, by rw [hS], by rw [hS]; exact (hA.s63 h9).chs hj1 hj2⟩)
            | fail "no way"
      · exact absurd (Int32.le_refl _) c24
  · skip
    refine g_iconst (v := -1) dX11_odds_8 (by decide) ?_
    refine g_iret dX11_odds_9 (fun ty h => by cases h; rfl) ?_
    have hS : S_odds P ds ch fn p = (-1, ch, fn) := by unfold S_odds; rw [bI_eq c5]; rfl
    exact ⟨I, J, rfl, FrM.rf, rfl, by rw [hS], by rw [hS]; exact hA⟩
theorem pm_self {rw tx : Tab} {P : Pce} {ds : List Deed} {sh : Shf} {tl : Int32} {ch : Int64 × Int64} {fn : Fnd} {p : Int32} (hA : AbsM rw tx P ds sh tl ch fn I J) (hO : StOK rw tx P ds sh) : Ct X (d + 6) 66 M_X11_self 66 [.ref 48, .int p] (I, J, rf0) (RI (fun y9 m => ∃ I' J', m = (I', J', rf0) ∧ FrM I I' ∧ J' 0 = J 0 ∧ y9 = (S_self P ds ch fn p).1 ∧ AbsM rw tx P ds sh tl (S_self P ds ch fn p).2.1 (S_self P ds ch fn p).2.2 I' J')) := by
  have hP := hA.2.2.1
  have hQ := hO.2.2.1
  have h14 := hQ.2.1
  have h4 := hQ.1
  have hEv := hA.2.2.2.1
  have hD := hO.2.2.2.1
  have hE := hEv.2.2
  have hR : EvR (evO P ds) := EvR.e.run hQ hD.2
  have hP2 : EvP P (evO P ds) := EvP.e.run hD.2
  have h625 := p5 h4
  have htot := tot_lt hQ (evO P ds)
  show Go _ _ _ _ _ _ [_, _, _, _, _, _, _, _] _ _ _
  refine g_aload_n dX11_self_0 rfl ?_
  refine g_iload_n dX11_self_1 rfl ?_
  refine g_callVi dX11_self_2 ln_X11_157 ⟨_, rfl⟩ rfl (by decide) ⟨_, _, rfl⟩ rfl (Nat.le_of_ble_eq_true rfl) (Nat.le_of_ble_eq_true rfl) (ct_isPlayer hP hQ) rfl (fun r2 m2 h2 => ?_)
  obtain ⟨rfl, rfl⟩ := h2
  refine g_if_ne (tgt := 10) dX11_self_5 (by decide) (fun c5 => ?_) (fun c5 => ?_)
  · skip
    have q1 := bI_ne c5
    obtain ⟨p, hp, rfl⟩ := inR_ix (by omega) q1
    have hwa := wAt_lt hQ (evO P ds) p 2
    refine g_lconst (v := 0) dX11_self_10 (by decide) ?_
    refine g_lstore_n dX11_self_11 (by decide) ?_
    show Go _ _ _ _ _ _ [_, _, _, _, _, _, _, _] _ _ _
    refine g_lconst (v := 0) dX11_self_12 (by decide) ?_
    refine g_lstore dX11_self_13 (by decide) ?_
    show Go _ _ _ _ _ _ [_, _, _, _, _, _, _, _] _ _ _
    refine g_iconst (v := 0) dX11_self_15 (by decide) ?_
    refine g_istore dX11_self_16 (by decide) ?_
    show Go _ _ _ _ _ _ [_, _, _, _, _, _, _, _] _ _ _
    refine go_mem (fun c I2 => Fr [63] I I2) (5 ^ P.1) (fun c I2 => Go X (d + 6) 66 M_X11_self 66 18 [.ref 48, .int (nI p), .long (lN (smF (upS P (evO P ds) p) c)), .null, .long (lN (smF (wE P (evO P ds) p 2) c)), .null, .int (nI c), .null] [] (I2, J, rf0) (RI (fun y9 m => ∃ I' J', m = (I', J', rf0) ∧ FrM I I' ∧ J' 0 = J 0 ∧ y9 = (S_self P ds ch fn (nI p)).1 ∧ AbsM rw tx P ds sh tl (S_self P ds ch fn (nI p)).2.1 (S_self P ds ch fn (nI p)).2.2 I' J'))) (fun c I2 hc h9 kk => ?_) (fun I2 h9 => ?_) _ Fr.rf
    · skip
      refine g_iload dX11_self_18 rfl ?_
      refine g_aload_n dX11_self_20 rfl ?_
      refine g_callVi dX11_self_21 ln_X11_212 ⟨_, rfl⟩ rfl (by decide) ⟨_, _, rfl⟩ rfl (Nat.le_of_ble_eq_true rfl) (Nat.le_of_ble_eq_true rfl) (ct_outs (hP.scr h9) hQ) rfl (fun r21 m21 h21 => ?_)
      obtain ⟨rfl, rfl⟩ := h21
      refine g_icmp_ge (tgt := 83) dX11_self_24 (by decide) (fun c24 => ?_) (fun c24 => ?_)
      · exact absurd (nI_lt hc (by omega)) (Int32.not_lt.mpr c24)
      · skip
        refine g_aload_n dX11_self_27 rfl ?_
        refine g_iload dX11_self_28 rfl ?_
        refine g_callVi dX11_self_30 ln_X11_216 ⟨_, rfl⟩ rfl (by decide) ⟨_, _, rfl⟩ rfl (Nat.le_of_ble_eq_true rfl) (Nat.le_of_ble_eq_true rfl) (ct_fitting (s := evO P ds) (c := c) (hP.scr h9) hQ (hE.scr h9) hR hP2 (by omega)) rfl (fun r30 m30 h30 => ?_)
        obtain ⟨rfl, I3, rfl, hf3, ho3⟩ := h30
        have h93 : Fr [63] I I3 := h9.trans hf3
        have hfw := fW_le hQ (evO P ds) c
        refine g_istore dX11_self_33 (by decide) ?_
        show Go _ _ _ _ _ _ [_, _, _, _, _, _, _, _] _ _ _
        refine g_aload_n dX11_self_35 rfl ?_
        refine t_getR dX11_self_36 fl_X11_57 rfl (by decide) rfl (by decide) rfl ?_
        refine g_iload_n dX11_self_39 rfl ?_
        refine t_iald dX11_self_40 rfl (by decide) (in_nI (by omega) (by decide)) ?_
        rw [cl_nI (by omega), ho3.at h4 hp]
        refine g_if_ne (tgt := 49) dX11_self_41 (by decide) (fun c41 => ?_) (fun c41 => ?_)
        · skip
          refine g_iconst (v := 0) dX11_self_49 (by decide) ?_
          have hwv : wE P (evO P ds) p 2 c ≤ 256 := Nat.le_trans wE_le hfw
          refine (fun (key : Go X (d + 6) 66 M_X11_self 66 50 [.ref 48, .int (nI p), .long (lN (smF (upS P (evO P ds) p) c)), .null, .long (lN (smF (wE P (evO P ds) p 2) c)), .null, .int (nI c), .int (nI (fW P (evO P ds) c))] [.int (nI (wE P (evO P ds) p 2 c))] (I3, J, rf0) (RI (fun y9 m => ∃ I' J', m = (I', J', rf0) ∧ FrM I I' ∧ J' 0 = J 0 ∧ y9 = (S_self P ds ch fn (nI p)).1 ∧ AbsM rw tx P ds sh tl (S_self P ds ch fn (nI p)).2.1 (S_self P ds ch fn (nI p)).2.2 I' J'))) => ?_) ?_
          · first
              | (have h1 : dC c p = 2 := oC_0.mp c41
                 rw [show wE P (evO P ds) p 2 c = fW P (evO P ds) c from if_pos h1] at key
                 exact key)
              | (have h1 : ¬ dC c p = 2 := fun q => c41 (oC_0.mpr q)
                 rw [show wE P (evO P ds) p 2 c = 0 from if_neg h1] at key
                 exact key)
              | fail "no way"
          refine g_istore dX11_self_50 (by decide) ?_
          show Go _ _ _ _ _ _ [_, _, _, _, _, _, _, _] _ _ _
          refine g_lload dX11_self_52 rfl ?_
          refine g_iload dX11_self_54 rfl ?_
          refine g_i2l dX11_self_56 ?_
          rw [nI_l (by omega)]
          refine g_ladd dX11_self_57 ?_
          rw [lN_add]
          refine g_lstore dX11_self_58 (by decide) ?_
          show Go _ _ _ _ _ _ [_, _, _, _, _, _, _, _] _ _ _
          refine g_lload_n dX11_self_60 rfl ?_
          refine g_aload_n dX11_self_61 rfl ?_
          refine g_callVi dX11_self_62 ln_X11_226 ⟨_, rfl⟩ rfl (by decide) ⟨_, _, rfl⟩ rfl (Nat.le_of_ble_eq_true rfl) (Nat.le_of_ble_eq_true rfl) (ct_isAny (hP.scr h93) hQ ho3) rfl (fun r62 m62 h62 => ?_)
          obtain ⟨rfl, rfl⟩ := h62
          refine g_if_eq (tgt := 74) dX11_self_65 (by decide) (fun c65 => ?_) (fun c65 => ?_)
          · skip
            refine g_lconst (v := 0) dX11_self_74 (by decide) ?_
            refine g_ladd dX11_self_75 ?_
            refine g_lstore_n dX11_self_76 (by decide) ?_
            show Go _ _ _ _ _ _ [_, _, _, _, _, _, _, _] _ _ _
            refine g_iinc dX11_self_77 rfl (by decide) ?_
            show Go _ _ _ _ _ _ [_, _, _, _, _, _, _, _] _ _ _
            refine g_goto (tgt := 18) dX11_self_80 (by decide) ?_
            refine g_forget 7 ?_
            show Go _ _ _ _ _ _ [_, _, _, _, _, _, _, _] _ _ _
            rw [nI_inc]
            rw [smF_s, smF_s] at kk
            first
              | (have h1 : cntO c P.1 = 0 := Decidable.of_not_not (of_decide_eq_false (bI_eq c65))
                 rw [show upS P (evO P ds) p c = 0 from if_pos h1] at kk
                 rw [show (0 : Int64) = lN 0 from rfl, lN_add]
                 exact kk _ h93)
              | (have h1 : ¬ cntO c P.1 = 0 := of_decide_eq_true (bI_ne c65)
                 rw [show upS P (evO P ds) p c = wE P (evO P ds) p 2 c from if_neg h1] at kk
                 rw [lN_add]
                 exact kk _ h93)
              | fail "no way"
          · skip
            refine g_iload dX11_self_68 rfl ?_
            refine g_i2l dX11_self_70 ?_
            rw [nI_l (by omega)]
            refine g_goto (tgt := 75) dX11_self_71 (by decide) ?_
            refine g_ladd dX11_self_75 ?_
            refine g_lstore_n dX11_self_76 (by decide) ?_
            show Go _ _ _ _ _ _ [_, _, _, _, _, _, _, _] _ _ _
            refine g_iinc dX11_self_77 rfl (by decide) ?_
            show Go _ _ _ _ _ _ [_, _, _, _, _, _, _, _] _ _ _
            refine g_goto (tgt := 18) dX11_self_80 (by decide) ?_
            refine g_forget 7 ?_
            show Go _ _ _ _ _ _ [_, _, _, _, _, _, _, _] _ _ _
            rw [nI_inc]
            rw [smF_s, smF_s] at kk
            first
              | (have h1 : cntO c P.1 = 0 := Decidable.of_not_not (of_decide_eq_false (bI_eq c65))
                 rw [show upS P (evO P ds) p c = 0 from if_pos h1] at kk
                 rw [show (0 : Int64) = lN 0 from rfl, lN_add]
                 exact kk _ h93)
              | (have h1 : ¬ cntO c P.1 = 0 := of_decide_eq_true (bI_ne c65)
                 rw [show upS P (evO P ds) p c = wE P (evO P ds) p 2 c from if_neg h1] at kk
                 rw [lN_add]
                 exact kk _ h93)
              | fail "no way"
        · skip
          refine g_iload dX11_self_44 rfl ?_
          refine g_goto (tgt := 50) dX11_self_46 (by decide) ?_
          have hwv : wE P (evO P ds) p 2 c ≤ 256 := Nat.le_trans wE_le hfw
          refine (fun (key : Go X (d + 6) 66 M_X11_self 66 50 [.ref 48, .int (nI p), .long (lN (smF (upS P (evO P ds) p) c)), .null, .long (lN (smF (wE P (evO P ds) p 2) c)), .null, .int (nI c), .int (nI (fW P (evO P ds) c))] [.int (nI (wE P (evO P ds) p 2 c))] (I3, J, rf0) (RI (fun y9 m => ∃ I' J', m = (I', J', rf0) ∧ FrM I I' ∧ J' 0 = J 0 ∧ y9 = (S_self P ds ch fn (nI p)).1 ∧ AbsM rw tx P ds sh tl (S_self P ds ch fn (nI p)).2.1 (S_self P ds ch fn (nI p)).2.2 I' J'))) => ?_) ?_
          · first
              | (have h1 : dC c p = 2 := oC_0.mp c41
                 rw [show wE P (evO P ds) p 2 c = fW P (evO P ds) c from if_pos h1] at key
                 exact key)
              | (have h1 : ¬ dC c p = 2 := fun q => c41 (oC_0.mpr q)
                 rw [show wE P (evO P ds) p 2 c = 0 from if_neg h1] at key
                 exact key)
              | fail "no way"
          refine g_istore dX11_self_50 (by decide) ?_
          show Go _ _ _ _ _ _ [_, _, _, _, _, _, _, _] _ _ _
          refine g_lload dX11_self_52 rfl ?_
          refine g_iload dX11_self_54 rfl ?_
          refine g_i2l dX11_self_56 ?_
          rw [nI_l (by omega)]
          refine g_ladd dX11_self_57 ?_
          rw [lN_add]
          refine g_lstore dX11_self_58 (by decide) ?_
          show Go _ _ _ _ _ _ [_, _, _, _, _, _, _, _] _ _ _
          refine g_lload_n dX11_self_60 rfl ?_
          refine g_aload_n dX11_self_61 rfl ?_
          refine g_callVi dX11_self_62 ln_X11_226 ⟨_, rfl⟩ rfl (by decide) ⟨_, _, rfl⟩ rfl (Nat.le_of_ble_eq_true rfl) (Nat.le_of_ble_eq_true rfl) (ct_isAny (hP.scr h93) hQ ho3) rfl (fun r62 m62 h62 => ?_)
          obtain ⟨rfl, rfl⟩ := h62
          refine g_if_eq (tgt := 74) dX11_self_65 (by decide) (fun c65 => ?_) (fun c65 => ?_)
          · skip
            refine g_lconst (v := 0) dX11_self_74 (by decide) ?_
            refine g_ladd dX11_self_75 ?_
            refine g_lstore_n dX11_self_76 (by decide) ?_
            show Go _ _ _ _ _ _ [_, _, _, _, _, _, _, _] _ _ _
            refine g_iinc dX11_self_77 rfl (by decide) ?_
            show Go _ _ _ _ _ _ [_, _, _, _, _, _, _, _] _ _ _
            refine g_goto (tgt := 18) dX11_self_80 (by decide) ?_
            refine g_forget 7 ?_
            show Go _ _ _ _ _ _ [_, _, _, _, _, _, _, _] _ _ _
            rw [nI_inc]
            rw [smF_s, smF_s] at kk
            first
              | (have h1 : cntO c P.1 = 0 := Decidable.of_not_not (of_decide_eq_false (bI_eq c65))
                 rw [show upS P (evO P ds) p c = 0 from if_pos h1] at kk
                 rw [show (0 : Int64) = lN 0 from rfl, lN_add]
                 exact kk _ h93)
              | (have h1 : ¬ cntO c P.1 = 0 := of_decide_eq_true (bI_ne c65)
                 rw [show upS P (evO P ds) p c = wE P (evO P ds) p 2 c from if_neg h1] at kk
                 rw [lN_add]
                 exact kk _ h93)
              | fail "no way"
          · skip
            refine g_iload dX11_self_68 rfl ?_
            refine g_i2l dX11_self_70 ?_
            rw [nI_l (by omega)]
            refine g_goto (tgt := 75) dX11_self_71 (by decide) ?_
            refine g_ladd dX11_self_75 ?_
            refine g_lstore_n dX11_self_76 (by decide) ?_
            show Go _ _ _ _ _ _ [_, _, _, _, _, _, _, _] _ _ _
            refine g_iinc dX11_self_77 rfl (by decide) ?_
            show Go _ _ _ _ _ _ [_, _, _, _, _, _, _, _] _ _ _
            refine g_goto (tgt := 18) dX11_self_80 (by decide) ?_
            refine g_forget 7 ?_
            show Go _ _ _ _ _ _ [_, _, _, _, _, _, _, _] _ _ _
            rw [nI_inc]
            rw [smF_s, smF_s] at kk
            first
              | (have h1 : cntO c P.1 = 0 := Decidable.of_not_not (of_decide_eq_false (bI_eq c65))
                 rw [show upS P (evO P ds) p c = 0 from if_pos h1] at kk
                 rw [show (0 : Int64) = lN 0 from rfl, lN_add]
                 exact kk _ h93)
              | (have h1 : ¬ cntO c P.1 = 0 := of_decide_eq_true (bI_ne c65)
                 rw [show upS P (evO P ds) p c = wE P (evO P ds) p 2 c from if_neg h1] at kk
                 rw [lN_add]
                 exact kk _ h93)
              | fail "no way"
    · skip
      refine g_iload dX11_self_18 rfl ?_
      refine g_aload_n dX11_self_20 rfl ?_
      refine g_callVi dX11_self_21 ln_X11_212 ⟨_, rfl⟩ rfl (by decide) ⟨_, _, rfl⟩ rfl (Nat.le_of_ble_eq_true rfl) (Nat.le_of_ble_eq_true rfl) (ct_outs (hP.scr h9) hQ) rfl (fun r21 m21 h21 => ?_)
      obtain ⟨rfl, rfl⟩ := h21
      refine g_icmp_ge (tgt := 83) dX11_self_24 (by decide) (fun c24 => ?_) (fun c24 => ?_)
      · skip
        refine g_lload dX11_self_83 rfl ?_
        refine g_lconst (v := 0) dX11_self_85 (by decide) ?_
        refine g_lcmp dX11_self_86 ?_
        refine g_if_ne (tgt := 98) dX11_self_87 (by decide) (fun c87 => ?_) (fun c87 => ?_)
        · skip
          refine g_aload_n dX11_self_98 rfl ?_
          refine g_lload_n dX11_self_99 rfl ?_
          refine g_lload dX11_self_100 rfl ?_
          rw [upS_w hp]
          have ht0 : 0 < smF (wE P (evO P ds) p 2) (5 ^ P.1) := Nat.pos_of_ne_zero (fun q => c87 ((lg_cmp_eq _ _).mpr (by rw [q]; rfl)))
          refine g_callVi dX11_self_102 ln_X11_222 ⟨_, rfl⟩ rfl (by decide) ⟨_, _, rfl⟩ rfl (Nat.le_of_ble_eq_true rfl) (Nat.le_of_ble_eq_true rfl) (ct_chance (by omega) hwa ht0) rfl (fun r102 m102 h102 => ?_)
          obtain ⟨rfl, J1, rfl, hj1, hj2, hj3⟩ := h102
          refine g_iret dX11_self_105 (fun ty h => by cases h; rfl) ?_
          first
            | (have hz : smF (wE P (evO P ds) p 2) (5 ^ P.1) = 0 := (lN_eq (by omega) (by decide)).mp (show lN (smF (wE P (evO P ds) p 2) (5 ^ P.1)) = lN 0 from (lg_cmp_eq _ _).mp c87)
               have hS : S_self P ds ch fn (nI p) = (-3, ch, fndS 4 fn) := by unfold S_self; rw [q1, cl_nI (by omega)]; exact if_pos ((sm_cnt (fun i => wE_pos)).mp hz)
               exact ⟨_, _, rfl, (FrM.of h9 (by decide)).tr FrM.find, rfl, by rw [hS], by rw [hS]; exact (hA.s63 h9).find (by decide)⟩)
            | (have hz : ¬ cntP (ft0 P (evO P ds) p) (5 ^ P.1) = 0 := fun q => by have := (sm_cnt (f := wE P (evO P ds) p 2) (fun i => wE_pos)).mpr q; omega
               have hS : S_self P ds ch fn (nI p) = (1, chS (smF (wE P (evO P ds) p 2) (5 ^ P.1) - smF (nobW P (evO P ds)) (5 ^ P.1)) (smF (wE P (evO P ds) p 2) (5 ^ P.1)), fn) := by unfold S_self; rw [q1, cl_nI (by omega)]; exact if_neg hz
               exact ⟨_, _, rfl, FrM.of h9 (by decide), hj3, by rw [hS], by rw [hS]; exact (hA.s63 h9).chs hj1 hj2⟩)
            | fail "no way"
        · skip
          refine g_aload_n dX11_self_90 rfl ?_
          refine g_iconst (v := 4) dX11_self_91 (by decide) ?_
          refine g_callVi dX11_self_92 ln_X11_80 ⟨_, rfl⟩ rfl (by decide) ⟨_, _, rfl⟩ rfl (Nat.le_of_ble_eq_true rfl) (Nat.le_of_ble_eq_true rfl) (ct_finds (w := 4) (by decide)) rfl (fun r92 m92 h92 => ?_)
          obtain ⟨rfl, rfl⟩ := h92
          refine g_goto (tgt := 105) dX11_self_95 (by decide) ?_
          refine g_iret dX11_self_105 (fun ty h => by cases h; rfl) ?_
          first
            | (have hz : smF (wE P (evO P ds) p 2) (5 ^ P.1) = 0 := (lN_eq (by omega) (by decide)).mp (show lN (smF (wE P (evO P ds) p 2) (5 ^ P.1)) = lN 0 from (lg_cmp_eq _ _).mp c87)
               have hS : S_self P ds ch fn (nI p) = (-3, ch, fndS 4 fn) := by unfold S_self; rw [q1, cl_nI (by omega)]; exact if_pos ((sm_cnt (fun i => wE_pos)).mp hz)
               exact ⟨_, _, rfl, (FrM.of h9 (by decide)).tr FrM.find, rfl, by rw [hS], by rw [hS]; exact (hA.s63 h9).find (by decide)⟩)
            | (have hz : ¬ cntP (ft0 P (evO P ds) p) (5 ^ P.1) = 0 := fun q => by have := (sm_cnt (f := wE P (evO P ds) p 2) (fun i => wE_pos)).mpr q; omega
               have hS : S_self P ds ch fn (nI p) = (1, chS (smF (wE P (evO P ds) p 2) (5 ^ P.1) - smF (nobW P (evO P ds)) (5 ^ P.1)) (smF (wE P (evO P ds) p 2) (5 ^ P.1)), fn) := by unfold S_self; rw [q1, cl_nI (by omega)]; exact if_neg hz
               exact ⟨_, _, rfl, FrM.of h9 (by decide), hj3, by rw [hS], by rw [hS]; exact (hA.s63 h9).chs hj1 hj2⟩)
            | fail "no way"
      · exact absurd (Int32.le_refl _) c24
  · skip
    refine g_iconst (v := -1) dX11_self_8 (by decide) ?_
    refine g_iret dX11_self_9 (fun ty h => by cases h; rfl) ?_
    have hS : S_self P ds ch fn p = (-1, ch, fn) := by unfold S_self; rw [bI_eq c5]; rfl
    exact ⟨I, J, rfl, FrM.rf, rfl, by rw [hS], by rw [hS]; exact hA⟩
theorem pm_aloud {rw tx : Tab} {P : Pce} {ds : List Deed} {sh : Shf} {tl : Int32} {ch : Int64 × Int64} {fn : Fnd} (hA : AbsM rw tx P ds sh tl ch fn I J) (hO : StOK rw tx P ds sh) : Ct X (d + 6) 66 M_X11_aloud 66 [.ref 48] (I, J, rf0) (RI (fun y9 m => ∃ I', m = (I', J, rf0) ∧ FrM I I' ∧ y9 = (S_aloud P ds tl fn).1 ∧ AbsM rw tx P ds sh (S_aloud P ds tl fn).2.1 ch (S_aloud P ds tl fn).2.2 I' J)) := by
  have hP := hA.2.2.1
  have hQ := hO.2.2.1
  have h14 := hQ.2.1
  have h4 := hQ.1
  have hEv := hA.2.2.2.1
  have hD := hO.2.2.2.1
  have hE := hEv.2.2
  have hR : EvR (evO P ds) := EvR.e.run hQ hD.2
  have hP2 : EvP P (evO P ds) := EvP.e.run hD.2
  have h625 := p5 h4
  have htot := tot_lt hQ (evO P ds)
  show Go _ _ _ _ _ _ [_, _, _, _, _, _, _, _] _ _ _
  refine g_aload_n dX11_aloud_0 rfl ?_
  refine t_getI dX11_aloud_1 fl_X11_119 rfl (by decide) rfl (by decide) ?_
  rw [hP.2.1]
  refine g_if_ne (tgt := 10) dX11_aloud_4 (by decide) (fun c4 => ?_) (fun c4 => ?_)
  · skip
    have h2p : 2 ≤ P.1 := hQ.2.2.1.resolve_left (show ¬ P.2.1 = 0 from fun q => c4 (by rw [q]; rfl))
    refine g_iconst (v := 0) dX11_aloud_10 (by decide) ?_
    refine g_istore_n dX11_aloud_11 (by decide) ?_
    show Go _ _ _ _ _ _ [_, _, _, _, _, _, _, _] _ _ _
    refine g_sipush (v := 9999) dX11_aloud_12 (by decide) ?_
    refine g_istore_n dX11_aloud_15 (by decide) ?_
    show Go _ _ _ _ _ _ [_, _, _, _, _, _, _, _] _ _ _
    refine g_iconst (v := 0) dX11_aloud_16 (by decide) ?_
    refine g_istore_n dX11_aloud_17 (by decide) ?_
    show Go _ _ _ _ _ _ [_, _, _, _, _, _, _, _] _ _ _
    refine g_iconst (v := 0) dX11_aloud_18 (by decide) ?_
    refine g_istore dX11_aloud_19 (by decide) ?_
    show Go _ _ _ _ _ _ [_, _, _, _, _, _, _, _] _ _ _
    refine go_mem (fun p I4 => Fr [63] I I4) P.1 (fun p I4 => Go X (d + 6) 66 M_X11_aloud 66 21 [.ref 48, .int (nI (alF P (evO P ds) p)), .int (nI (if p = 0 then 9999 else cntP (ft0 P (evO P ds) (alF P (evO P ds) p)) (5 ^ P.1))), .int (nI (if p = 0 then 0 else cntP (ftB P (evO P ds)) (5 ^ P.1))), .int (nI p), .null, .null, .null] [] (I4, J, rf0) (RI (fun y9 m => ∃ I', m = (I', J, rf0) ∧ FrM I I' ∧ y9 = (S_aloud P ds tl fn).1 ∧ AbsM rw tx P ds sh (S_aloud P ds tl fn).2.1 ch (S_aloud P ds tl fn).2.2 I' J))) (fun p I4 hp h8 kk2 => ?_) (fun I4 h8 => ?_) _ Fr.rf
    · skip
      refine g_iload dX11_aloud_21 rfl ?_
      refine g_aload_n dX11_aloud_23 rfl ?_
      refine t_getI dX11_aloud_24 fl_X11_116 rfl (by decide) rfl (by decide) ?_
      rw [h8 48 (by decide), hP.1]
      refine g_icmp_ge (tgt := 131) dX11_aloud_27 (by decide) (fun c27 => ?_) (fun c27 => ?_)
      · exact absurd (nI_lt hp (by omega)) (Int32.not_lt.mpr c27)
      · skip
        refine g_iconst (v := 0) dX11_aloud_30 (by decide) ?_
        refine g_istore dX11_aloud_31 (by decide) ?_
        show Go _ _ _ _ _ _ [_, _, _, _, _, _, _, _] _ _ _
        refine g_iconst (v := 0) dX11_aloud_33 (by decide) ?_
        refine g_istore_n dX11_aloud_34 (by decide) ?_
        show Go _ _ _ _ _ _ [_, _, _, _, _, _, _, _] _ _ _
        refine g_iconst (v := 0) dX11_aloud_35 (by decide) ?_
        refine g_istore dX11_aloud_36 (by decide) ?_
        show Go _ _ _ _ _ _ [_, _, _, _, _, _, _, _] _ _ _
        refine go_mem (fun c I2 => Fr [63] I I2) (5 ^ P.1) (fun c I2 => Go X (d + 6) 66 M_X11_aloud 66 38 [.ref 48, .int (nI (alF P (evO P ds) p)), .int (nI (if p = 0 then 9999 else cntP (ft0 P (evO P ds) (alF P (evO P ds) p)) (5 ^ P.1))), .int (nI (cntP (ftB P (evO P ds)) c)), .int (nI p), .int (nI (cntP (ft0 P (evO P ds) p) c)), .int (nI c), .null] [] (I2, J, rf0) (RI (fun y9 m => ∃ I', m = (I', J, rf0) ∧ FrM I I' ∧ y9 = (S_aloud P ds tl fn).1 ∧ AbsM rw tx P ds sh (S_aloud P ds tl fn).2.1 ch (S_aloud P ds tl fn).2.2 I' J))) (fun c I2 hc h9 kk => ?_) (fun I2 h9 => ?_) _ h8
        · skip
          refine g_iload dX11_aloud_38 rfl ?_
          refine g_aload_n dX11_aloud_40 rfl ?_
          refine g_callVi dX11_aloud_41 ln_X11_212 ⟨_, rfl⟩ rfl (by decide) ⟨_, _, rfl⟩ rfl (Nat.le_of_ble_eq_true rfl) (Nat.le_of_ble_eq_true rfl) (ct_outs (hP.scr h9) hQ) rfl (fun r41 m41 h41 => ?_)
          obtain ⟨rfl, rfl⟩ := h41
          refine g_icmp_ge (tgt := 99) dX11_aloud_44 (by decide) (fun c44 => ?_) (fun c44 => ?_)
          · exact absurd (nI_lt hc (by omega)) (Int32.not_lt.mpr c44)
          · skip
            refine g_aload_n dX11_aloud_47 rfl ?_
            refine g_iload dX11_aloud_48 rfl ?_
            refine g_callVi dX11_aloud_50 ln_X11_216 ⟨_, rfl⟩ rfl (by decide) ⟨_, _, rfl⟩ rfl (Nat.le_of_ble_eq_true rfl) (Nat.le_of_ble_eq_true rfl) (ct_fitting (s := evO P ds) (c := c) (hP.scr h9) hQ (hE.scr h9) hR hP2 (by omega)) rfl (fun r50 m50 h50 => ?_)
            obtain ⟨rfl, I3, rfl, hf3, ho3⟩ := h50
            have h93 : Fr [63] I I3 := h9.trans hf3
            have hfw := fW_le hQ (evO P ds) c
            refine g_istore dX11_aloud_53 (by decide) ?_
            show Go _ _ _ _ _ _ [_, _, _, _, _, _, _, _] _ _ _
            refine g_iload_n dX11_aloud_55 rfl ?_
            refine g_iload dX11_aloud_56 rfl ?_
            refine g_if_le (tgt := 65) dX11_aloud_58 (by decide) (fun c58 => ?_) (fun c58 => ?_)
            · skip
              refine g_iconst (v := 0) dX11_aloud_65 (by decide) ?_
              refine g_iadd dX11_aloud_66 ?_
              refine g_istore_n dX11_aloud_67 (by decide) ?_
              show Go _ _ _ _ _ _ [_, _, _, _, _, _, _, _] _ _ _
              refine g_iload dX11_aloud_68 rfl ?_
              refine g_iload dX11_aloud_70 rfl ?_
              refine g_if_le (tgt := 89) dX11_aloud_72 (by decide) (fun c72 => ?_) (fun c72 => ?_)
              · skip
                refine g_iconst (v := 0) dX11_aloud_89 (by decide) ?_
                refine g_iadd dX11_aloud_90 ?_
                refine g_istore dX11_aloud_91 (by decide) ?_
                show Go _ _ _ _ _ _ [_, _, _, _, _, _, _, _] _ _ _
                refine g_iinc dX11_aloud_93 rfl (by decide) ?_
                show Go _ _ _ _ _ _ [_, _, _, _, _, _, _, _] _ _ _
                refine g_goto (tgt := 38) dX11_aloud_96 (by decide) ?_
                refine g_forget 7 ?_
                show Go _ _ _ _ _ _ [_, _, _, _, _, _, _, _] _ _ _
                rw [nI_inc]
                rw [cntP_s, cntP_s] at kk
                first
                  | exact absurd c58 c72
                  | exact absurd c72 c58
                  | (have hno : ftB P (evO P ds) c = false := bfalse (fun q => by
                       have := fW_pos.mpr q
                       exact absurd c58 (nI_nle this (by omega)))
                     rw [hno, show ft0 P (evO P ds) p c = false by unfold ft0; rw [hno]; rfl] at kk
                     rw [show (0 : Int32) = nI 0 from rfl, nI_add, nI_add]
                     first
                       | exact kk _ h93
                       | exact absurd c58 c72)
                  | (have hyes : ftB P (evO P ds) c = true := fW_pos.mp (Nat.pos_of_ne_zero (fun q => c58 (by rw [q]; decide)))
                     rw [hyes] at kk
                     first
                       | exact absurd c72 c58
                       | (have h1 : ¬ dC c p = 2 := fun q => c82 (oC_0.mpr q)
                          rw [show ft0 P (evO P ds) p c = false by unfold ft0; rw [decide_eq_false h1, Bool.and_false]] at kk
                          rw [show (0 : Int32) = nI 0 from rfl, show (1 : Int32) = nI 1 from rfl, nI_add, nI_add]
                          exact kk _ h93)
                       | (have h1 : dC c p = 2 := oC_0.mp c82
                          rw [show ft0 P (evO P ds) p c = true by unfold ft0; rw [hyes, decide_eq_true h1]; rfl] at kk
                          rw [show (1 : Int32) = nI 1 from rfl, nI_add, nI_add]
                          exact kk _ h93))
                  | fail "no way"
              · skip
                refine g_aload_n dX11_aloud_75 rfl ?_
                refine t_getR dX11_aloud_76 fl_X11_57 rfl (by decide) rfl (by decide) rfl ?_
                refine g_iload dX11_aloud_79 rfl ?_
                refine t_iald dX11_aloud_81 rfl (by decide) (in_nI (by omega) (by decide)) ?_
                rw [cl_nI (by omega), ho3.at h4 hp]
                refine g_if_ne (tgt := 89) dX11_aloud_82 (by decide) (fun c82 => ?_) (fun c82 => ?_)
                · skip
                  refine g_iconst (v := 0) dX11_aloud_89 (by decide) ?_
                  refine g_iadd dX11_aloud_90 ?_
                  refine g_istore dX11_aloud_91 (by decide) ?_
                  show Go _ _ _ _ _ _ [_, _, _, _, _, _, _, _] _ _ _
                  refine g_iinc dX11_aloud_93 rfl (by decide) ?_
                  show Go _ _ _ _ _ _ [_, _, _, _, _, _, _, _] _ _ _
                  refine g_goto (tgt := 38) dX11_aloud_96 (by decide) ?_
                  refine g_forget 7 ?_
                  show Go _ _ _ _ _ _ [_, _, _, _, _, _, _, _] _ _ _
                  rw [nI_inc]
                  rw [cntP_s, cntP_s] at kk
                  first
                    | exact absurd c58 c72
                    | exact absurd c72 c58
                    | (have hno : ftB P (evO P ds) c = false := bfalse (fun q => by
                         have := fW_pos.mpr q
                         exact absurd c58 (nI_nle this (by omega)))
                       rw [hno, show ft0 P (evO P ds) p c = false by unfold ft0; rw [hno]; rfl] at kk
                       rw [show (0 : Int32) = nI 0 from rfl, nI_add, nI_add]
                       first
                         | exact kk _ h93
                         | exact absurd c58 c72)
                    | (have hyes : ftB P (evO P ds) c = true := fW_pos.mp (Nat.pos_of_ne_zero (fun q => c58 (by rw [q]; decide)))
                       rw [hyes] at kk
                       first
                         | exact absurd c72 c58
                         | (have h1 : ¬ dC c p = 2 := fun q => c82 (oC_0.mpr q)
                            rw [show ft0 P (evO P ds) p c = false by unfold ft0; rw [decide_eq_false h1, Bool.and_false]] at kk
                            rw [show (0 : Int32) = nI 0 from rfl, show (1 : Int32) = nI 1 from rfl, nI_add, nI_add]
                            exact kk _ h93)
                         | (have h1 : dC c p = 2 := oC_0.mp c82
                            rw [show ft0 P (evO P ds) p c = true by unfold ft0; rw [hyes, decide_eq_true h1]; rfl] at kk
                            rw [show (1 : Int32) = nI 1 from rfl, nI_add, nI_add]
                            exact kk _ h93))
                    | fail "no way"
                · skip
                  refine g_iconst (v := 1) dX11_aloud_85 (by decide) ?_
                  refine g_goto (tgt := 90) dX11_aloud_86 (by decide) ?_
                  refine g_iadd dX11_aloud_90 ?_
                  refine g_istore dX11_aloud_91 (by decide) ?_
                  show Go _ _ _ _ _ _ [_, _, _, _, _, _, _, _] _ _ _
                  refine g_iinc dX11_aloud_93 rfl (by decide) ?_
                  show Go _ _ _ _ _ _ [_, _, _, _, _, _, _, _] _ _ _
                  refine g_goto (tgt := 38) dX11_aloud_96 (by decide) ?_
                  refine g_forget 7 ?_
                  show Go _ _ _ _ _ _ [_, _, _, _, _, _, _, _] _ _ _
                  rw [nI_inc]
                  rw [cntP_s, cntP_s] at kk
                  first
                    | exact absurd c58 c72
                    | exact absurd c72 c58
                    | (have hno : ftB P (evO P ds) c = false := bfalse (fun q => by
                         have := fW_pos.mpr q
                         exact absurd c58 (nI_nle this (by omega)))
                       rw [hno, show ft0 P (evO P ds) p c = false by unfold ft0; rw [hno]; rfl] at kk
                       rw [show (0 : Int32) = nI 0 from rfl, nI_add, nI_add]
                       first
                         | exact kk _ h93
                         | exact absurd c58 c72)
                    | (have hyes : ftB P (evO P ds) c = true := fW_pos.mp (Nat.pos_of_ne_zero (fun q => c58 (by rw [q]; decide)))
                       rw [hyes] at kk
                       first
                         | exact absurd c72 c58
                         | (have h1 : ¬ dC c p = 2 := fun q => c82 (oC_0.mpr q)
                            rw [show ft0 P (evO P ds) p c = false by unfold ft0; rw [decide_eq_false h1, Bool.and_false]] at kk
                            rw [show (0 : Int32) = nI 0 from rfl, show (1 : Int32) = nI 1 from rfl, nI_add, nI_add]
                            exact kk _ h93)
                         | (have h1 : dC c p = 2 := oC_0.mp c82
                            rw [show ft0 P (evO P ds) p c = true by unfold ft0; rw [hyes, decide_eq_true h1]; rfl] at kk
                            rw [show (1 : Int32) = nI 1 from rfl, nI_add, nI_add]
                            exact kk _ h93))
                    | fail "no way"
            · skip
              refine g_iconst (v := 1) dX11_aloud_61 (by decide) ?_
              refine g_goto (tgt := 66) dX11_aloud_62 (by decide) ?_
              refine g_iadd dX11_aloud_66 ?_
              refine g_istore_n dX11_aloud_67 (by decide) ?_
              show Go _ _ _ _ _ _ [_, _, _, _, _, _, _, _] _ _ _
              refine g_iload dX11_aloud_68 rfl ?_
              refine g_iload dX11_aloud_70 rfl ?_
              refine g_if_le (tgt := 89) dX11_aloud_72 (by decide) (fun c72 => ?_) (fun c72 => ?_)
              · skip
                refine g_iconst (v := 0) dX11_aloud_89 (by decide) ?_
                refine g_iadd dX11_aloud_90 ?_
                refine g_istore dX11_aloud_91 (by decide) ?_
                show Go _ _ _ _ _ _ [_, _, _, _, _, _, _, _] _ _ _
                refine g_iinc dX11_aloud_93 rfl (by decide) ?_
                show Go _ _ _ _ _ _ [_, _, _, _, _, _, _, _] _ _ _
                refine g_goto (tgt := 38) dX11_aloud_96 (by decide) ?_
                refine g_forget 7 ?_
                show Go _ _ _ _ _ _ [_, _, _, _, _, _, _, _] _ _ _
                rw [nI_inc]
                rw [cntP_s, cntP_s] at kk
                first
                  | exact absurd c58 c72
                  | exact absurd c72 c58
                  | (have hno : ftB P (evO P ds) c = false := bfalse (fun q => by
                       have := fW_pos.mpr q
                       exact absurd c58 (nI_nle this (by omega)))
                     rw [hno, show ft0 P (evO P ds) p c = false by unfold ft0; rw [hno]; rfl] at kk
                     rw [show (0 : Int32) = nI 0 from rfl, nI_add, nI_add]
                     first
                       | exact kk _ h93
                       | exact absurd c58 c72)
                  | (have hyes : ftB P (evO P ds) c = true := fW_pos.mp (Nat.pos_of_ne_zero (fun q => c58 (by rw [q]; decide)))
                     rw [hyes] at kk
                     first
                       | exact absurd c72 c58
                       | (have h1 : ¬ dC c p = 2 := fun q => c82 (oC_0.mpr q)
                          rw [show ft0 P (evO P ds) p c = false by unfold ft0; rw [decide_eq_false h1, Bool.and_false]] at kk
                          rw [show (0 : Int32) = nI 0 from rfl, show (1 : Int32) = nI 1 from rfl, nI_add, nI_add]
                          exact kk _ h93)
                       | (have h1 : dC c p = 2 := oC_0.mp c82
                          rw [show ft0 P (evO P ds) p c = true by unfold ft0; rw [hyes, decide_eq_true h1]; rfl] at kk
                          rw [show (1 : Int32) = nI 1 from rfl, nI_add, nI_add]
                          exact kk _ h93))
                  | fail "no way"
              · skip
                refine g_aload_n dX11_aloud_75 rfl ?_
                refine t_getR dX11_aloud_76 fl_X11_57 rfl (by decide) rfl (by decide) rfl ?_
                refine g_iload dX11_aloud_79 rfl ?_
                refine t_iald dX11_aloud_81 rfl (by decide) (in_nI (by omega) (by decide)) ?_
                rw [cl_nI (by omega), ho3.at h4 hp]
                refine g_if_ne (tgt := 89) dX11_aloud_82 (by decide) (fun c82 => ?_) (fun c82 => ?_)
                · skip
                  refine g_iconst (v := 0) dX11_aloud_89 (by decide) ?_
                  refine g_iadd dX11_aloud_90 ?_
                  refine g_istore dX11_aloud_91 (by decide) ?_
                  show Go _ _ _ _ _ _ [_, _, _, _, _, _, _, _] _ _ _
                  refine g_iinc dX11_aloud_93 rfl (by decide) ?_
                  show Go _ _ _ _ _ _ [_, _, _, _, _, _, _, _] _ _ _
                  refine g_goto (tgt := 38) dX11_aloud_96 (by decide) ?_
                  refine g_forget 7 ?_
                  show Go _ _ _ _ _ _ [_, _, _, _, _, _, _, _] _ _ _
                  rw [nI_inc]
                  rw [cntP_s, cntP_s] at kk
                  first
                    | exact absurd c58 c72
                    | exact absurd c72 c58
                    | (have hno : ftB P (evO P ds) c = false := bfalse (fun q => by
                         have := fW_pos.mpr q
                         exact absurd c58 (nI_nle this (by omega)))
                       rw [hno, show ft0 P (evO P ds) p c = false by unfold ft0; rw [hno]; rfl] at kk
                       rw [show (0 : Int32) = nI 0 from rfl, nI_add, nI_add]
                       first
                         | exact kk _ h93
                         | exact absurd c58 c72)
                    | (have hyes : ftB P (evO P ds) c = true := fW_pos.mp (Nat.pos_of_ne_zero (fun q => c58 (by rw [q]; decide)))
                       rw [hyes] at kk
                       first
                         | exact absurd c72 c58
                         | (have h1 : ¬ dC c p = 2 := fun q => c82 (oC_0.mpr q)
                            rw [show ft0 P (evO P ds) p c = false by unfold ft0; rw [decide_eq_false h1, Bool.and_false]] at kk
                            rw [show (0 : Int32) = nI 0 from rfl, show (1 : Int32) = nI 1 from rfl, nI_add, nI_add]
                            exact kk _ h93)
                         | (have h1 : dC c p = 2 := oC_0.mp c82
                            rw [show ft0 P (evO P ds) p c = true by unfold ft0; rw [hyes, decide_eq_true h1]; rfl] at kk
                            rw [show (1 : Int32) = nI 1 from rfl, nI_add, nI_add]
                            exact kk _ h93))
                    | fail "no way"
                · skip
                  refine g_iconst (v := 1) dX11_aloud_85 (by decide) ?_
                  refine g_goto (tgt := 90) dX11_aloud_86 (by decide) ?_
                  refine g_iadd dX11_aloud_90 ?_
                  refine g_istore dX11_aloud_91 (by decide) ?_
                  show Go _ _ _ _ _ _ [_, _, _, _, _, _, _, _] _ _ _
                  refine g_iinc dX11_aloud_93 rfl (by decide) ?_
                  show Go _ _ _ _ _ _ [_, _, _, _, _, _, _, _] _ _ _
                  refine g_goto (tgt := 38) dX11_aloud_96 (by decide) ?_
                  refine g_forget 7 ?_
                  show Go _ _ _ _ _ _ [_, _, _, _, _, _, _, _] _ _ _
                  rw [nI_inc]
                  rw [cntP_s, cntP_s] at kk
                  first
                    | exact absurd c58 c72
                    | exact absurd c72 c58
                    | (have hno : ftB P (evO P ds) c = false := bfalse (fun q => by
                         have := fW_pos.mpr q
                         exact absurd c58 (nI_nle this (by omega)))
                       rw [hno, show ft0 P (evO P ds) p c = false by unfold ft0; rw [hno]; rfl] at kk
                       rw [show (0 : Int32) = nI 0 from rfl, nI_add, nI_add]
                       first
                         | exact kk _ h93
                         | exact absurd c58 c72)
                    | (have hyes : ftB P (evO P ds) c = true := fW_pos.mp (Nat.pos_of_ne_zero (fun q => c58 (by rw [q]; decide)))
                       rw [hyes] at kk
                       first
                         | exact absurd c72 c58
                         | (have h1 : ¬ dC c p = 2 := fun q => c82 (oC_0.mpr q)
                            rw [show ft0 P (evO P ds) p c = false by unfold ft0; rw [decide_eq_false h1, Bool.and_false]] at kk
                            rw [show (0 : Int32) = nI 0 from rfl, show (1 : Int32) = nI 1 from rfl, nI_add, nI_add]
                            exact kk _ h93)
                         | (have h1 : dC c p = 2 := oC_0.mp c82
                            rw [show ft0 P (evO P ds) p c = true by unfold ft0; rw [hyes, decide_eq_true h1]; rfl] at kk
                            rw [show (1 : Int32) = nI 1 from rfl, nI_add, nI_add]
                            exact kk _ h93))
                    | fail "no way"
        · skip
          refine g_iload dX11_aloud_38 rfl ?_
          refine g_aload_n dX11_aloud_40 rfl ?_
          refine g_callVi dX11_aloud_41 ln_X11_212 ⟨_, rfl⟩ rfl (by decide) ⟨_, _, rfl⟩ rfl (Nat.le_of_ble_eq_true rfl) (Nat.le_of_ble_eq_true rfl) (ct_outs (hP.scr h9) hQ) rfl (fun r41 m41 h41 => ?_)
          obtain ⟨rfl, rfl⟩ := h41
          refine g_icmp_ge (tgt := 99) dX11_aloud_44 (by decide) (fun c44 => ?_) (fun c44 => ?_)
          · skip
            refine g_iload dX11_aloud_99 rfl ?_
            refine g_iload_n dX11_aloud_101 rfl ?_
            refine g_icmp_ge (tgt := 110) dX11_aloud_102 (by decide) (fun c102 => ?_) (fun c102 => ?_)
            · skip
              refine g_iload_n dX11_aloud_110 rfl ?_
              refine g_istore_n dX11_aloud_111 (by decide) ?_
              show Go _ _ _ _ _ _ [_, _, _, _, _, _, _, _] _ _ _
              refine g_iload dX11_aloud_112 rfl ?_
              refine g_iload_n dX11_aloud_114 rfl ?_
              refine g_icmp_ge (tgt := 123) dX11_aloud_115 (by decide) (fun c115 => ?_) (fun c115 => ?_)
              · skip
                refine g_iload_n dX11_aloud_123 rfl ?_
                refine g_istore_n dX11_aloud_124 (by decide) ?_
                show Go _ _ _ _ _ _ [_, _, _, _, _, _, _, _] _ _ _
                refine g_iinc dX11_aloud_125 rfl (by decide) ?_
                show Go _ _ _ _ _ _ [_, _, _, _, _, _, _, _] _ _ _
                refine g_goto (tgt := 21) dX11_aloud_128 (by decide) ?_
                refine g_forget 5 ?_
                refine g_forget 6 ?_
                show Go _ _ _ _ _ _ [_, _, _, _, _, _, _, _] _ _ _
                rw [nI_inc]
                have kk3 := kk2 I2 h9
                rw [if_neg (show ¬ p + 1 = 0 by omega), if_neg (show ¬ p + 1 = 0 by omega), alF_s] at kk3
                have hb1 := cntP_le (ft0 P (evO P ds) p) (5 ^ P.1)
                have hb2 := cntP_le (ft0 P (evO P ds) (alF P (evO P ds) p)) (5 ^ P.1)
                rcases Nat.eq_zero_or_pos p with hp0 | hp0
                · subst hp0
                  rw [if_pos rfl] at c102 c115
                  have hlt : nI (cntP (ft0 P (evO P ds) 0) (5 ^ P.1)) < nI 9999 := nI_lt (by omega) (by decide)
                  first
                    | exact absurd hlt (Int32.not_lt.mpr c102)
                    | (rw [show (if cntP (ft0 P (evO P ds) 0) (5 ^ P.1) < cntP (ft0 P (evO P ds) (alF P (evO P ds) 0)) (5 ^ P.1) then 0 else alF P (evO P ds) 0) = 0 from if_neg (Nat.lt_irrefl _)] at kk3
                       exact kk3)
                    | exact absurd hlt (Int32.not_lt.mpr c115)
                    | fail "no way"
                · rw [if_neg (show ¬ p = 0 by omega)] at c102 c115
                  first
                    | exact absurd c102 c115
                    | exact absurd c115 c102
                    | (rw [if_pos ((nI_ltI (by omega) (by omega)).mp (Int32.not_le.mp c102))] at kk3
                       first
                         | exact kk3
                         | exact absurd c115 c102)
                    | (rw [if_neg (fun q => absurd (nI_lt q (by omega)) (Int32.not_lt.mpr c102))] at kk3
                       rw [if_neg (show ¬ p = 0 by omega)]
                       first
                         | exact kk3
                         | exact absurd c102 c115)
                    | fail "no way"
              · skip
                refine g_iload dX11_aloud_118 rfl ?_
                refine g_goto (tgt := 124) dX11_aloud_120 (by decide) ?_
                refine g_istore_n dX11_aloud_124 (by decide) ?_
                show Go _ _ _ _ _ _ [_, _, _, _, _, _, _, _] _ _ _
                refine g_iinc dX11_aloud_125 rfl (by decide) ?_
                show Go _ _ _ _ _ _ [_, _, _, _, _, _, _, _] _ _ _
                refine g_goto (tgt := 21) dX11_aloud_128 (by decide) ?_
                refine g_forget 5 ?_
                refine g_forget 6 ?_
                show Go _ _ _ _ _ _ [_, _, _, _, _, _, _, _] _ _ _
                rw [nI_inc]
                have kk3 := kk2 I2 h9
                rw [if_neg (show ¬ p + 1 = 0 by omega), if_neg (show ¬ p + 1 = 0 by omega), alF_s] at kk3
                have hb1 := cntP_le (ft0 P (evO P ds) p) (5 ^ P.1)
                have hb2 := cntP_le (ft0 P (evO P ds) (alF P (evO P ds) p)) (5 ^ P.1)
                rcases Nat.eq_zero_or_pos p with hp0 | hp0
                · subst hp0
                  rw [if_pos rfl] at c102 c115
                  have hlt : nI (cntP (ft0 P (evO P ds) 0) (5 ^ P.1)) < nI 9999 := nI_lt (by omega) (by decide)
                  first
                    | exact absurd hlt (Int32.not_lt.mpr c102)
                    | (rw [show (if cntP (ft0 P (evO P ds) 0) (5 ^ P.1) < cntP (ft0 P (evO P ds) (alF P (evO P ds) 0)) (5 ^ P.1) then 0 else alF P (evO P ds) 0) = 0 from if_neg (Nat.lt_irrefl _)] at kk3
                       exact kk3)
                    | exact absurd hlt (Int32.not_lt.mpr c115)
                    | fail "no way"
                · rw [if_neg (show ¬ p = 0 by omega)] at c102 c115
                  first
                    | exact absurd c102 c115
                    | exact absurd c115 c102
                    | (rw [if_pos ((nI_ltI (by omega) (by omega)).mp (Int32.not_le.mp c102))] at kk3
                       first
                         | exact kk3
                         | exact absurd c115 c102)
                    | (rw [if_neg (fun q => absurd (nI_lt q (by omega)) (Int32.not_lt.mpr c102))] at kk3
                       rw [if_neg (show ¬ p = 0 by omega)]
                       first
                         | exact kk3
                         | exact absurd c102 c115)
                    | fail "no way"
            · skip
              refine g_iload dX11_aloud_105 rfl ?_
              refine g_goto (tgt := 111) dX11_aloud_107 (by decide) ?_
              refine g_istore_n dX11_aloud_111 (by decide) ?_
              show Go _ _ _ _ _ _ [_, _, _, _, _, _, _, _] _ _ _
              refine g_iload dX11_aloud_112 rfl ?_
              refine g_iload_n dX11_aloud_114 rfl ?_
              refine g_icmp_ge (tgt := 123) dX11_aloud_115 (by decide) (fun c115 => ?_) (fun c115 => ?_)
              · skip
                refine g_iload_n dX11_aloud_123 rfl ?_
                refine g_istore_n dX11_aloud_124 (by decide) ?_
                show Go _ _ _ _ _ _ [_, _, _, _, _, _, _, _] _ _ _
                refine g_iinc dX11_aloud_125 rfl (by decide) ?_
                show Go _ _ _ _ _ _ [_, _, _, _, _, _, _, _] _ _ _
                refine g_goto (tgt := 21) dX11_aloud_128 (by decide) ?_
                refine g_forget 5 ?_
                refine g_forget 6 ?_
                show Go _ _ _ _ _ _ [_, _, _, _, _, _, _, _] _ _ _
                rw [nI_inc]
                have kk3 := kk2 I2 h9
                rw [if_neg (show ¬ p + 1 = 0 by omega), if_neg (show ¬ p + 1 = 0 by omega), alF_s] at kk3
                have hb1 := cntP_le (ft0 P (evO P ds) p) (5 ^ P.1)
                have hb2 := cntP_le (ft0 P (evO P ds) (alF P (evO P ds) p)) (5 ^ P.1)
                rcases Nat.eq_zero_or_pos p with hp0 | hp0
                · subst hp0
                  rw [if_pos rfl] at c102 c115
                  have hlt : nI (cntP (ft0 P (evO P ds) 0) (5 ^ P.1)) < nI 9999 := nI_lt (by omega) (by decide)
                  first
                    | exact absurd hlt (Int32.not_lt.mpr c102)
                    | (rw [show (if cntP (ft0 P (evO P ds) 0) (5 ^ P.1) < cntP (ft0 P (evO P ds) (alF P (evO P ds) 0)) (5 ^ P.1) then 0 else alF P (evO P ds) 0) = 0 from if_neg (Nat.lt_irrefl _)] at kk3
                       exact kk3)
                    | exact absurd hlt (Int32.not_lt.mpr c115)
                    | fail "no way"
                · rw [if_neg (show ¬ p = 0 by omega)] at c102 c115
                  first
                    | exact absurd c102 c115
                    | exact absurd c115 c102
                    | (rw [if_pos ((nI_ltI (by omega) (by omega)).mp (Int32.not_le.mp c102))] at kk3
                       first
                         | exact kk3
                         | exact absurd c115 c102)
                    | (rw [if_neg (fun q => absurd (nI_lt q (by omega)) (Int32.not_lt.mpr c102))] at kk3
                       rw [if_neg (show ¬ p = 0 by omega)]
                       first
                         | exact kk3
                         | exact absurd c102 c115)
                    | fail "no way"
              · skip
                refine g_iload dX11_aloud_118 rfl ?_
                refine g_goto (tgt := 124) dX11_aloud_120 (by decide) ?_
                refine g_istore_n dX11_aloud_124 (by decide) ?_
                show Go _ _ _ _ _ _ [_, _, _, _, _, _, _, _] _ _ _
                refine g_iinc dX11_aloud_125 rfl (by decide) ?_
                show Go _ _ _ _ _ _ [_, _, _, _, _, _, _, _] _ _ _
                refine g_goto (tgt := 21) dX11_aloud_128 (by decide) ?_
                refine g_forget 5 ?_
                refine g_forget 6 ?_
                show Go _ _ _ _ _ _ [_, _, _, _, _, _, _, _] _ _ _
                rw [nI_inc]
                have kk3 := kk2 I2 h9
                rw [if_neg (show ¬ p + 1 = 0 by omega), if_neg (show ¬ p + 1 = 0 by omega), alF_s] at kk3
                have hb1 := cntP_le (ft0 P (evO P ds) p) (5 ^ P.1)
                have hb2 := cntP_le (ft0 P (evO P ds) (alF P (evO P ds) p)) (5 ^ P.1)
                rcases Nat.eq_zero_or_pos p with hp0 | hp0
                · subst hp0
                  rw [if_pos rfl] at c102 c115
                  have hlt : nI (cntP (ft0 P (evO P ds) 0) (5 ^ P.1)) < nI 9999 := nI_lt (by omega) (by decide)
                  first
                    | exact absurd hlt (Int32.not_lt.mpr c102)
                    | (rw [show (if cntP (ft0 P (evO P ds) 0) (5 ^ P.1) < cntP (ft0 P (evO P ds) (alF P (evO P ds) 0)) (5 ^ P.1) then 0 else alF P (evO P ds) 0) = 0 from if_neg (Nat.lt_irrefl _)] at kk3
                       exact kk3)
                    | exact absurd hlt (Int32.not_lt.mpr c115)
                    | fail "no way"
                · rw [if_neg (show ¬ p = 0 by omega)] at c102 c115
                  first
                    | exact absurd c102 c115
                    | exact absurd c115 c102
                    | (rw [if_pos ((nI_ltI (by omega) (by omega)).mp (Int32.not_le.mp c102))] at kk3
                       first
                         | exact kk3
                         | exact absurd c115 c102)
                    | (rw [if_neg (fun q => absurd (nI_lt q (by omega)) (Int32.not_lt.mpr c102))] at kk3
                       rw [if_neg (show ¬ p = 0 by omega)]
                       first
                         | exact kk3
                         | exact absurd c102 c115)
                    | fail "no way"
          · exact absurd (Int32.le_refl _) c44
    · skip
      refine g_iload dX11_aloud_21 rfl ?_
      refine g_aload_n dX11_aloud_23 rfl ?_
      refine t_getI dX11_aloud_24 fl_X11_116 rfl (by decide) rfl (by decide) ?_
      rw [h8 48 (by decide), hP.1]
      refine g_icmp_ge (tgt := 131) dX11_aloud_27 (by decide) (fun c27 => ?_) (fun c27 => ?_)
      · skip
        rw [if_neg (show ¬ P.1 = 0 by omega), if_neg (show ¬ P.1 = 0 by omega)]
        refine g_iload_n dX11_aloud_131 rfl ?_
        refine g_if_ne (tgt := 143) dX11_aloud_132 (by decide) (fun c132 => ?_) (fun c132 => ?_)
        · skip
          refine g_aload_n dX11_aloud_143 rfl ?_
          refine g_iload_n dX11_aloud_144 rfl ?_
          refine g_iload_n dX11_aloud_145 rfl ?_
          refine g_callVi dX11_aloud_146 ln_X11_84 ⟨_, rfl⟩ rfl (by decide) ⟨_, _, rfl⟩ rfl (Nat.le_of_ble_eq_true rfl) (Nat.le_of_ble_eq_true rfl) ct_asks rfl (fun r146 m146 h146 => ?_)
          obtain ⟨rfl, rfl⟩ := h146
          refine g_iret dX11_aloud_149 (fun ty h => by cases h; rfl) ?_
          have hcle := cntP_le (ftB P (evO P ds)) (5 ^ P.1)
          first
            | (have hz : cntP (ftB P (evO P ds)) (5 ^ P.1) = 0 := (nI_eq (by omega) (by decide)).mp (show nI (cntP (ftB P (evO P ds)) (5 ^ P.1)) = nI 0 from c132)
               have hS : S_aloud P ds tl fn = (-3, tl, fndS 4 fn) := by unfold S_aloud; rw [if_neg (show ¬ P.2.1 = 0 from fun q => c4 (by rw [q]; rfl)), if_pos hz]
               exact ⟨_, rfl, (FrM.of h8 (by decide)).tr FrM.find, by rw [hS], by rw [hS]; exact (hA.s63 h8).find (by decide)⟩)
            | (have hz : ¬ cntP (ftB P (evO P ds)) (5 ^ P.1) = 0 := fun q => c132 (by rw [q]; rfl)
               have hS : S_aloud P ds tl fn = (nI (alF P (evO P ds) P.1), nI (cntP (ft0 P (evO P ds) (alF P (evO P ds) P.1)) (5 ^ P.1)), fn) := by unfold S_aloud; rw [if_neg (show ¬ P.2.1 = 0 from fun q => c4 (by rw [q]; rfl)), if_neg hz]
               exact ⟨_, rfl, (FrM.of h8 (by decide)).up (by decide), by rw [hS], by rw [hS]; exact (hA.s63 h8).told⟩)
            | fail "no way"
        · skip
          refine g_aload_n dX11_aloud_135 rfl ?_
          refine g_iconst (v := 4) dX11_aloud_136 (by decide) ?_
          refine g_callVi dX11_aloud_137 ln_X11_80 ⟨_, rfl⟩ rfl (by decide) ⟨_, _, rfl⟩ rfl (Nat.le_of_ble_eq_true rfl) (Nat.le_of_ble_eq_true rfl) (ct_finds (w := 4) (by decide)) rfl (fun r137 m137 h137 => ?_)
          obtain ⟨rfl, rfl⟩ := h137
          refine g_goto (tgt := 149) dX11_aloud_140 (by decide) ?_
          refine g_iret dX11_aloud_149 (fun ty h => by cases h; rfl) ?_
          have hcle := cntP_le (ftB P (evO P ds)) (5 ^ P.1)
          first
            | (have hz : cntP (ftB P (evO P ds)) (5 ^ P.1) = 0 := (nI_eq (by omega) (by decide)).mp (show nI (cntP (ftB P (evO P ds)) (5 ^ P.1)) = nI 0 from c132)
               have hS : S_aloud P ds tl fn = (-3, tl, fndS 4 fn) := by unfold S_aloud; rw [if_neg (show ¬ P.2.1 = 0 from fun q => c4 (by rw [q]; rfl)), if_pos hz]
               exact ⟨_, rfl, (FrM.of h8 (by decide)).tr FrM.find, by rw [hS], by rw [hS]; exact (hA.s63 h8).find (by decide)⟩)
            | (have hz : ¬ cntP (ftB P (evO P ds)) (5 ^ P.1) = 0 := fun q => c132 (by rw [q]; rfl)
               have hS : S_aloud P ds tl fn = (nI (alF P (evO P ds) P.1), nI (cntP (ft0 P (evO P ds) (alF P (evO P ds) P.1)) (5 ^ P.1)), fn) := by unfold S_aloud; rw [if_neg (show ¬ P.2.1 = 0 from fun q => c4 (by rw [q]; rfl)), if_neg hz]
               exact ⟨_, rfl, (FrM.of h8 (by decide)).up (by decide), by rw [hS], by rw [hS]; exact (hA.s63 h8).told⟩)
            | fail "no way"
      · exact absurd (Int32.le_refl _) c27
  · skip
    refine g_bipush (v := -4) dX11_aloud_7 (by decide) ?_
    refine g_iret dX11_aloud_9 (fun ty h => by cases h; rfl) ?_
    have h0 : P.2.1 = 0 := (nI_eq (by omega) (by decide)).mp (show nI P.2.1 = nI 0 from c4)
    have hS : S_aloud P ds tl fn = (-4, tl, fn) := by unfold S_aloud; rw [if_pos h0]
    exact ⟨_, rfl, FrM.rf, by rw [hS], by rw [hS]; exact hA⟩
end
