section
variable {X : Nat × (Nat → Int32)} {d : Nat} {I : Nat → Nat → Int32} {J : Nat → Nat → Int64}
def OuR (o : Nat → Int) : Prop := ∀ p, p < 4 → -2 ≤ o p ∧ o p ≤ 2
def cB (P : Pce) (k : Nat) (o : Nat → Int) (x a b : Nat) : Bool := clsB k (sndS P a (x + o a)) (sndS P b (x + o b))
theorem hrK_cB {P : Pce} {k : Nat} {o : Nat → Int} {x : Nat} : hrK P k o x = (prs P.1 (cB P k o x)).1 := rfl
theorem z_at {x : Nat} {z : Int} : nI x + zI z = zI ((x : Int) + z) := by rw [nI_z, z_add]
/-- a row of outs that can be read -/
def OA (X : Nat × (Nat → Int32)) (I : Nat → Nat → Int32) (J : Nat → Nat → Int64) (oc : Nat) (o : Nat → Int) : Prop := ∃ f, IA X 66 (I, J, rf0) oc 4 f ∧ ∀ p, p < 4 → f p = zI (o p)
theorem OA.of {oc : Nat} {o : Nat → Int} (h : OuV oc o I) (hs : shp oc = (1, 0, 4)) (hl : oc < 66) : OA X I J oc o := ⟨I oc, Or.inl ⟨hl, hs, rfl⟩, h⟩
theorem OA.nobody : OA X I J 102 (fun _ => 0) := ⟨fun _ => 0, Or.inr ⟨by decide, by decide, rfl⟩, fun _ _ => rfl⟩
theorem ct_clashes {P : Pce} {x k oc : Nat} {o : Nat → Int} (hP : PcC P I) (hO : PcOK P) (hx : x ≤ 20) (hk : k < 6) (hR : OuR o) (ho : OA X I J oc o) : Ct X (d + 1) 66 M_X3_clashes 66 [.ref 22, .int (nI x), .int (nI k), .ref oc] (I, J, rf0) (RI (fun y9 m => y9 = nI (hrK P k o x) ∧ m = (I, J, rf0))) := by
  obtain ⟨f, hia, hf⟩ := ho
  have h4 := hO.1
  show Go _ _ _ _ _ _ [_, _, _, _, _, _, _, _, _] _ _ _
  refine g_iload_n dX3_clashes_0 rfl ?_
  refine g_iconst (v := 2) dX3_clashes_1 (by decide) ?_
  refine g_icmp_eq (tgt := 19) dX3_clashes_2 (by decide) (fun c2 => ?_) (fun c2 => ?_)
  · skip
    refine g_iconst (v := 0) dX3_clashes_19 (by decide) ?_
    refine g_iret dX3_clashes_20 (fun ty h => by cases h; rfl) ?_
    refine ⟨?_, rfl⟩
    rw [hrK_no (by
      first
        | exact Or.inl ((nI_eq (by omega) (by decide)).mp (show nI k = nI 2 from c2))
        | exact Or.inr ((nI_eq (by omega) (by decide)).mp (show nI k = nI 4 from c7)))]
    rfl
  · skip
    refine g_iload_n dX3_clashes_5 rfl ?_
    refine g_iconst (v := 4) dX3_clashes_6 (by decide) ?_
    refine g_icmp_eq (tgt := 19) dX3_clashes_7 (by decide) (fun c7 => ?_) (fun c7 => ?_)
    · skip
      refine g_iconst (v := 0) dX3_clashes_19 (by decide) ?_
      refine g_iret dX3_clashes_20 (fun ty h => by cases h; rfl) ?_
      refine ⟨?_, rfl⟩
      rw [hrK_no (by
        first
          | exact Or.inl ((nI_eq (by omega) (by decide)).mp (show nI k = nI 2 from c2))
          | exact Or.inr ((nI_eq (by omega) (by decide)).mp (show nI k = nI 4 from c7)))]
      rfl
    · skip
      refine g_aload_n dX3_clashes_10 rfl ?_
      refine g_alen dX3_clashes_11 hia ?_
      refine g_aload_n dX3_clashes_12 rfl ?_
      refine t_getI dX3_clashes_13 fl_X3_24 rfl (by decide) rfl (by decide) ?_
      rw [hP.1]
      refine g_icmp_ge (tgt := 21) dX3_clashes_16 (by decide) (fun c16 => ?_) (fun c16 => ?_)
      · skip
        refine g_iconst (v := 0) dX3_clashes_21 (by decide) ?_
        refine g_istore dX3_clashes_22 (by decide) ?_
        show Go _ _ _ _ _ _ [_, _, _, _, _, _, _, _, _] _ _ _
        refine g_iconst (v := 0) dX3_clashes_24 (by decide) ?_
        refine g_istore dX3_clashes_25 (by decide) ?_
        show Go _ _ _ _ _ _ [_, _, _, _, _, _, _, _, _] _ _ _
        refine g_iconst (v := 0) dX3_clashes_27 (by decide) ?_
        refine g_istore dX3_clashes_28 (by decide) ?_
        show Go _ _ _ _ _ _ [_, _, _, _, _, _, _, _, _] _ _ _
        refine go_for (fun a s => prIn (cB P k o x a) a (P.1 - (a + 1)) s) ((0, 0) : Nat × Nat) P.1 (fun a s => Go X (d + 1) 66 M_X3_clashes 66 30 [.ref 22, .int (nI x), .int (nI k), .ref oc, .int (nI s.1), .int (nI s.2), .int (nI a), .null, .null] [] (I, J, rf0) (RI (fun y9 m => y9 = nI (hrK P k o x) ∧ m = (I, J, rf0)))) (fun a ha kko => ?_) ?_
        · have hb0 := prs_snd P.1 (cB P k o x) h4 a
          obtain ⟨s0, hs0⟩ : ∃ s0, s0 = foldN (fun a s => prIn (cB P k o x a) a (P.1 - (a + 1)) s) ((0, 0) : Nat × Nat) a := ⟨_, rfl⟩
          rw [show foldN (fun a s => prIn (cB P k o x a) a (P.1 - (a + 1)) s) ((0, 0) : Nat × Nat) (a + 1) = prIn (cB P k o x a) a (P.1 - (a + 1)) s0 by rw [hs0]; rfl] at kko
          rw [← hs0] at hb0 ⊢
          refine g_iload dX3_clashes_30 rfl ?_
          refine g_aload_n dX3_clashes_32 rfl ?_
          refine t_getI dX3_clashes_33 fl_X3_24 rfl (by decide) rfl (by decide) ?_
          rw [hP.1]
          refine g_icmp_ge (tgt := 113) dX3_clashes_36 (by decide) (fun c36 => ?_) (fun c36 => ?_)
          · exact absurd (nI_lt ha (by omega)) (Int32.not_lt.mpr c36)
          · skip
            refine g_aload_n dX3_clashes_39 rfl ?_
            refine g_iload dX3_clashes_40 rfl ?_
            refine g_iload_n dX3_clashes_42 rfl ?_
            refine g_aload_n dX3_clashes_43 rfl ?_
            refine g_iload dX3_clashes_44 rfl ?_
            refine g_iald dX3_clashes_46 hia (in_nI (by omega) (by decide)) ?_
            refine g_iadd dX3_clashes_47 ?_
            rw [cl_nI (by omega), hf a (by omega), z_at]
            refine g_callVi dX3_clashes_48 ln_X3_62 ⟨_, rfl⟩ rfl (by decide) ⟨_, _, rfl⟩ rfl (Nat.le_of_ble_eq_true rfl) (Nat.le_of_ble_eq_true rfl) (ct_soundOf hP hO (by omega) (by have := hR a (by omega); omega)) rfl (fun r48 m48 h48 => ?_)
            obtain ⟨rfl, rfl⟩ := h48
            refine g_istore dX3_clashes_51 (by decide) ?_
            show Go _ _ _ _ _ _ [_, _, _, _, _, _, _, _, _] _ _ _
            refine g_iload dX3_clashes_53 rfl ?_
            refine g_iconst (v := 1) dX3_clashes_55 (by decide) ?_
            refine g_iadd dX3_clashes_56 ?_
            refine g_istore dX3_clashes_57 (by decide) ?_
            show Go _ _ _ _ _ _ [_, _, _, _, _, _, _, _, _] _ _ _
            rw [show (1 : Int32) = nI 1 from rfl, nI_add]
            refine go_for (fun t s => (if cB P k o x a (a + 1 + t) then s.1 ||| 2 ^ s.2 else s.1, s.2 + 1)) s0 (P.1 - (a + 1)) (fun t s => Go X (d + 1) 66 M_X3_clashes 66 59 [.ref 22, .int (nI x), .int (nI k), .ref oc, .int (nI s.1), .int (nI s.2), .int (nI a), .int (zI (sndS P a (x + o a))), .int (nI (a + 1 + t))] [] (I, J, rf0) (RI (fun y9 m => y9 = nI (hrK P k o x) ∧ m = (I, J, rf0)))) (fun t ht kk => ?_) ?_
            · have hb1 : (foldN (fun t s => (if cB P k o x a (a + 1 + t) then s.1 ||| 2 ^ s.2 else s.1, s.2 + 1)) s0 t).2 = s0.2 + t := prIn_snd (cB P k o x a) a s0 t
              have e9 : foldN (fun t s => (if cB P k o x a (a + 1 + t) then s.1 ||| 2 ^ s.2 else s.1, s.2 + 1)) s0 (t + 1) = (if cB P k o x a (a + 1 + t) then (foldN (fun t s => (if cB P k o x a (a + 1 + t) then s.1 ||| 2 ^ s.2 else s.1, s.2 + 1)) s0 t).1 ||| 2 ^ (foldN (fun t s => (if cB P k o x a (a + 1 + t) then s.1 ||| 2 ^ s.2 else s.1, s.2 + 1)) s0 t).2 else (foldN (fun t s => (if cB P k o x a (a + 1 + t) then s.1 ||| 2 ^ s.2 else s.1, s.2 + 1)) s0 t).1, (foldN (fun t s => (if cB P k o x a (a + 1 + t) then s.1 ||| 2 ^ s.2 else s.1, s.2 + 1)) s0 t).2 + 1) := rfl
              rw [e9] at kk
              refine g_iload dX3_clashes_59 rfl ?_
              refine g_aload_n dX3_clashes_61 rfl ?_
              refine t_getI dX3_clashes_62 fl_X3_24 rfl (by decide) rfl (by decide) ?_
              rw [hP.1]
              refine g_icmp_ge (tgt := 107) dX3_clashes_65 (by decide) (fun c65 => ?_) (fun c65 => ?_)
              · exact absurd (nI_lt (show a + 1 + t < P.1 by omega) (by omega)) (Int32.not_lt.mpr c65)
              · skip
                refine g_iload_n dX3_clashes_68 rfl ?_
                refine g_iload dX3_clashes_69 rfl ?_
                refine g_aload_n dX3_clashes_71 rfl ?_
                refine g_iload dX3_clashes_72 rfl ?_
                refine g_iload_n dX3_clashes_74 rfl ?_
                refine g_aload_n dX3_clashes_75 rfl ?_
                refine g_iload dX3_clashes_76 rfl ?_
                refine g_iald dX3_clashes_78 hia (in_nI (by omega) (by decide)) ?_
                refine g_iadd dX3_clashes_79 ?_
                rw [cl_nI (by omega), hf (a + 1 + t) (by omega), z_at]
                refine g_callVi dX3_clashes_80 ln_X3_62 ⟨_, rfl⟩ rfl (by decide) ⟨_, _, rfl⟩ rfl (Nat.le_of_ble_eq_true rfl) (Nat.le_of_ble_eq_true rfl) (ct_soundOf hP hO (by omega) (by have := hR (a + 1 + t) (by omega); omega)) rfl (fun r80 m80 h80 => ?_)
                obtain ⟨rfl, rfl⟩ := h80
                refine g_callSi dX3_clashes_83 ln_X3_66 ⟨_, rfl⟩ rfl (Nat.le_of_ble_eq_true rfl) (Nat.le_of_ble_eq_true rfl) (ct_clash hk (sndS_rng P hO _ _) (sndS_rng P hO _ _)) rfl (fun r83 m83 h83 => ?_)
                obtain ⟨rfl, rfl⟩ := h83
                refine g_if_eq (tgt := 98) dX3_clashes_86 (by decide) (fun c86 => ?_) (fun c86 => ?_)
                · skip
                  refine g_iinc dX3_clashes_98 rfl (by decide) ?_
                  show Go _ _ _ _ _ _ [_, _, _, _, _, _, _, _, _] _ _ _
                  refine g_iinc dX3_clashes_101 rfl (by decide) ?_
                  show Go _ _ _ _ _ _ [_, _, _, _, _, _, _, _, _] _ _ _
                  refine g_goto (tgt := 59) dX3_clashes_104 (by decide) ?_
                  rw [nI_inc, nI_inc]
                  first
                    | (rw [if_pos (show cB P k o x a (a + 1 + t) = true from bI_ne c86)] at kk
                       rw [orbit (by omega)]
                       exact kk)
                    | (rw [if_neg (show ¬ cB P k o x a (a + 1 + t) = true from by rw [show cB P k o x a (a + 1 + t) = false from bI_eq c86]; decide)] at kk
                       exact kk)
                · skip
                  refine g_iload dX3_clashes_89 rfl ?_
                  refine g_iconst (v := 1) dX3_clashes_91 (by decide) ?_
                  refine g_iload dX3_clashes_92 rfl ?_
                  refine g_ishl dX3_clashes_94 ?_
                  refine g_ior dX3_clashes_95 ?_
                  refine g_istore dX3_clashes_96 (by decide) ?_
                  show Go _ _ _ _ _ _ [_, _, _, _, _, _, _, _, _] _ _ _
                  refine g_iinc dX3_clashes_98 rfl (by decide) ?_
                  show Go _ _ _ _ _ _ [_, _, _, _, _, _, _, _, _] _ _ _
                  refine g_iinc dX3_clashes_101 rfl (by decide) ?_
                  show Go _ _ _ _ _ _ [_, _, _, _, _, _, _, _, _] _ _ _
                  refine g_goto (tgt := 59) dX3_clashes_104 (by decide) ?_
                  rw [nI_inc, nI_inc]
                  first
                    | (rw [if_pos (show cB P k o x a (a + 1 + t) = true from bI_ne c86)] at kk
                       rw [orbit (by omega)]
                       exact kk)
                    | (rw [if_neg (show ¬ cB P k o x a (a + 1 + t) = true from by rw [show cB P k o x a (a + 1 + t) = false from bI_eq c86]; decide)] at kk
                       exact kk)
            · skip
              refine g_iload dX3_clashes_59 rfl ?_
              refine g_aload_n dX3_clashes_61 rfl ?_
              refine t_getI dX3_clashes_62 fl_X3_24 rfl (by decide) rfl (by decide) ?_
              rw [hP.1]
              refine g_icmp_ge (tgt := 107) dX3_clashes_65 (by decide) (fun c65 => ?_) (fun c65 => ?_)
              · skip
                refine g_iinc dX3_clashes_107 rfl (by decide) ?_
                show Go _ _ _ _ _ _ [_, _, _, _, _, _, _, _, _] _ _ _
                refine g_goto (tgt := 30) dX3_clashes_110 (by decide) ?_
                refine g_forget 7 ?_
                refine g_forget 8 ?_
                show Go _ _ _ _ _ _ [_, _, _, _, _, _, _, _, _] _ _ _
                rw [nI_inc]
                exact kko
              · exact absurd (show nI P.1 ≤ nI (a + 1 + (P.1 - (a + 1))) from nI_le (by omega) (by omega)) c65
        · skip
          refine g_iload dX3_clashes_30 rfl ?_
          refine g_aload_n dX3_clashes_32 rfl ?_
          refine t_getI dX3_clashes_33 fl_X3_24 rfl (by decide) rfl (by decide) ?_
          rw [hP.1]
          refine g_icmp_ge (tgt := 113) dX3_clashes_36 (by decide) (fun c36 => ?_) (fun c36 => ?_)
          · skip
            refine g_iload dX3_clashes_113 rfl ?_
            refine g_iret dX3_clashes_115 (fun ty h => by cases h; rfl) ?_
            exact ⟨rfl, rfl⟩
          · exact absurd (Int32.le_refl _) c36
      · exact absurd (show nI P.1 ≤ nI 4 from nI_le h4 (by decide)) c16
theorem ct_heardOn {P : Pce} {x oc : Nat} {o : Nat → Int} (hP : PcC P I) (hO : PcOK P) (hx : x < P.2.1) (hR : OuR o) (ho : OA X I J oc o) : Ct X (d + 2) 66 M_X3_heardOn 66 [.ref 22, .int (nI x), .ref oc] (I, J, rf0) (RI (fun y9 m => y9 = nI (hrS P o x) ∧ m = (I, J, rf0))) := by
  show Go _ _ _ _ _ _ [_, _, _] _ _ _
  refine g_aload_n dX3_heardOn_0 rfl ?_
  refine g_iload_n dX3_heardOn_1 rfl ?_
  refine g_aload_n dX3_heardOn_2 rfl ?_
  refine g_iload_n dX3_heardOn_3 rfl ?_
  refine g_callVi dX3_heardOn_4 ln_X3_37 ⟨_, rfl⟩ rfl (by decide) ⟨_, _, rfl⟩ rfl (Nat.le_of_ble_eq_true rfl) (Nat.le_of_ble_eq_true rfl) (ct_kindOf hP hO hx) rfl (fun r4 m4 h4 => ?_)
  obtain ⟨rfl, rfl⟩ := h4
  refine g_aload_n dX3_heardOn_7 rfl ?_
  refine g_callVi dX3_heardOn_8 ln_X3_51 ⟨_, rfl⟩ rfl (by decide) ⟨_, _, rfl⟩ rfl (Nat.le_of_ble_eq_true rfl) (Nat.le_of_ble_eq_true rfl) (ct_clashes hP hO (by have := hO.2.1; omega) (hO.2.2.2.1 x) hR ho) rfl (fun r8 m8 h8 => ?_)
  obtain ⟨rfl, rfl⟩ := h8
  refine g_iret dX3_heardOn_11 (fun ty h => by cases h; rfl) ?_
  exact ⟨rfl, rfl⟩
theorem OuR0 : OuR (fun _ => 0) := fun _ _ => ⟨show (-2 : Int) ≤ 0 by decide, show (0 : Int) ≤ 2 by decide⟩
theorem ct_heardPlainly {P : Pce} {x : Nat} (hP : PcC P I) (hO : PcOK P) (hx : x < P.2.1) : Ct X (d + 3) 66 M_X3_heardPlainly 66 [.ref 22, .int (nI x)] (I, J, rf0) (RI (fun y9 m => y9 = nI (hrS P (fun _ => 0) x) ∧ m = (I, J, rf0))) := by
  show Go _ _ _ _ _ _ [_, _] _ _ _
  refine g_aload_n dX3_heardPlainly_0 rfl ?_
  refine g_iload_n dX3_heardPlainly_1 rfl ?_
  refine g_gets dX3_heardPlainly_2 sf_X3_55 ?_
  refine g_callVi dX3_heardPlainly_5 ln_X3_58 ⟨_, rfl⟩ rfl (by decide) ⟨_, _, rfl⟩ rfl (Nat.le_of_ble_eq_true rfl) (Nat.le_of_ble_eq_true rfl) (ct_heardOn hP hO hx OuR0 OA.nobody) rfl (fun r5 m5 h5 => ?_)
  obtain ⟨rfl, rfl⟩ := h5
  refine g_iret dX3_heardPlainly_8 (fun ty h => by cases h; rfl) ?_
  exact ⟨rfl, rfl⟩
theorem ct_soundN {P : Pce} {p x : Nat} (hP : PcC P I) (hO : PcOK P) (hp : p < 100) (hx : x ≤ 100) : Ct X d 66 M_X3_soundOf 66 [.ref 22, .int (nI p), .int (nI x)] (I, J, rf0) (RI (fun y9 m => y9 = zI (sndS P p (x : Int)) ∧ m = (I, J, rf0))) := by
  have h := ct_soundOf (X := X) (d := d) (J := J) (p := p) (z := (x : Int)) hP hO hp (by omega)
  rw [← nI_z x] at h
  exact h
def cntSnd (P : Pce) (x : Nat) : Nat := cntP (fun p => decide (0 ≤ sndS P p (x : Int))) P.1
theorem ct_countSounding {P : Pce} {x : Nat} (hP : PcC P I) (hO : PcOK P) (hx : x ≤ 20) : Ct X (d + 1) 66 M_X3_countSounding 66 [.ref 22, .int (nI x)] (I, J, rf0) (RI (fun y9 m => y9 = nI (cntSnd P x) ∧ m = (I, J, rf0))) := by
  have h4 := hO.1
  show Go _ _ _ _ _ _ [_, _, _, _] _ _ _
  refine g_iconst (v := 0) dX3_countSounding_0 (by decide) ?_
  refine g_istore_n dX3_countSounding_1 (by decide) ?_
  show Go _ _ _ _ _ _ [_, _, _, _] _ _ _
  refine g_iconst (v := 0) dX3_countSounding_2 (by decide) ?_
  refine g_istore_n dX3_countSounding_3 (by decide) ?_
  show Go _ _ _ _ _ _ [_, _, _, _] _ _ _
  refine go_for (fun (p : Nat) (c : Nat) => if decide (0 ≤ sndS P p (x : Int)) then c + 1 else c) 0 P.1 (fun p c => Go X (d + 1) 66 M_X3_countSounding 66 4 [.ref 22, .int (nI x), .int (nI c), .int (nI p)] [] (I, J, rf0) (RI (fun y9 m => y9 = nI (cntSnd P x) ∧ m = (I, J, rf0)))) (fun p hp kk => ?_) ?_
  · skip
    refine g_iload_n dX3_countSounding_4 rfl ?_
    refine g_aload_n dX3_countSounding_5 rfl ?_
    refine t_getI dX3_countSounding_6 fl_X3_24 rfl (by decide) rfl (by decide) ?_
    rw [hP.1]
    refine g_icmp_ge (tgt := 31) dX3_countSounding_9 (by decide) (fun c9 => ?_) (fun c9 => ?_)
    · exact absurd (nI_lt hp (by omega)) (Int32.not_lt.mpr c9)
    · skip
      refine g_aload_n dX3_countSounding_12 rfl ?_
      refine g_iload_n dX3_countSounding_13 rfl ?_
      refine g_iload_n dX3_countSounding_14 rfl ?_
      refine g_callVi dX3_countSounding_15 ln_X3_62 ⟨_, rfl⟩ rfl (by decide) ⟨_, _, rfl⟩ rfl (Nat.le_of_ble_eq_true rfl) (Nat.le_of_ble_eq_true rfl) (ct_soundN (p := p) (x := x) hP hO (by omega) (by omega)) rfl (fun r15 m15 h15 => ?_)
      obtain ⟨rfl, rfl⟩ := h15
      refine g_iconst (v := -1) dX3_countSounding_18 (by decide) ?_
      refine g_icmp_eq (tgt := 25) dX3_countSounding_19 (by decide) (fun c19 => ?_) (fun c19 => ?_)
      · skip
        refine g_iinc dX3_countSounding_25 rfl (by decide) ?_
        show Go _ _ _ _ _ _ [_, _, _, _] _ _ _
        refine g_goto (tgt := 4) dX3_countSounding_28 (by decide) ?_
        have hr := sndS_rng P hO p (x : Int)
        have e9 : foldN (fun (p : Nat) (c : Nat) => if decide (0 ≤ sndS P p (x : Int)) then c + 1 else c) 0 (p + 1) = if decide (0 ≤ sndS P p (x : Int)) then foldN (fun (p : Nat) (c : Nat) => if decide (0 ≤ sndS P p (x : Int)) then c + 1 else c) 0 p + 1 else foldN (fun (p : Nat) (c : Nat) => if decide (0 ≤ sndS P p (x : Int)) then c + 1 else c) 0 p := rfl
        rw [e9] at kk
        rw [z_m1] at c19
        first
          | (have q := (not_congr (z_eq (by omega) (by omega))).mp c19
             rw [decide_eq_true (by omega)] at kk
             rw [nI_inc, nI_inc]
             exact kk)
          | (have q := (z_eq (by omega) (by omega)).mp c19
             rw [decide_eq_false (by omega)] at kk
             rw [nI_inc]
             exact kk)
      · skip
        refine g_iinc dX3_countSounding_22 rfl (by decide) ?_
        show Go _ _ _ _ _ _ [_, _, _, _] _ _ _
        refine g_iinc dX3_countSounding_25 rfl (by decide) ?_
        show Go _ _ _ _ _ _ [_, _, _, _] _ _ _
        refine g_goto (tgt := 4) dX3_countSounding_28 (by decide) ?_
        have hr := sndS_rng P hO p (x : Int)
        have e9 : foldN (fun (p : Nat) (c : Nat) => if decide (0 ≤ sndS P p (x : Int)) then c + 1 else c) 0 (p + 1) = if decide (0 ≤ sndS P p (x : Int)) then foldN (fun (p : Nat) (c : Nat) => if decide (0 ≤ sndS P p (x : Int)) then c + 1 else c) 0 p + 1 else foldN (fun (p : Nat) (c : Nat) => if decide (0 ≤ sndS P p (x : Int)) then c + 1 else c) 0 p := rfl
        rw [e9] at kk
        rw [z_m1] at c19
        first
          | (have q := (not_congr (z_eq (by omega) (by omega))).mp c19
             rw [decide_eq_true (by omega)] at kk
             rw [nI_inc, nI_inc]
             exact kk)
          | (have q := (z_eq (by omega) (by omega)).mp c19
             rw [decide_eq_false (by omega)] at kk
             rw [nI_inc]
             exact kk)
  · skip
    refine g_iload_n dX3_countSounding_4 rfl ?_
    refine g_aload_n dX3_countSounding_5 rfl ?_
    refine t_getI dX3_countSounding_6 fl_X3_24 rfl (by decide) rfl (by decide) ?_
    rw [hP.1]
    refine g_icmp_ge (tgt := 31) dX3_countSounding_9 (by decide) (fun c9 => ?_) (fun c9 => ?_)
    · skip
      refine g_iload_n dX3_countSounding_31 rfl ?_
      refine g_iret dX3_countSounding_32 (fun ty h => by cases h; rfl) ?_
      exact ⟨rfl, rfl⟩
    · exact absurd (Int32.le_refl _) c9
/-- of a kind: its own, or one above it -/
def isK (k w : Nat) : Bool := match k with
  | 0 => w == 0
  | 1 => w == 1 || w == 0
  | 2 => w == 2 || w == 0
  | 3 => w == 3 || (w == 1 || w == 0)
  | 4 => w == 4 || (w == 2 || w == 0)
  | _ => w == 5 || w == 0
def kNext (k : Int) : Int := if k = 3 then 1 else if k = 4 then 2 else if k = 0 then -9 else 0
theorem ct_isOf {P : Pce} {x w : Nat} (hP : PcC P I) (hO : PcOK P) (hx : x < P.2.1) (hw : w < 6) : Ct X (d + 1) 66 M_X3_isOf 66 [.ref 22, .int (nI x), .int (nI w)] (I, J, rf0) (RI (fun y9 m => y9 = bI (isK (P.2.2.1 x) w) ∧ m = (I, J, rf0))) := by
  show Go _ _ _ _ _ _ [_, _, _, _, _] _ _ _
  refine g_aload_n dX3_isOf_0 rfl ?_
  refine g_iload_n dX3_isOf_1 rfl ?_
  refine g_callVi dX3_isOf_2 ln_X3_37 ⟨_, rfl⟩ rfl (by decide) ⟨_, _, rfl⟩ rfl (Nat.le_of_ble_eq_true rfl) (Nat.le_of_ble_eq_true rfl) (ct_kindOf hP hO hx) rfl (fun r2 m2 h2 => ?_)
  obtain ⟨rfl, rfl⟩ := h2
  refine g_istore_n dX3_isOf_5 (by decide) ?_
  show Go _ _ _ _ _ _ [_, _, _, _, _] _ _ _
  refine g_iconst (v := 0) dX3_isOf_6 (by decide) ?_
  refine g_istore dX3_isOf_7 (by decide) ?_
  show Go _ _ _ _ _ _ [_, _, _, _, _] _ _ _
  have hk6 := hO.2.2.2.1 x
  generalize hkk : P.2.2.1 x = k at hk6 ⊢
  have done0 : ∀ (i own : Nat) (z : Int32), z < 0 → isK k w = false → Go X (d + 1) 66 M_X3_isOf 66 9 [.ref 22, .int (nI x), .int (nI w), .int z, .int (nI i)] [] (I, J, rf0) (RI (fun y9 m => y9 = bI (isK k w) ∧ m = (I, J, rf0))) := by
    intro i own z hz hf
    refine g_iload dX3_isOf_9 rfl ?_
    refine g_iconst (v := 3) dX3_isOf_11 (by decide) ?_
    refine g_icmp_ge (tgt := 46) dX3_isOf_12 (by decide) (fun c12 => ?_) (fun c12 => ?_)
    · refine g_iconst (v := 0) dX3_isOf_46 (by decide) ?_
      refine g_iret dX3_isOf_47 (fun ty h => by cases h; rfl) ?_
      exact ⟨by rw [hf]; rfl, rfl⟩
    · refine g_iload_n dX3_isOf_15 rfl ?_
      refine g_if_lt (tgt := 46) dX3_isOf_16 (by decide) (fun c16 => ?_) (fun c16 => ?_)
      · refine g_iconst (v := 0) dX3_isOf_46 (by decide) ?_
        refine g_iret dX3_isOf_47 (fun ty h => by cases h; rfl) ?_
        exact ⟨by rw [hf]; rfl, rfl⟩
      · exact absurd hz c16
  have step : ∀ (i own : Nat), i < 3 → own < 6 → (own = w → isK k w = true) → (own ≠ w → Go X (d + 1) 66 M_X3_isOf 66 9 [.ref 22, .int (nI x), .int (nI w), .int (kAbo own), .int (nI (i + 1))] [] (I, J, rf0) (RI (fun y9 m => y9 = bI (isK k w) ∧ m = (I, J, rf0)))) → Go X (d + 1) 66 M_X3_isOf 66 9 [.ref 22, .int (nI x), .int (nI w), .int (nI own), .int (nI i)] [] (I, J, rf0) (RI (fun y9 m => y9 = bI (isK k w) ∧ m = (I, J, rf0))) := by
    intro i own hi hown ht kk
    refine g_iload dX3_isOf_9 rfl ?_
    refine g_iconst (v := 3) dX3_isOf_11 (by decide) ?_
    refine g_icmp_ge (tgt := 46) dX3_isOf_12 (by decide) (fun c12 => ?_) (fun c12 => ?_)
    · exact absurd (nI_lt hi (by decide)) (Int32.not_lt.mpr c12)
    refine g_iload_n dX3_isOf_15 rfl ?_
    refine g_if_lt (tgt := 46) dX3_isOf_16 (by decide) (fun c16 => ?_) (fun c16 => ?_)
    · exact absurd c16 (nI_neg (by omega))
    refine g_iload_n dX3_isOf_19 rfl ?_
    refine g_gets dX3_isOf_20 sf_X3_41 ?_
    refine t_alro dX3_isOf_23 (by decide) (by decide) rfl ?_
    refine g_icmp_ge (tgt := 46) dX3_isOf_24 (by decide) (fun c24 => ?_) (fun c24 => ?_)
    · exact absurd (nI_lt hown (by decide)) (Int32.not_lt.mpr c24)
    refine g_iload_n dX3_isOf_27 rfl ?_
    refine g_iload_n dX3_isOf_28 rfl ?_
    refine g_icmp_ne (tgt := 34) dX3_isOf_29 (by decide) (fun c29 => ?_) (fun c29 => ?_)
    · refine g_gets dX3_isOf_34 sf_X3_41 ?_
      refine g_iload_n dX3_isOf_37 rfl ?_
      refine t_iaro dX3_isOf_38 (by decide) (by decide) rfl (in_nI hown (by decide)) ?_
      refine g_istore_n dX3_isOf_39 (by decide) ?_
      show Go _ _ _ _ _ _ [_, _, _, _, _] _ _ _
      refine g_iinc dX3_isOf_40 rfl (by decide) ?_
      show Go _ _ _ _ _ _ [_, _, _, _, _] _ _ _
      refine g_goto (tgt := 9) dX3_isOf_43 (by decide) ?_
      rw [nI_inc, cl_nI (by omega)]
      exact kk (fun q => c29 (by rw [q]))
    · refine g_iconst (v := 1) dX3_isOf_32 (by decide) ?_
      refine g_iret dX3_isOf_33 (fun ty h => by cases h; rfl) ?_
      exact ⟨by rw [ht ((nI_eq (by omega) (by omega)).mp c29)]; rfl, rfl⟩
  rcases (show k = 0 ∨ k = 1 ∨ k = 2 ∨ k = 3 ∨ k = 4 ∨ k = 5 by omega) with rfl | rfl | rfl | rfl | rfl | rfl
  · exact step 0 0 (by decide) (by decide) (fun q => by subst q; rfl) (fun q => done0 1 0 (-9) (by decide) (by simp [isK, Ne.symm q]))
  · exact step 0 1 (by decide) (by decide) (fun q => by subst q; rfl) (fun q => step 1 0 (by decide) (by decide) (fun q => by subst q; rfl) (fun q2 => done0 2 0 (-9) (by decide) (by simp [isK, Ne.symm q, Ne.symm q2])))
  · exact step 0 2 (by decide) (by decide) (fun q => by subst q; rfl) (fun q => step 1 0 (by decide) (by decide) (fun q => by subst q; rfl) (fun q2 => done0 2 0 (-9) (by decide) (by simp [isK, Ne.symm q, Ne.symm q2])))
  · exact step 0 3 (by decide) (by decide) (fun q => by subst q; rfl) (fun q => step 1 1 (by decide) (by decide) (fun q => by subst q; rfl) (fun q2 => step 2 0 (by decide) (by decide) (fun q => by subst q; rfl) (fun q3 => done0 3 0 (-9) (by decide) (by simp [isK, Ne.symm q, Ne.symm q2, Ne.symm q3]))))
  · exact step 0 4 (by decide) (by decide) (fun q => by subst q; rfl) (fun q => step 1 2 (by decide) (by decide) (fun q => by subst q; rfl) (fun q2 => step 2 0 (by decide) (by decide) (fun q => by subst q; rfl) (fun q3 => done0 3 0 (-9) (by decide) (by simp [isK, Ne.symm q, Ne.symm q2, Ne.symm q3]))))
  · exact step 0 5 (by decide) (by decide) (fun q => by subst q; rfl) (fun q => step 1 0 (by decide) (by decide) (fun q => by subst q; rfl) (fun q2 => done0 2 0 (-9) (by decide) (by simp [isK, Ne.symm q, Ne.symm q2])))
def cntK (P : Pce) (w n : Nat) : Nat := cntP (fun y => isK (P.2.2.1 y) w) n
theorem ct_countAhead {P : Pce} {x w : Nat} (hP : PcC P I) (hO : PcOK P) (hx : x ≤ P.2.1) (hw : w < 6) : Ct X (d + 2) 66 M_X3_countAhead 66 [.ref 22, .int (nI x), .int (nI w)] (I, J, rf0) (RI (fun y9 m => y9 = nI (cntK P w x) ∧ m = (I, J, rf0))) := by
  have h14 := hO.2.1
  show Go _ _ _ _ _ _ [_, _, _, _, _] _ _ _
  refine g_iconst (v := 0) dX3_countAhead_0 (by decide) ?_
  refine g_istore_n dX3_countAhead_1 (by decide) ?_
  show Go _ _ _ _ _ _ [_, _, _, _, _] _ _ _
  refine g_iconst (v := 0) dX3_countAhead_2 (by decide) ?_
  refine g_istore dX3_countAhead_3 (by decide) ?_
  show Go _ _ _ _ _ _ [_, _, _, _, _] _ _ _
  refine go_for (fun (y : Nat) (c : Nat) => if isK (P.2.2.1 y) w then c + 1 else c) 0 x (fun y c => Go X (d + 2) 66 M_X3_countAhead 66 5 [.ref 22, .int (nI x), .int (nI w), .int (nI c), .int (nI y)] [] (I, J, rf0) (RI (fun y9 m => y9 = nI (cntK P w x) ∧ m = (I, J, rf0)))) (fun y hy kk => ?_) ?_
  · skip
    refine g_iload dX3_countAhead_5 rfl ?_
    refine g_iload_n dX3_countAhead_7 rfl ?_
    refine g_icmp_ge (tgt := 39) dX3_countAhead_8 (by decide) (fun c8 => ?_) (fun c8 => ?_)
    · exact absurd (nI_lt hy (by omega)) (Int32.not_lt.mpr c8)
    · skip
      refine g_iload dX3_countAhead_11 rfl ?_
      refine g_aload_n dX3_countAhead_13 rfl ?_
      refine t_getI dX3_countAhead_14 fl_X3_28 rfl (by decide) rfl (by decide) ?_
      rw [hP.2.1]
      refine g_icmp_ge (tgt := 39) dX3_countAhead_17 (by decide) (fun c17 => ?_) (fun c17 => ?_)
      · exact absurd (nI_lt (show y < P.2.1 by omega) (by omega)) (Int32.not_lt.mpr c17)
      · skip
        refine g_aload_n dX3_countAhead_20 rfl ?_
        refine g_iload dX3_countAhead_21 rfl ?_
        refine g_iload_n dX3_countAhead_23 rfl ?_
        refine g_callVi dX3_countAhead_24 ln_X3_90 ⟨_, rfl⟩ rfl (by decide) ⟨_, _, rfl⟩ rfl (Nat.le_of_ble_eq_true rfl) (Nat.le_of_ble_eq_true rfl) (ct_isOf hP hO (by omega) hw) rfl (fun r24 m24 h24 => ?_)
        obtain ⟨rfl, rfl⟩ := h24
        refine g_if_eq (tgt := 33) dX3_countAhead_27 (by decide) (fun c27 => ?_) (fun c27 => ?_)
        · skip
          refine g_iinc dX3_countAhead_33 rfl (by decide) ?_
          show Go _ _ _ _ _ _ [_, _, _, _, _] _ _ _
          refine g_goto (tgt := 5) dX3_countAhead_36 (by decide) ?_
          have e9 : foldN (fun (y : Nat) (c : Nat) => if isK (P.2.2.1 y) w then c + 1 else c) 0 (y + 1) = if isK (P.2.2.1 y) w then foldN (fun (y : Nat) (c : Nat) => if isK (P.2.2.1 y) w then c + 1 else c) 0 y + 1 else foldN (fun (y : Nat) (c : Nat) => if isK (P.2.2.1 y) w then c + 1 else c) 0 y := rfl
          rw [e9] at kk
          first
            | (rw [bI_ne c27] at kk
               rw [nI_inc, nI_inc]
               exact kk)
            | (rw [bI_eq c27] at kk
               rw [nI_inc]
               exact kk)
        · skip
          refine g_iinc dX3_countAhead_30 rfl (by decide) ?_
          show Go _ _ _ _ _ _ [_, _, _, _, _] _ _ _
          refine g_iinc dX3_countAhead_33 rfl (by decide) ?_
          show Go _ _ _ _ _ _ [_, _, _, _, _] _ _ _
          refine g_goto (tgt := 5) dX3_countAhead_36 (by decide) ?_
          have e9 : foldN (fun (y : Nat) (c : Nat) => if isK (P.2.2.1 y) w then c + 1 else c) 0 (y + 1) = if isK (P.2.2.1 y) w then foldN (fun (y : Nat) (c : Nat) => if isK (P.2.2.1 y) w then c + 1 else c) 0 y + 1 else foldN (fun (y : Nat) (c : Nat) => if isK (P.2.2.1 y) w then c + 1 else c) 0 y := rfl
          rw [e9] at kk
          first
            | (rw [bI_ne c27] at kk
               rw [nI_inc, nI_inc]
               exact kk)
            | (rw [bI_eq c27] at kk
               rw [nI_inc]
               exact kk)
  · skip
    refine g_iload dX3_countAhead_5 rfl ?_
    refine g_iload_n dX3_countAhead_7 rfl ?_
    refine g_icmp_ge (tgt := 39) dX3_countAhead_8 (by decide) (fun c8 => ?_) (fun c8 => ?_)
    · skip
      refine g_iload_n dX3_countAhead_39 rfl ?_
      refine g_iret dX3_countAhead_40 (fun ty h => by cases h; rfl) ?_
      exact ⟨rfl, rfl⟩
    · exact absurd (Int32.le_refl _) c8
theorem ct_countOf {P : Pce} {w : Nat} (hP : PcC P I) (hO : PcOK P) (hw : w < 6) : Ct X (d + 3) 66 M_X3_countOf 66 [.ref 22, .int (nI w)] (I, J, rf0) (RI (fun y9 m => y9 = nI (cntK P w P.2.1) ∧ m = (I, J, rf0))) := by
  show Go _ _ _ _ _ _ [_, _] _ _ _
  refine g_aload_n dX3_countOf_0 rfl ?_
  refine g_aload_n dX3_countOf_1 rfl ?_
  refine t_getI dX3_countOf_2 fl_X3_28 rfl (by decide) rfl (by decide) ?_
  rw [hP.2.1]
  refine g_iload_n dX3_countOf_5 rfl ?_
  refine g_callVi dX3_countOf_6 ln_X3_79 ⟨_, rfl⟩ rfl (by decide) ⟨_, _, rfl⟩ rfl (Nat.le_of_ble_eq_true rfl) (Nat.le_of_ble_eq_true rfl) (ct_countAhead hP hO (Nat.le_refl _) hw) rfl (fun r6 m6 h6 => ?_)
  obtain ⟨rfl, rfl⟩ := h6
  refine g_iret dX3_countOf_9 (fun ty h => by cases h; rfl) ?_
  exact ⟨rfl, rfl⟩
end
