section
variable {X : Nat × (Nat → Int32)} {d : Nat} {I : Nat → Nat → Int32} {J : Nat → Nat → Int64}
/-! ===== the evening (model) ===== -/
def FrEM (I I' : Nat → Nat → Int32) : Prop := Fr [48, 60, 61, 63] I I' ∧ ∀ j, j ≠ 15 → j ≠ 16 → j ≠ 17 → I' 48 j = I 48 j
theorem FrEM.tr {I' I'' : Nat → Nat → Int32} (h : FrEM I I') (h2 : FrEM I' I'') : FrEM I I'' := ⟨h.1.trans h2.1, fun j a b c => (h2.2 j a b c).trans (h.2 j a b c)⟩
theorem FrEM.rf : FrEM I I := ⟨Fr.rf, fun _ _ _ _ => rfl⟩
theorem FrEM.pc {P : Pce} {I' : Nat → Nat → Int32} (h : FrEM I I') (hP : PcM P I) : PcM P I' := hP.keep (h.2 5 (by decide) (by decide) (by decide)) (h.2 6 (by decide) (by decide) (by decide)) (h.1 54 (by decide)) (h.1 55 (by decide))
theorem AbsM.upEv {rw tx : Tab} {P : Pce} {ds : List Deed} {sh : Shf} {tl : Int32} {ch : Int64 × Int64} {fn : Fnd} {es : List Deed} {I' : Nat → Nat → Int32} (h : AbsM rw tx P ds sh tl ch fn I J) (hf : Fr [48, 58, 59, 60, 61, 63] I I') (h0 : ∀ j, j ≠ 15 → j ≠ 16 → j ≠ 17 → I' 48 j = I 48 j) (h58 : ∀ j, 1 ≤ j → I' 58 j = I 58 j) (h59 : ∀ q, 120 ≤ q → I' 59 q = I 59 q) (h1 : EvM P es I') : AbsM rw tx P es sh tl ch fn I' J :=
  ⟨h.1.keep (hf 49 (by decide)) (fun _ _ => hf 50 (by decide)), h.2.1.keep (hf 51 (by decide)) (fun _ _ => hf 52 (by decide)), h.2.2.1.keep (h0 5 (by decide) (by decide) (by decide)) (h0 6 (by decide) (by decide) (by decide)) (hf 54 (by decide)) (hf 55 (by decide)), h1, fun k hk => ⟨by rw [h58 _ (by omega)]; exact (h.2.2.2.2.1 k hk).1, fun es he i d' hd' => by
    have := (h.2.2.2.2.1 k hk).2 es he i d' hd'
    rw [h59 _ (by omega), h59 _ (by omega), h59 _ (by omega)]
    exact this⟩, by rw [h0 20 (by decide) (by decide) (by decide)]; exact h.2.2.2.2.2.1, h.2.2.2.2.2.2.1, by rw [h0 23 (by decide) (by decide) (by decide)]; exact h.2.2.2.2.2.2.2.1, fun j hj => by rw [hf 62 (by decide)]; exact h.2.2.2.2.2.2.2.2 j hj⟩
theorem ix3 (i : Nat) : (3 : Int32) * nI i = nI (3 * i) := by rw [show (3 : Int32) = nI 3 from rfl, pk_mul]
theorem ix3b (i : Nat) : (3 : Int32) * nI i + 1 = nI (3 * i + 1) := by rw [ix3, nI_1]
theorem ix3c (i : Nat) : (3 : Int32) * nI i + 2 = nI (3 * i + 2) := by rw [ix3, show (2 : Int32) = nI 2 from rfl, nI_add]
theorem howM_1 {e : Deed} (h : e.1 = 1) : howM e = zI ((e.2.2 : Int) - 1) := if_pos h
theorem howM_n {e : Deed} (h : e.1 ≠ 1) : howM e = nI e.2.2 := if_neg h
theorem id_cell (k : Nat) : (I, J, rf0) = (upR I k (I k), J, rf0) := congrArg (fun z => (z, J, rf0)) (funext fun q => by
  by_cases hq : q = k
  · subst hq; exact upR_s.symm
  · exact (upR_n hq).symm)
theorem up_up {k : Nat} {g g' : Nat → Int32} : upR (upR I k g) k g' = upR I k g' := by
  funext q
  by_cases hq : q = k
  · subst hq; rw [upR_s, upR_s]
  · rw [upR_n hq, upR_n hq, upR_n hq]
theorem fold0 (g0 : Nat → Int32) : ∀ i q, q < i → foldN (fun (i : Nat) (g : Nat → Int32) => upd g i 0) g0 i q = 0 := by
  intro i
  induction i with
  | zero => intro q hq; omega
  | succ i ih =>
    intro q hq
    show upd (foldN (fun (i : Nat) (g : Nat → Int32) => upd g i 0) g0 i) i 0 q = _
    by_cases e : q = i
    · subst e; rw [pk_us]
    · rw [pk_un e]; exact ih q (by omega)
theorem ct_isFullM {n : Nat} (hn : I 58 0 = nI n) (hn2 : n ≤ 40) : Ct X d 66 M_X11_isFull 66 [.ref 48] (I, J, rf0) (RI (fun y9 m => y9 = bI (decide (40 ≤ n)) ∧ m = (I, J, rf0))) := by
  show Go _ _ _ _ _ _ [_] _ _ _
  refine g_aload_n dX11_isFull_0 rfl ?_
  refine t_getR dX11_isFull_1 fl_X11_38 rfl (by decide) rfl (by decide) rfl ?_
  refine g_iconst (v := 0) dX11_isFull_4 (by decide) ?_
  refine t_iald dX11_isFull_5 rfl (by decide) (in_nI (j := 0) (by decide) (by decide)) ?_
  refine g_bipush (v := 40) dX11_isFull_6 (by decide) ?_
  rw [show (0 : Int32).toNatClampNeg = 0 by decide, hn]
  refine g_icmp_ne (tgt := 15) dX11_isFull_8 (by decide) (fun c8 => ?_) (fun c8 => ?_)
  · skip
    refine g_iconst (v := 0) dX11_isFull_15 (by decide) ?_
    refine g_iret dX11_isFull_16 (fun ty h => by cases h; rfl) ?_
    refine ⟨?_, rfl⟩
    first
      | (have c8' : nI n = nI 40 := c8
         rw [decide_eq_true (by have := (nI_eq (by omega) (by decide)).mp c8'; omega)]; rfl)
      | (have c8' : ¬ nI n = nI 40 := c8
         rw [decide_eq_false (fun q => c8' (by rw [show n = 40 by omega]))]; rfl)
      | fail "no way"
  · skip
    refine g_iconst (v := 1) dX11_isFull_11 (by decide) ?_
    refine g_goto (tgt := 16) dX11_isFull_12 (by decide) ?_
    refine g_iret dX11_isFull_16 (fun ty h => by cases h; rfl) ?_
    refine ⟨?_, rfl⟩
    first
      | (have c8' : nI n = nI 40 := c8
         rw [decide_eq_true (by have := (nI_eq (by omega) (by decide)).mp c8'; omega)]; rfl)
      | (have c8' : ¬ nI n = nI 40 := c8
         rw [decide_eq_false (fun q => c8' (by rw [show n = 40 by omega]))]; rfl)
      | fail "no way"
theorem ct_goes {P : Pce} {s : Evs} {e : Deed} {i : Nat} (hP : PcM P I) (hO : PcOK P) (hi : i < 40) (h1 : I 59 (3 * i) = nI e.1) (h2 : I 59 (3 * i + 1) = nI e.2.1) (h3 : I 59 (3 * i + 2) = howM e) (hE : EsM s I) (hR : EvR s) (hok : evOK P s e) : Ct X (d + 5) 66 M_X11_goes 66 [.ref 48, .int (nI i)] (I, J, rf0) (RV (fun m => ∃ I', m = (I', J, rf0) ∧ FrEM I I' ∧ EsM (evStep P s e) I')) := by
  have h14 := hO.2.1
  have h4 := hO.1
  have hr := hR.1
  have hr2 := hR.2.1
  obtain ⟨b1, b2, b3⟩ := evOK_b hO hok
  show Go _ _ _ _ _ _ [_, _, _, _, _] _ _ _
  refine g_aload_n dX11_goes_0 rfl ?_
  refine t_getR dX11_goes_1 fl_X11_41 rfl (by decide) rfl (by decide) rfl ?_
  refine g_iconst (v := 3) dX11_goes_4 (by decide) ?_
  refine g_iload_n dX11_goes_5 rfl ?_
  refine g_imul dX11_goes_6 ?_
  refine g_iconst (v := 1) dX11_goes_7 (by decide) ?_
  refine g_iadd dX11_goes_8 ?_
  refine t_iald dX11_goes_9 rfl (by decide) (by rw [ix3b]; exact in_nI (by omega) (by decide)) ?_
  rw [ix3b, cl_nI (by omega), h2]
  refine g_istore_n dX11_goes_10 (by decide) ?_
  show Go _ _ _ _ _ _ [_, _, _, _, _] _ _ _
  refine g_aload_n dX11_goes_11 rfl ?_
  refine t_getR dX11_goes_12 fl_X11_41 rfl (by decide) rfl (by decide) rfl ?_
  refine g_iconst (v := 3) dX11_goes_15 (by decide) ?_
  refine g_iload_n dX11_goes_16 rfl ?_
  refine g_imul dX11_goes_17 ?_
  refine g_iconst (v := 2) dX11_goes_18 (by decide) ?_
  refine g_iadd dX11_goes_19 ?_
  refine t_iald dX11_goes_20 rfl (by decide) (by rw [ix3c]; exact in_nI (by omega) (by decide)) ?_
  rw [ix3c, cl_nI (by omega), h3]
  refine g_istore_n dX11_goes_21 (by decide) ?_
  show Go _ _ _ _ _ _ [_, _, _, _, _] _ _ _
  refine g_aload_n dX11_goes_22 rfl ?_
  refine t_getR dX11_goes_23 fl_X11_41 rfl (by decide) rfl (by decide) rfl ?_
  refine g_iconst (v := 3) dX11_goes_26 (by decide) ?_
  refine g_iload_n dX11_goes_27 rfl ?_
  refine g_imul dX11_goes_28 ?_
  refine t_iald dX11_goes_29 rfl (by decide) (by rw [ix3]; exact in_nI (by omega) (by decide)) ?_
  rw [ix3, cl_nI (by omega), h1]
  obtain ⟨k, p, w⟩ := e
  dsimp only at b1 b2 b3 ⊢
  rcases evOK_k hok with rfl | rfl | rfl | rfl
  · skip
    have hk : s.1 < P.2.1 := hok.1
    refine g_tabIn (off := 26) (tgt := 56) dX11_goes_30 (by decide) (by decide) (by decide) (by decide) ?_
    refine g_aload_n dX11_goes_56 rfl ?_
    refine g_callVv dX11_goes_57 ln_X11_189 rfl rfl (by decide) ⟨_, _, rfl⟩ rfl (Nat.le_of_ble_eq_true rfl) (Nat.le_of_ble_eq_true rfl) ct_asOut rfl (fun m57 h57 => ?_)
    obtain ⟨g, rfl, hg⟩ := h57
    refine g_aload_n dX11_goes_60 rfl ?_
    refine t_getR dX11_goes_61 fl_X11_47 rfl (by decide) rfl (by decide) rfl ?_
    refine g_aload_n dX11_goes_64 rfl ?_
    refine t_getI dX11_goes_65 fl_X11_182 rfl (by decide) rfl (by decide) ?_
    refine g_aload_n dX11_goes_68 rfl ?_
    refine g_aload_n dX11_goes_69 rfl ?_
    refine t_getI dX11_goes_70 fl_X11_176 rfl (by decide) rfl (by decide) ?_
    rw [upR_n (a := 48) (by decide), hE.1]
    refine g_callVi dX11_goes_73 ln_X11_143 ⟨_, rfl⟩ rfl (by decide) ⟨_, _, rfl⟩ rfl (Nat.le_of_ble_eq_true rfl) (Nat.le_of_ble_eq_true rfl) (ct_hears (x := s.1) hP.keep63 hO hk hR.2.2.1 (fun p hp => by rw [upR_s, hg p hp]; exact hE.2.2.2.1 p hp)) rfl (fun r73 m73 h73 => ?_)
    obtain ⟨rfl, rfl⟩ := h73
    rw [hE.2.2.1]
    refine t_iast dX11_goes_76 rfl (by decide) (in_nI (by omega) (by decide)) ?_
    refine g_aload_n dX11_goes_77 rfl ?_
    refine g_dup dX11_goes_78 rfl ?_
    refine t_getI dX11_goes_79 fl_X11_182 rfl (by decide) rfl (by decide) ?_
    refine g_iconst (v := 1) dX11_goes_82 (by decide) ?_
    refine g_iadd dX11_goes_83 ?_
    refine t_putI dX11_goes_84 fl_X11_182 rfl (by decide) rfl (by decide) ?_
    refine g_aload_n dX11_goes_87 rfl ?_
    refine g_dup dX11_goes_88 rfl ?_
    refine t_getI dX11_goes_89 fl_X11_176 rfl (by decide) rfl (by decide) ?_
    refine g_iconst (v := 1) dX11_goes_92 (by decide) ?_
    refine g_iadd dX11_goes_93 ?_
    refine t_putI dX11_goes_94 fl_X11_176 rfl (by decide) rfl (by decide) ?_
    refine g_goto (tgt := 166) dX11_goes_97 (by decide) ?_
    refine g_vret dX11_goes_166 ?_
    first
      | (rw [cl_nI (by omega)]
         refine ⟨_, rfl, ⟨(((Fr.rf.up (by decide)).up (by decide)).up (by decide)).up (by decide), fun j a1 a2 a3 => ?_⟩, ?_, ?_, ?_, fun q hq => ?_, fun t ht => ?_⟩
         · rw [upR_s, pk_un a1, upR_s, pk_un a3, upR_n (by decide), upR_n (by decide)]
         · show (upR (β := Nat → Int32) _ 48 _) 48 15 = nI (s.1 + 1)
           rw [upR_s, pk_us, upR_s, pk_un (by decide), upR_n (by decide), upR_n (by decide), hE.1, nI_1]
         · show (upR (β := Nat → Int32) _ 48 _) 48 16 = nI s.2.1
           rw [upR_s, pk_un (by decide), upR_s, pk_un (by decide), upR_n (by decide), upR_n (by decide)]; exact hE.2.1
         · show (upR (β := Nat → Int32) _ 48 _) 48 17 = nI (s.1 + 1 - s.2.1)
           rw [upR_s, pk_un (by decide), upR_s, pk_us, upR_n (by decide), upR_n (by decide), hE.2.2.1, nI_1, show s.1 - s.2.1 + 1 = s.1 + 1 - s.2.1 by omega]
         · show (upR (β := Nat → Int32) _ 48 _) 60 q = zI (s.2.2.1 q)
           rw [upR_n (by decide), upR_n (by decide), upR_n (by decide), upR_n (by decide)]; exact hE.2.2.2.1 q hq
         · show (upR (β := Nat → Int32) _ 48 _) 61 t = nI (upR s.2.2.2 s.1 (hrS P s.2.2.1 s.1) (s.2.1 + t))
           have ht' : t < s.1 + 1 - s.2.1 := ht
           rw [upR_n (by decide), upR_n (by decide), upR_s, upR_n (a := 61) (by decide)]
           by_cases e : t = s.1 - s.2.1
           · rw [e, pk_us, show s.2.1 + (s.1 - s.2.1) = s.1 by omega, upR_s]
           · rw [pk_un e, upR_n (by omega)]; exact hE.2.2.2.2 t (by omega))
      | (rw [cl_nI (by omega), hE.2.2.2.1 p b2, z_add]
         refine ⟨_, rfl, ⟨Fr.rf.up (by decide), fun j _ _ _ => by rw [upR_n (by decide)]⟩, by rw [upR_n (by decide)]; exact hE.1, by rw [upR_n (by decide)]; exact hE.2.1, by rw [upR_n (by decide)]; exact hE.2.2.1, fun q hq => ?_, fun t ht => by rw [upR_n (by decide)]; exact hE.2.2.2.2 t ht⟩
         show (upR (β := Nat → Int32) _ 60 _) 60 q = zI (upR s.2.2.1 p (s.2.2.1 p + (w : Int) - 1) q)
         rw [upR_s]
         by_cases e : q = p
         · subst e; rw [pk_us, upR_s, show s.2.2.1 q + ((w : Int) - 1) = s.2.2.1 q + (w : Int) - 1 by omega]
         · rw [pk_un e, upR_n e]; exact hE.2.2.2.1 q hq)
      | (rw [cl_nI (by omega), cl_nI (by omega), hE.2.2.2.1 w (by omega)]
         refine ⟨_, rfl, ⟨Fr.rf.up (by decide), fun j _ _ _ => by rw [upR_n (by decide)]⟩, by rw [upR_n (by decide)]; exact hE.1, by rw [upR_n (by decide)]; exact hE.2.1, by rw [upR_n (by decide)]; exact hE.2.2.1, fun q hq => ?_, fun t ht => by rw [upR_n (by decide)]; exact hE.2.2.2.2 t ht⟩
         show (upR (β := Nat → Int32) _ 60 _) 60 q = zI (upR s.2.2.1 p (s.2.2.1 w) q)
         rw [upR_s]
         by_cases e : q = p
         · subst e; rw [pk_us, upR_s]
         · rw [pk_un e, upR_n e]; exact hE.2.2.2.1 q hq)
      | (refine ⟨_, rfl, ⟨?_, fun j a1 a2 a3 => ?_⟩, ?_, ?_, ?_, fun q hq => ?_, fun t ht => ?_⟩
         · rw [← hI0]; exact (((Fr.rf.up (by decide)).up (by decide)).up (by decide)).up (by decide)
         · rw [upR_n (by decide), ← hI0, upR_s, pk_un a3, upR_s, pk_un a2, upR_s, pk_un a1]
         · show (upR (β := Nat → Int32) _ 60 _) 48 15 = nI w
           rw [upR_n (by decide), ← hI0, upR_s, pk_un (by decide), upR_s, pk_un (by decide), upR_s, pk_us]
         · show (upR (β := Nat → Int32) _ 60 _) 48 16 = nI w
           rw [upR_n (by decide), ← hI0, upR_s, pk_un (by decide), upR_s, pk_us]
         · show (upR (β := Nat → Int32) _ 60 _) 48 17 = nI (w - w)
           rw [upR_n (by decide), ← hI0, upR_s, pk_us, Nat.sub_self]; rfl
         · show (upR (β := Nat → Int32) _ 60 _) 60 q = zI 0
           rw [upR_s, fold0 _ 4 q hq]; rfl
         · have ht' : t < w - w := ht
           omega)
      | fail "no way"
  · skip
    rw [howM_1 rfl]
    refine g_tabIn (off := 70) (tgt := 100) dX11_goes_30 (by decide) (by decide) (by decide) (by decide) ?_
    refine g_aload_n dX11_goes_100 rfl ?_
    refine t_getR dX11_goes_101 fl_X11_44 rfl (by decide) rfl (by decide) rfl ?_
    refine g_iload_n dX11_goes_104 rfl ?_
    refine g_dup2 dX11_goes_105 rfl rfl ?_
    refine t_iald dX11_goes_106 rfl (by decide) (in_nI b2 (by decide)) ?_
    refine g_iload_n dX11_goes_107 rfl ?_
    refine g_iadd dX11_goes_108 ?_
    refine t_iast dX11_goes_109 rfl (by decide) (in_nI b2 (by decide)) ?_
    refine g_goto (tgt := 166) dX11_goes_110 (by decide) ?_
    refine g_vret dX11_goes_166 ?_
    first
      | (rw [cl_nI (by omega)]
         refine ⟨_, rfl, ⟨(((Fr.rf.up (by decide)).up (by decide)).up (by decide)).up (by decide), fun j a1 a2 a3 => ?_⟩, ?_, ?_, ?_, fun q hq => ?_, fun t ht => ?_⟩
         · rw [upR_s, pk_un a1, upR_s, pk_un a3, upR_n (by decide), upR_n (by decide)]
         · show (upR (β := Nat → Int32) _ 48 _) 48 15 = nI (s.1 + 1)
           rw [upR_s, pk_us, upR_s, pk_un (by decide), upR_n (by decide), upR_n (by decide), hE.1, nI_1]
         · show (upR (β := Nat → Int32) _ 48 _) 48 16 = nI s.2.1
           rw [upR_s, pk_un (by decide), upR_s, pk_un (by decide), upR_n (by decide), upR_n (by decide)]; exact hE.2.1
         · show (upR (β := Nat → Int32) _ 48 _) 48 17 = nI (s.1 + 1 - s.2.1)
           rw [upR_s, pk_un (by decide), upR_s, pk_us, upR_n (by decide), upR_n (by decide), hE.2.2.1, nI_1, show s.1 - s.2.1 + 1 = s.1 + 1 - s.2.1 by omega]
         · show (upR (β := Nat → Int32) _ 48 _) 60 q = zI (s.2.2.1 q)
           rw [upR_n (by decide), upR_n (by decide), upR_n (by decide), upR_n (by decide)]; exact hE.2.2.2.1 q hq
         · show (upR (β := Nat → Int32) _ 48 _) 61 t = nI (upR s.2.2.2 s.1 (hrS P s.2.2.1 s.1) (s.2.1 + t))
           have ht' : t < s.1 + 1 - s.2.1 := ht
           rw [upR_n (by decide), upR_n (by decide), upR_s, upR_n (a := 61) (by decide)]
           by_cases e : t = s.1 - s.2.1
           · rw [e, pk_us, show s.2.1 + (s.1 - s.2.1) = s.1 by omega, upR_s]
           · rw [pk_un e, upR_n (by omega)]; exact hE.2.2.2.2 t (by omega))
      | (rw [cl_nI (by omega), hE.2.2.2.1 p b2, z_add]
         refine ⟨_, rfl, ⟨Fr.rf.up (by decide), fun j _ _ _ => by rw [upR_n (by decide)]⟩, by rw [upR_n (by decide)]; exact hE.1, by rw [upR_n (by decide)]; exact hE.2.1, by rw [upR_n (by decide)]; exact hE.2.2.1, fun q hq => ?_, fun t ht => by rw [upR_n (by decide)]; exact hE.2.2.2.2 t ht⟩
         show (upR (β := Nat → Int32) _ 60 _) 60 q = zI (upR s.2.2.1 p (s.2.2.1 p + (w : Int) - 1) q)
         rw [upR_s]
         by_cases e : q = p
         · subst e; rw [pk_us, upR_s, show s.2.2.1 q + ((w : Int) - 1) = s.2.2.1 q + (w : Int) - 1 by omega]
         · rw [pk_un e, upR_n e]; exact hE.2.2.2.1 q hq)
      | (rw [cl_nI (by omega), cl_nI (by omega), hE.2.2.2.1 w (by omega)]
         refine ⟨_, rfl, ⟨Fr.rf.up (by decide), fun j _ _ _ => by rw [upR_n (by decide)]⟩, by rw [upR_n (by decide)]; exact hE.1, by rw [upR_n (by decide)]; exact hE.2.1, by rw [upR_n (by decide)]; exact hE.2.2.1, fun q hq => ?_, fun t ht => by rw [upR_n (by decide)]; exact hE.2.2.2.2 t ht⟩
         show (upR (β := Nat → Int32) _ 60 _) 60 q = zI (upR s.2.2.1 p (s.2.2.1 w) q)
         rw [upR_s]
         by_cases e : q = p
         · subst e; rw [pk_us, upR_s]
         · rw [pk_un e, upR_n e]; exact hE.2.2.2.1 q hq)
      | (refine ⟨_, rfl, ⟨?_, fun j a1 a2 a3 => ?_⟩, ?_, ?_, ?_, fun q hq => ?_, fun t ht => ?_⟩
         · rw [← hI0]; exact (((Fr.rf.up (by decide)).up (by decide)).up (by decide)).up (by decide)
         · rw [upR_n (by decide), ← hI0, upR_s, pk_un a3, upR_s, pk_un a2, upR_s, pk_un a1]
         · show (upR (β := Nat → Int32) _ 60 _) 48 15 = nI w
           rw [upR_n (by decide), ← hI0, upR_s, pk_un (by decide), upR_s, pk_un (by decide), upR_s, pk_us]
         · show (upR (β := Nat → Int32) _ 60 _) 48 16 = nI w
           rw [upR_n (by decide), ← hI0, upR_s, pk_un (by decide), upR_s, pk_us]
         · show (upR (β := Nat → Int32) _ 60 _) 48 17 = nI (w - w)
           rw [upR_n (by decide), ← hI0, upR_s, pk_us, Nat.sub_self]; rfl
         · show (upR (β := Nat → Int32) _ 60 _) 60 q = zI 0
           rw [upR_s, fold0 _ 4 q hq]; rfl
         · have ht' : t < w - w := ht
           omega)
      | fail "no way"
  · skip
    rw [howM_n (show (2 : Nat) ≠ 1 by decide)]
    have hw : w < P.1 := hok.2
    dsimp only
    refine g_tabIn (off := 83) (tgt := 113) dX11_goes_30 (by decide) (by decide) (by decide) (by decide) ?_
    refine g_aload_n dX11_goes_113 rfl ?_
    refine t_getR dX11_goes_114 fl_X11_44 rfl (by decide) rfl (by decide) rfl ?_
    refine g_iload_n dX11_goes_117 rfl ?_
    refine g_aload_n dX11_goes_118 rfl ?_
    refine t_getR dX11_goes_119 fl_X11_44 rfl (by decide) rfl (by decide) rfl ?_
    refine g_iload_n dX11_goes_122 rfl ?_
    refine t_iald dX11_goes_123 rfl (by decide) (in_nI (by omega) (by decide)) ?_
    refine t_iast dX11_goes_124 rfl (by decide) (in_nI b2 (by decide)) ?_
    refine g_goto (tgt := 166) dX11_goes_125 (by decide) ?_
    refine g_vret dX11_goes_166 ?_
    first
      | (rw [cl_nI (by omega)]
         refine ⟨_, rfl, ⟨(((Fr.rf.up (by decide)).up (by decide)).up (by decide)).up (by decide), fun j a1 a2 a3 => ?_⟩, ?_, ?_, ?_, fun q hq => ?_, fun t ht => ?_⟩
         · rw [upR_s, pk_un a1, upR_s, pk_un a3, upR_n (by decide), upR_n (by decide)]
         · show (upR (β := Nat → Int32) _ 48 _) 48 15 = nI (s.1 + 1)
           rw [upR_s, pk_us, upR_s, pk_un (by decide), upR_n (by decide), upR_n (by decide), hE.1, nI_1]
         · show (upR (β := Nat → Int32) _ 48 _) 48 16 = nI s.2.1
           rw [upR_s, pk_un (by decide), upR_s, pk_un (by decide), upR_n (by decide), upR_n (by decide)]; exact hE.2.1
         · show (upR (β := Nat → Int32) _ 48 _) 48 17 = nI (s.1 + 1 - s.2.1)
           rw [upR_s, pk_un (by decide), upR_s, pk_us, upR_n (by decide), upR_n (by decide), hE.2.2.1, nI_1, show s.1 - s.2.1 + 1 = s.1 + 1 - s.2.1 by omega]
         · show (upR (β := Nat → Int32) _ 48 _) 60 q = zI (s.2.2.1 q)
           rw [upR_n (by decide), upR_n (by decide), upR_n (by decide), upR_n (by decide)]; exact hE.2.2.2.1 q hq
         · show (upR (β := Nat → Int32) _ 48 _) 61 t = nI (upR s.2.2.2 s.1 (hrS P s.2.2.1 s.1) (s.2.1 + t))
           have ht' : t < s.1 + 1 - s.2.1 := ht
           rw [upR_n (by decide), upR_n (by decide), upR_s, upR_n (a := 61) (by decide)]
           by_cases e : t = s.1 - s.2.1
           · rw [e, pk_us, show s.2.1 + (s.1 - s.2.1) = s.1 by omega, upR_s]
           · rw [pk_un e, upR_n (by omega)]; exact hE.2.2.2.2 t (by omega))
      | (rw [cl_nI (by omega), hE.2.2.2.1 p b2, z_add]
         refine ⟨_, rfl, ⟨Fr.rf.up (by decide), fun j _ _ _ => by rw [upR_n (by decide)]⟩, by rw [upR_n (by decide)]; exact hE.1, by rw [upR_n (by decide)]; exact hE.2.1, by rw [upR_n (by decide)]; exact hE.2.2.1, fun q hq => ?_, fun t ht => by rw [upR_n (by decide)]; exact hE.2.2.2.2 t ht⟩
         show (upR (β := Nat → Int32) _ 60 _) 60 q = zI (upR s.2.2.1 p (s.2.2.1 p + (w : Int) - 1) q)
         rw [upR_s]
         by_cases e : q = p
         · subst e; rw [pk_us, upR_s, show s.2.2.1 q + ((w : Int) - 1) = s.2.2.1 q + (w : Int) - 1 by omega]
         · rw [pk_un e, upR_n e]; exact hE.2.2.2.1 q hq)
      | (rw [cl_nI (by omega), cl_nI (by omega), hE.2.2.2.1 w (by omega)]
         refine ⟨_, rfl, ⟨Fr.rf.up (by decide), fun j _ _ _ => by rw [upR_n (by decide)]⟩, by rw [upR_n (by decide)]; exact hE.1, by rw [upR_n (by decide)]; exact hE.2.1, by rw [upR_n (by decide)]; exact hE.2.2.1, fun q hq => ?_, fun t ht => by rw [upR_n (by decide)]; exact hE.2.2.2.2 t ht⟩
         show (upR (β := Nat → Int32) _ 60 _) 60 q = zI (upR s.2.2.1 p (s.2.2.1 w) q)
         rw [upR_s]
         by_cases e : q = p
         · subst e; rw [pk_us, upR_s]
         · rw [pk_un e, upR_n e]; exact hE.2.2.2.1 q hq)
      | (refine ⟨_, rfl, ⟨?_, fun j a1 a2 a3 => ?_⟩, ?_, ?_, ?_, fun q hq => ?_, fun t ht => ?_⟩
         · rw [← hI0]; exact (((Fr.rf.up (by decide)).up (by decide)).up (by decide)).up (by decide)
         · rw [upR_n (by decide), ← hI0, upR_s, pk_un a3, upR_s, pk_un a2, upR_s, pk_un a1]
         · show (upR (β := Nat → Int32) _ 60 _) 48 15 = nI w
           rw [upR_n (by decide), ← hI0, upR_s, pk_un (by decide), upR_s, pk_un (by decide), upR_s, pk_us]
         · show (upR (β := Nat → Int32) _ 60 _) 48 16 = nI w
           rw [upR_n (by decide), ← hI0, upR_s, pk_un (by decide), upR_s, pk_us]
         · show (upR (β := Nat → Int32) _ 60 _) 48 17 = nI (w - w)
           rw [upR_n (by decide), ← hI0, upR_s, pk_us, Nat.sub_self]; rfl
         · show (upR (β := Nat → Int32) _ 60 _) 60 q = zI 0
           rw [upR_s, fold0 _ 4 q hq]; rfl
         · have ht' : t < w - w := ht
           omega)
      | fail "no way"
  · skip
    rw [howM_n (show (3 : Nat) ≠ 1 by decide)]
    have hw : w < P.2.1 := hok.2
    dsimp only
    refine g_tabOut (tgt := 128) dX11_goes_30 (by decide) (by decide) ?_
    refine g_aload_n dX11_goes_128 rfl ?_
    refine g_iload_n dX11_goes_129 rfl ?_
    refine t_putI dX11_goes_130 fl_X11_176 rfl (by decide) rfl (by decide) ?_
    refine g_aload_n dX11_goes_133 rfl ?_
    refine g_iload_n dX11_goes_134 rfl ?_
    refine t_putI dX11_goes_135 fl_X11_179 rfl (by decide) rfl (by decide) ?_
    refine g_aload_n dX11_goes_138 rfl ?_
    refine g_iconst (v := 0) dX11_goes_139 (by decide) ?_
    refine t_putI dX11_goes_140 fl_X11_182 rfl (by decide) rfl (by decide) ?_
    refine g_iconst (v := 0) dX11_goes_143 (by decide) ?_
    refine g_istore dX11_goes_144 (by decide) ?_
    show Go _ _ _ _ _ _ [_, _, _, _, _] _ _ _
    generalize hI0 : upR (upR (upR I 48 (upd (I 48) 15 (nI w))) 48 (upd (upR I 48 (upd (I 48) 15 (nI w)) 48) 16 (nI w))) 48 (upd (upR (upR I 48 (upd (I 48) 15 (nI w))) 48 (upd (upR I 48 (upd (I 48) 15 (nI w)) 48) 16 (nI w)) 48) 17 0) = I0
    rw [id_cell (I := I0) 60]
    refine go_for (fun (i : Nat) (g : Nat → Int32) => upd g i 0) (I0 60) 4 (fun q g => Go X (d + 5) 66 M_X11_goes 66 146 [.ref 48, .int (nI i), .int (nI p), .int (nI w), .int (nI q)] [] (upR I0 60 g, J, rf0) (RV (fun m => ∃ I', m = (I', J, rf0) ∧ FrEM I I' ∧ EsM (evStep P s (3, p, w)) I'))) (fun q hq kk => ?_) ?_
    · skip
      refine g_iload dX11_goes_146 rfl ?_
      refine g_iconst (v := 4) dX11_goes_148 (by decide) ?_
      refine g_icmp_ge (tgt := 166) dX11_goes_149 (by decide) (fun c149 => ?_) (fun c149 => ?_)
      · exact absurd (nI_lt hq (by decide)) (Int32.not_lt.mpr c149)
      · skip
        refine g_aload_n dX11_goes_152 rfl ?_
        refine t_getR dX11_goes_153 fl_X11_44 rfl (by decide) rfl (by decide) rfl ?_
        refine g_iload dX11_goes_156 rfl ?_
        refine g_iconst (v := 0) dX11_goes_158 (by decide) ?_
        refine t_iast dX11_goes_159 rfl (by decide) (in_nI hq (by decide)) ?_
        refine g_iinc dX11_goes_160 rfl (by decide) ?_
        show Go _ _ _ _ _ _ [_, _, _, _, _] _ _ _
        refine g_goto (tgt := 146) dX11_goes_163 (by decide) ?_
        rw [nI_inc, cl_nI (by omega), up_up, upR_s]
        exact kk
    · skip
      refine g_iload dX11_goes_146 rfl ?_
      refine g_iconst (v := 4) dX11_goes_148 (by decide) ?_
      refine g_icmp_ge (tgt := 166) dX11_goes_149 (by decide) (fun c149 => ?_) (fun c149 => ?_)
      · skip
        refine g_vret dX11_goes_166 ?_
        first
          | (rw [cl_nI (by omega)]
             refine ⟨_, rfl, ⟨(((Fr.rf.up (by decide)).up (by decide)).up (by decide)).up (by decide), fun j a1 a2 a3 => ?_⟩, ?_, ?_, ?_, fun q hq => ?_, fun t ht => ?_⟩
             · rw [upR_s, pk_un a1, upR_s, pk_un a3, upR_n (by decide), upR_n (by decide)]
             · show (upR (β := Nat → Int32) _ 48 _) 48 15 = nI (s.1 + 1)
               rw [upR_s, pk_us, upR_s, pk_un (by decide), upR_n (by decide), upR_n (by decide), hE.1, nI_1]
             · show (upR (β := Nat → Int32) _ 48 _) 48 16 = nI s.2.1
               rw [upR_s, pk_un (by decide), upR_s, pk_un (by decide), upR_n (by decide), upR_n (by decide)]; exact hE.2.1
             · show (upR (β := Nat → Int32) _ 48 _) 48 17 = nI (s.1 + 1 - s.2.1)
               rw [upR_s, pk_un (by decide), upR_s, pk_us, upR_n (by decide), upR_n (by decide), hE.2.2.1, nI_1, show s.1 - s.2.1 + 1 = s.1 + 1 - s.2.1 by omega]
             · show (upR (β := Nat → Int32) _ 48 _) 60 q = zI (s.2.2.1 q)
               rw [upR_n (by decide), upR_n (by decide), upR_n (by decide), upR_n (by decide)]; exact hE.2.2.2.1 q hq
             · show (upR (β := Nat → Int32) _ 48 _) 61 t = nI (upR s.2.2.2 s.1 (hrS P s.2.2.1 s.1) (s.2.1 + t))
               have ht' : t < s.1 + 1 - s.2.1 := ht
               rw [upR_n (by decide), upR_n (by decide), upR_s, upR_n (a := 61) (by decide)]
               by_cases e : t = s.1 - s.2.1
               · rw [e, pk_us, show s.2.1 + (s.1 - s.2.1) = s.1 by omega, upR_s]
               · rw [pk_un e, upR_n (by omega)]; exact hE.2.2.2.2 t (by omega))
          | (rw [cl_nI (by omega), hE.2.2.2.1 p b2, z_add]
             refine ⟨_, rfl, ⟨Fr.rf.up (by decide), fun j _ _ _ => by rw [upR_n (by decide)]⟩, by rw [upR_n (by decide)]; exact hE.1, by rw [upR_n (by decide)]; exact hE.2.1, by rw [upR_n (by decide)]; exact hE.2.2.1, fun q hq => ?_, fun t ht => by rw [upR_n (by decide)]; exact hE.2.2.2.2 t ht⟩
             show (upR (β := Nat → Int32) _ 60 _) 60 q = zI (upR s.2.2.1 p (s.2.2.1 p + (w : Int) - 1) q)
             rw [upR_s]
             by_cases e : q = p
             · subst e; rw [pk_us, upR_s, show s.2.2.1 q + ((w : Int) - 1) = s.2.2.1 q + (w : Int) - 1 by omega]
             · rw [pk_un e, upR_n e]; exact hE.2.2.2.1 q hq)
          | (rw [cl_nI (by omega), cl_nI (by omega), hE.2.2.2.1 w (by omega)]
             refine ⟨_, rfl, ⟨Fr.rf.up (by decide), fun j _ _ _ => by rw [upR_n (by decide)]⟩, by rw [upR_n (by decide)]; exact hE.1, by rw [upR_n (by decide)]; exact hE.2.1, by rw [upR_n (by decide)]; exact hE.2.2.1, fun q hq => ?_, fun t ht => by rw [upR_n (by decide)]; exact hE.2.2.2.2 t ht⟩
             show (upR (β := Nat → Int32) _ 60 _) 60 q = zI (upR s.2.2.1 p (s.2.2.1 w) q)
             rw [upR_s]
             by_cases e : q = p
             · subst e; rw [pk_us, upR_s]
             · rw [pk_un e, upR_n e]; exact hE.2.2.2.1 q hq)
          | (refine ⟨_, rfl, ⟨?_, fun j a1 a2 a3 => ?_⟩, ?_, ?_, ?_, fun q hq => ?_, fun t ht => ?_⟩
             · rw [← hI0]; exact (((Fr.rf.up (by decide)).up (by decide)).up (by decide)).up (by decide)
             · rw [upR_n (by decide), ← hI0, upR_s, pk_un a3, upR_s, pk_un a2, upR_s, pk_un a1]
             · show (upR (β := Nat → Int32) _ 60 _) 48 15 = nI w
               rw [upR_n (by decide), ← hI0, upR_s, pk_un (by decide), upR_s, pk_un (by decide), upR_s, pk_us]
             · show (upR (β := Nat → Int32) _ 60 _) 48 16 = nI w
               rw [upR_n (by decide), ← hI0, upR_s, pk_un (by decide), upR_s, pk_us]
             · show (upR (β := Nat → Int32) _ 60 _) 48 17 = nI (w - w)
               rw [upR_n (by decide), ← hI0, upR_s, pk_us, Nat.sub_self]; rfl
             · show (upR (β := Nat → Int32) _ 60 _) 60 q = zI 0
               rw [upR_s, fold0 _ 4 q hq]; rfl
             · have ht' : t < w - w := ht
               omega)
          | fail "no way"
      · exact absurd (Int32.le_refl _) c149
theorem ct_again {P : Pce} {ds : List Deed} {n : Nat} (hP : PcM P I) (hO : PcOK P) (hds : DsM 0 ds I) (hD : DsOK P ds) (hn : n ≤ ds.length) (hm : I 58 0 = nI n) : Ct X (d + 6) 66 M_X11_again 66 [.ref 48] (I, J, rf0) (RV (fun m => ∃ I', m = (I', J, rf0) ∧ FrEM I I' ∧ EsM (evRun P evE (ds.take n)) I')) := by
  have h40 := hD.1
  show Go _ _ _ _ _ _ [_, _] _ _ _
  refine g_aload_n dX11_again_0 rfl ?_
  refine g_iconst (v := 0) dX11_again_1 (by decide) ?_
  refine t_putI dX11_again_2 fl_X11_176 rfl (by decide) rfl (by decide) ?_
  refine g_aload_n dX11_again_5 rfl ?_
  refine g_iconst (v := 0) dX11_again_6 (by decide) ?_
  refine t_putI dX11_again_7 fl_X11_179 rfl (by decide) rfl (by decide) ?_
  refine g_aload_n dX11_again_10 rfl ?_
  refine g_iconst (v := 0) dX11_again_11 (by decide) ?_
  refine t_putI dX11_again_12 fl_X11_182 rfl (by decide) rfl (by decide) ?_
  refine g_iconst (v := 0) dX11_again_15 (by decide) ?_
  refine g_istore_n dX11_again_16 (by decide) ?_
  show Go _ _ _ _ _ _ [_, _] _ _ _
  generalize hI0 : upR (upR (upR I 48 (upd (I 48) 15 0)) 48 (upd (upR I 48 (upd (I 48) 15 0) 48) 16 0)) 48 (upd (upR (upR I 48 (upd (I 48) 15 0)) 48 (upd (upR I 48 (upd (I 48) 15 0) 48) 16 0) 48) 17 0) = I0
  rw [id_cell (I := I0) 60]
  refine go_for (fun (i : Nat) (g : Nat → Int32) => upd g i 0) (I0 60) 4 (fun q g => Go X (d + 6) 66 M_X11_again 66 17 [.ref 48, .int (nI q)] [] (upR I0 60 g, J, rf0) (RV (fun m => ∃ I', m = (I', J, rf0) ∧ FrEM I I' ∧ EsM (evRun P evE (ds.take n)) I'))) (fun q hq kk => ?_) ?_
  · skip
    refine g_iload_n dX11_again_17 rfl ?_
    refine g_iconst (v := 4) dX11_again_18 (by decide) ?_
    refine g_icmp_ge (tgt := 35) dX11_again_19 (by decide) (fun c19 => ?_) (fun c19 => ?_)
    · exact absurd (nI_lt hq (by decide)) (Int32.not_lt.mpr c19)
    · skip
      refine g_aload_n dX11_again_22 rfl ?_
      refine t_getR dX11_again_23 fl_X11_44 rfl (by decide) rfl (by decide) rfl ?_
      refine g_iload_n dX11_again_26 rfl ?_
      refine g_iconst (v := 0) dX11_again_27 (by decide) ?_
      refine t_iast dX11_again_28 rfl (by decide) (in_nI hq (by decide)) ?_
      refine g_iinc dX11_again_29 rfl (by decide) ?_
      show Go _ _ _ _ _ _ [_, _] _ _ _
      refine g_goto (tgt := 17) dX11_again_32 (by decide) ?_
      rw [nI_inc, cl_nI (by omega), up_up, upR_s]
      exact kk
  · skip
    refine g_iload_n dX11_again_17 rfl ?_
    refine g_iconst (v := 4) dX11_again_18 (by decide) ?_
    refine g_icmp_ge (tgt := 35) dX11_again_19 (by decide) (fun c19 => ?_) (fun c19 => ?_)
    · skip
      refine g_iconst (v := 0) dX11_again_35 (by decide) ?_
      refine g_istore_n dX11_again_36 (by decide) ?_
      show Go _ _ _ _ _ _ [_, _] _ _ _
      have key : ∀ (j i : Nat) (I2 : Nat → Nat → Int32), i + j = n → FrEM I I2 → EsM (evRun P evE (ds.take i)) I2 → Go X (d + 6) 66 M_X11_again 66 37 [.ref 48, .int (nI i)] [] (I2, J, rf0) (RV (fun m => ∃ I', m = (I', J, rf0) ∧ FrEM I I' ∧ EsM (evRun P evE (ds.take n)) I')) := by
        intro j
        induction j with
        | zero =>
          intro i I2 hij hf hE
          have hin : i = n := by omega
          subst hin
          refine g_iload_n dX11_again_37 rfl ?_
          refine g_aload_n dX11_again_38 rfl ?_
          refine t_getR dX11_again_39 fl_X11_38 rfl (by decide) rfl (by decide) rfl ?_
          refine g_iconst (v := 0) dX11_again_42 (by decide) ?_
          refine t_iald dX11_again_43 rfl (by decide) (in_nI (j := 0) (by decide) (by decide)) ?_
          rw [show (0 : Int32).toNatClampNeg = 0 by decide, hf.1 58 (by decide), hm]
          refine g_icmp_ge (tgt := 58) dX11_again_44 (by decide) (fun c44 => ?_) (fun c44 => ?_)
          · refine g_vret dX11_again_58 ?_
            exact ⟨I2, rfl, hf, hE⟩
          · exact absurd (Int32.le_refl _) c44
        | succ j ih =>
          intro i I2 hij hf hE
          obtain ⟨d9, hd⟩ : ∃ d9, ds[i]? = some d9 := ⟨_, List.getElem?_eq_getElem (by omega)⟩
          have hdm := hds i d9 hd
          rw [Nat.zero_add] at hdm
          refine g_iload_n dX11_again_37 rfl ?_
          refine g_aload_n dX11_again_38 rfl ?_
          refine t_getR dX11_again_39 fl_X11_38 rfl (by decide) rfl (by decide) rfl ?_
          refine g_iconst (v := 0) dX11_again_42 (by decide) ?_
          refine t_iald dX11_again_43 rfl (by decide) (in_nI (j := 0) (by decide) (by decide)) ?_
          rw [show (0 : Int32).toNatClampNeg = 0 by decide, hf.1 58 (by decide), hm]
          refine g_icmp_ge (tgt := 58) dX11_again_44 (by decide) (fun c44 => ?_) (fun c44 => ?_)
          · exact absurd (nI_lt (show i < n by omega) (by omega)) (Int32.not_lt.mpr c44)
          · refine g_aload_n dX11_again_47 rfl ?_
            refine g_iload_n dX11_again_48 rfl ?_
            refine g_callVv dX11_again_49 ln_X11_185 rfl rfl (by decide) ⟨_, _, rfl⟩ rfl (Nat.le_of_ble_eq_true rfl) (Nat.le_of_ble_eq_true rfl) (ct_goes (i := i) (e := d9) (hf.pc hP) hO (by omega) (by rw [hf.1 59 (by decide)]; exact hdm.1) (by rw [hf.1 59 (by decide)]; exact hdm.2.1) (by rw [hf.1 59 (by decide)]; exact hdm.2.2) hE (EvR.e.run hO (evAll_take i hD.2)) (evAll_at hD.2 hd)) rfl (fun m9 h9 => ?_)
            obtain ⟨I3, rfl, hf3, hE3⟩ := h9
            refine g_iinc dX11_again_52 rfl (by decide) ?_
            show Go _ _ _ _ _ _ [_, _] _ _ _
            refine g_goto (tgt := 37) dX11_again_55 (by decide) ?_
            rw [nI_inc]
            exact ih (i + 1) I3 (by omega) (hf.tr hf3) (by rw [run_take hd]; exact hE3)
      refine key n 0 _ (by omega) ⟨?_, fun j a1 a2 a3 => ?_⟩ ⟨?_, ?_, ?_, fun q hq => ?_, fun t ht => ?_⟩
      · rw [← hI0]; exact (((Fr.rf.up (by decide)).up (by decide)).up (by decide)).up (by decide)
      · rw [upR_n (by decide), ← hI0, upR_s, pk_un a3, upR_s, pk_un a2, upR_s, pk_un a1]
      · show (upR (β := Nat → Int32) _ 60 _) 48 15 = nI 0
        rw [upR_n (by decide), ← hI0, upR_s, pk_un (by decide), upR_s, pk_un (by decide), upR_s, pk_us]; rfl
      · show (upR (β := Nat → Int32) _ 60 _) 48 16 = nI 0
        rw [upR_n (by decide), ← hI0, upR_s, pk_un (by decide), upR_s, pk_us]; rfl
      · show (upR (β := Nat → Int32) _ 60 _) 48 17 = nI (0 - 0)
        rw [upR_n (by decide), ← hI0, upR_s, pk_us]; rfl
      · show (upR (β := Nat → Int32) _ 60 _) 60 q = zI 0
        rw [upR_s, fold0 _ 4 q hq]; rfl
      · have ht' : t < 0 - 0 := ht
        omega
    · exact absurd (Int32.le_refl _) c19
theorem ct_does {P : Pce} {ds : List Deed} {e : Deed} {h : Int32} (hP : PcM P I) (hO : PcOK P) (hE : EvM P ds I) (hD : DsOK P ds) (hl : ds.length < 40) (hok : evOK P (evO P ds) e) (hh : h = howM e) : Ct X (d + 6) 66 M_X11_does 66 [.ref 48, .int (nI e.1), .int (nI e.2.1), .int h] (I, J, rf0) (RV (fun m => ∃ I', m = (I', J, rf0) ∧ Fr [48, 58, 59, 60, 61, 63] I I' ∧ (∀ j, j ≠ 15 → j ≠ 16 → j ≠ 17 → I' 48 j = I 48 j) ∧ (∀ j, 1 ≤ j → I' 58 j = I 58 j) ∧ (∀ q, 120 ≤ q → I' 59 q = I 59 q) ∧ EvM P (ds ++ [e]) I')) := by
  have hR : EvR (evO P ds) := EvR.e.run hO hD.2
  show Go _ _ _ _ _ _ [_, _, _, _, _] _ _ _
  refine g_aload_n dX11_does_0 rfl ?_
  refine t_getR dX11_does_1 fl_X11_38 rfl (by decide) rfl (by decide) rfl ?_
  refine g_iconst (v := 0) dX11_does_4 (by decide) ?_
  refine t_iald dX11_does_5 rfl (by decide) (in_nI (j := 0) (by decide) (by decide)) ?_
  rw [show (0 : Int32).toNatClampNeg = 0 by decide, hE.1]
  refine g_istore dX11_does_6 (by decide) ?_
  show Go _ _ _ _ _ _ [_, _, _, _, _] _ _ _
  refine g_aload_n dX11_does_8 rfl ?_
  refine t_getR dX11_does_9 fl_X11_41 rfl (by decide) rfl (by decide) rfl ?_
  refine g_iconst (v := 3) dX11_does_12 (by decide) ?_
  refine g_iload dX11_does_13 rfl ?_
  refine g_imul dX11_does_15 ?_
  refine g_iload_n dX11_does_16 rfl ?_
  refine t_iast dX11_does_17 rfl (by decide) (by rw [ix3]; exact in_nI (by omega) (by decide)) ?_
  refine g_aload_n dX11_does_18 rfl ?_
  refine t_getR dX11_does_19 fl_X11_41 rfl (by decide) rfl (by decide) rfl ?_
  refine g_iconst (v := 3) dX11_does_22 (by decide) ?_
  refine g_iload dX11_does_23 rfl ?_
  refine g_imul dX11_does_25 ?_
  refine g_iconst (v := 1) dX11_does_26 (by decide) ?_
  refine g_iadd dX11_does_27 ?_
  refine g_iload_n dX11_does_28 rfl ?_
  refine t_iast dX11_does_29 rfl (by decide) (by rw [ix3b]; exact in_nI (by omega) (by decide)) ?_
  refine g_aload_n dX11_does_30 rfl ?_
  refine t_getR dX11_does_31 fl_X11_41 rfl (by decide) rfl (by decide) rfl ?_
  refine g_iconst (v := 3) dX11_does_34 (by decide) ?_
  refine g_iload dX11_does_35 rfl ?_
  refine g_imul dX11_does_37 ?_
  refine g_iconst (v := 2) dX11_does_38 (by decide) ?_
  refine g_iadd dX11_does_39 ?_
  refine g_iload_n dX11_does_40 rfl ?_
  refine t_iast dX11_does_41 rfl (by decide) (by rw [ix3c]; exact in_nI (by omega) (by decide)) ?_
  refine g_aload_n dX11_does_42 rfl ?_
  refine t_getR dX11_does_43 fl_X11_38 rfl (by decide) rfl (by decide) rfl ?_
  refine g_iconst (v := 0) dX11_does_46 (by decide) ?_
  refine g_dup2 dX11_does_47 rfl rfl ?_
  refine t_iald dX11_does_48 rfl (by decide) (in_nI (j := 0) (by decide) (by decide)) ?_
  refine g_iconst (v := 1) dX11_does_49 (by decide) ?_
  refine g_iadd dX11_does_50 ?_
  refine t_iast dX11_does_51 rfl (by decide) (in_nI (j := 0) (by decide) (by decide)) ?_
  rw [ix3b, ix3c, ix3, cl_nI (by omega), cl_nI (by omega), cl_nI (by omega), show (0 : Int32).toNatClampNeg = 0 by decide]
  simp only [up_up, upR_s]
  rw [upR_n (a := 58) (by decide), hE.1, nI_1]
  obtain ⟨g59, hg59⟩ : ∃ g, g = upd (upd (upd (I 59) (3 * ds.length) (nI e.1)) (3 * ds.length + 1) (nI e.2.1)) (3 * ds.length + 2) h := ⟨_, rfl⟩
  rw [← hg59]
  obtain ⟨I1, hI1⟩ : ∃ I1, I1 = upR (upR I 59 g59) 58 (upd (I 58) 0 (nI (ds.length + 1))) := ⟨_, rfl⟩
  rw [← hI1]
  have hne : ∀ q, q ≠ 58 → q ≠ 59 → I1 q = I q := fun q a b => by rw [hI1, upR_n a, upR_n b]
  have h59 : I1 59 = g59 := by rw [hI1, upR_n (by decide), upR_s]
  have h58 : I1 58 = upd (I 58) 0 (nI (ds.length + 1)) := by rw [hI1, upR_s]
  have hP1 : PcM P I1 := hP.keep (by rw [hne 48 (by decide) (by decide)]) (by rw [hne 48 (by decide) (by decide)]) (hne 54 (by decide) (by decide)) (hne 55 (by decide) (by decide))
  have hE1 : EsM (evO P ds) I1 := ⟨by rw [hne 48 (by decide) (by decide)]; exact hE.2.2.1, by rw [hne 48 (by decide) (by decide)]; exact hE.2.2.2.1, by rw [hne 48 (by decide) (by decide)]; exact hE.2.2.2.2.1, hE.2.2.2.2.2.1.keep (hne 60 (by decide) (by decide)), fun t ht => by rw [hne 61 (by decide) (by decide)]; exact hE.2.2.2.2.2.2 t ht⟩
  refine g_aload_n dX11_does_52 rfl ?_
  refine g_iload dX11_does_53 rfl ?_
  refine g_callVv dX11_does_55 ln_X11_185 rfl rfl (by decide) ⟨_, _, rfl⟩ rfl (Nat.le_of_ble_eq_true rfl) (Nat.le_of_ble_eq_true rfl) (ct_goes (i := ds.length) (e := e) hP1 hO hl (by rw [h59, hg59, pk_un (by omega), pk_un (by omega), pk_us]) (by rw [h59, hg59, pk_un (by omega), pk_us]) (by rw [h59, hg59, pk_us, hh]) hE1 hR hok) rfl (fun m55 h55 => ?_)
  obtain ⟨I2, rfl, hf2, hE2⟩ := h55
  refine g_vret dX11_does_58 ?_
  have hap : evO P (ds ++ [e]) = evStep P (evO P ds) e := evRun_app P evE ds [e]
  refine ⟨I2, rfl, fun q hq => ?_, fun j a1 a2 a3 => ?_, fun j hj => ?_, fun q hq => ?_, ?_, fun i d' hd' => ?_, by rw [hap]; exact hE2⟩
  · have q1 : q ∉ [48, 60, 61, 63] := fun a => hq (by simp at a ⊢; omega)
    have q2 : q ≠ 58 := fun a => hq (by rw [a]; decide)
    have q3 : q ≠ 59 := fun a => hq (by rw [a]; decide)
    rw [hf2.1 q q1, hne q q2 q3]
  · rw [hf2.2 j a1 a2 a3, hne 48 (by decide) (by decide)]
  · rw [hf2.1 58 (by decide), h58, pk_un (by omega)]
  · rw [hf2.1 59 (by decide), h59, hg59, pk_un (by omega), pk_un (by omega), pk_un (by omega)]
  · rw [hf2.1 58 (by decide), h58, pk_us, List.length_append]; rfl
  · rw [hf2.1 59 (by decide), h59, hg59, Nat.zero_add]
    rcases Nat.lt_or_ge i ds.length with q | q
    · rw [List.getElem?_append_left q] at hd'
      have := hE.2.1 i d' hd'
      rw [Nat.zero_add] at this
      rw [pk_un (by omega), pk_un (by omega), pk_un (by omega), pk_un (by omega), pk_un (by omega), pk_un (by omega), pk_un (by omega), pk_un (by omega), pk_un (by omega)]
      exact this
    · rw [List.getElem?_append_right q] at hd'
      have hi : i - ds.length = 0 := by
        have := (List.getElem?_eq_some_iff.mp hd').1
        simp at this; omega
      rw [hi] at hd'
      cases hd'
      rw [show i = ds.length by omega]
      refine ⟨?_, ?_, ?_⟩
      · rw [pk_un (by omega), pk_un (by omega), pk_us]
      · rw [pk_un (by omega), pk_us]
      · rw [pk_us, hh]
end
