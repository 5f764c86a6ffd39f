section
variable {X : Nat × (Nat → Int32)} {d : Nat} {I : Nat → Nat → Int32} {J : Nat → Nat → Int64}
/-! ===== promises 2 to 9: the model's side ===== -/
def inJ (v lo hi : Int64) : Bool := decide (lo ≤ v ∧ v ≤ hi)
theorem inJ_sz {i : Int32} {c : Nat} (hc : c < 2 ^ 31) : inJ i.toInt64 0 ((nI c - 1).toInt64) = inR i c := by
  have z : (0 : Int64).toInt = 0 := by decide
  have z2 : (0 : Int32).toInt = 0 := by decide
  have o : (1 : Int32).toInt = 1 := by decide
  have e : inJ i.toInt64 0 ((nI c - 1).toInt64) = true ↔ inR i c = true := by
    unfold inJ
    rw [decide_eq_true_iff, inR_iff, Int64.le_iff_toInt_le, Int64.le_iff_toInt_le, Int32.toInt_toInt64, Int32.toInt_toInt64, Int32.le_iff_toInt_le, Int32.lt_iff_toInt_lt, z, z2, nI_toInt hc, Int32.toInt_sub, nI_toInt hc, o]
    have e2 : ((c : Int) - 1).bmod (2 ^ 32) = (c : Int) - 1 := by apply Int.bmod_eq_of_le <;> omega
    rw [e2]
    omega
  cases h1 : inJ i.toInt64 0 ((nI c - 1).toInt64) <;> cases h2 : inR i c <;> simp_all
theorem inJ_6 {i : Int32} : inJ i.toInt64 0 5 = inR i 6 := by
  rw [← inJ_sz (by decide), show (nI 6 - 1).toInt64 = 5 by decide]
theorem inJ_4 {i : Int32} : inJ i.toInt64 0 3 = inR i 4 := by
  rw [← inJ_sz (by decide), show (nI 4 - 1).toInt64 = 3 by decide]
theorem inJ_3 {i : Int32} : inJ i.toInt64 0 2 = inR i 3 := by
  rw [← inJ_sz (by decide), show (nI 3 - 1).toInt64 = 2 by decide]
theorem ix40 (j a : Nat) : (40 : Int32) * nI j + nI a = nI (40 * j + a) := by rw [show (40 : Int32) = nI 40 from rfl, pk_mul, nI_add]
theorem ix80 (j a : Nat) : (80 : Int32) * nI j + nI a = nI (80 * j + a) := by rw [show (80 : Int32) = nI 80 from rfl, pk_mul, nI_add]
def fndMM (I : Nat → Nat → Int32) (w : Nat) : Nat → Nat → Int32 := upR (upR I 48 (upd (I 48) 23 (nI w))) 62 (upd (I 62) w (I 62 w + 1))
theorem FrM.find {w : Nat} : FrM I (fndMM I w) := (FrM.rf.up (by decide)).up (by decide)
theorem AbsM.find {rw tx : Tab} {P : Pce} {ds : List Deed} {sh : Shf} {tl : Int32} {ch : Int64 × Int64} {fn : Fnd} {w : Nat} (hw : w < 6) (h : AbsM rw tx P ds sh tl ch fn I J) : AbsM rw tx P ds sh tl ch (fndS w fn) (fndMM I w) J := by
  have hF := h.2.2.2.2.2.2.2
  refine h.up0 ((Fr.rf.up (by decide)).up (by decide)) (fun j _ _ _ h3 => ?_) ?_ ⟨?_, fun j hj => ?_⟩
  · unfold fndMM; rw [upR_n (by decide), upR_s, pk_un h3]
  · unfold fndMM; rw [upR_n (by decide), upR_s, pk_un (by decide)]; exact h.2.2.2.2.2.1
  · unfold fndMM; rw [upR_n (by decide), upR_s, pk_us]; rfl
  · unfold fndMM fndS
    rw [upR_s]
    by_cases e : j = w
    · subst e; rw [pk_us]; show _ = upd fn.2 j (fn.2 j + 1) j; rw [pk_us, hF.2 j hj]
    · rw [pk_un e]; show _ = upd fn.2 w (fn.2 w + 1) j; rw [pk_un e, hF.2 j hj]
theorem RwM.new {t : Tab} {j c : Nat} {g : Nat → Int32} (h : RwM t I) (hO : TabOK 6 40 t) (hj : j < 6) (hc : c ≤ 40) (hg : ∀ i, i < c → g (40 * j + i) = 0) (hg2 : ∀ q, (q < 40 * j ∨ 40 * j + c ≤ q) → g q = I 50 q) : RwM (tabNew t j c 0) (upR (upR I 49 (upd (I 49) j (nI c))) 50 g) := by
  intro r hr
  refine ⟨?_, fun c' hc' i hi => ?_⟩
  · rw [upR_n (by decide), upR_s]
    by_cases e : r = j
    · subst e; rw [pk_us]; show nI c = szI (upR t.1 r (some c) r); rw [upR_s]; rfl
    · rw [pk_un e]; show _ = szI (upR t.1 j (some c) r); rw [upR_n e]; exact (h r hr).1
  · rw [upR_s]
    by_cases e : r = j
    · subst e
      rw [show (tabNew t r c 0).1 r = some c from upR_s] at hc'
      cases hc'
      show g (40 * r + i) = upR t.2 r (fun _ => 0) r i
      rw [upR_s, hg i hi]
    · rw [show (tabNew t j c 0).1 r = t.1 r from upR_n e] at hc'
      have hb := hO r hr c' hc'
      show g (40 * r + i) = upR t.2 j (fun _ => 0) r i
      rw [upR_n e, hg2 _ (by omega)]
      exact (h r hr).2 c' hc' i hi
theorem RwM.set {t : Tab} {j a : Nat} {v : Int32} (h : RwM t I) (hO : TabOK 6 40 t) (hj : j < 6) (ha : a < 40) : RwM (tabSet t j a v) (upR I 50 (upd (I 50) (40 * j + a) v)) := by
  intro r hr
  refine ⟨?_, fun c hc i hi => ?_⟩
  · rw [upR_n (by decide)]; exact (h r hr).1
  · have hb := hO r hr c hc
    rw [upR_s]
    show upd (I 50) (40 * j + a) v (40 * r + i) = upR t.2 j (upd (t.2 j) a v) r i
    by_cases e : r = j
    · subst e
      rw [upR_s]
      by_cases e2 : i = a
      · subst e2; rw [pk_us, pk_us]
      · rw [pk_un (by omega), pk_un e2]; exact (h r hr).2 c hc i hi
    · rw [upR_n e, pk_un (by omega)]; exact (h r hr).2 c hc i hi
theorem TxM.new {t : Tab} {j c : Nat} {g : Nat → Int32} (h : TxM t I) (hO : TabOK 4 80 t) (hj : j < 4) (hc : c ≤ 80) (hg : ∀ i, i < c → g (80 * j + i) = 32) (hg2 : ∀ q, (q < 80 * j ∨ 80 * j + c ≤ q) → g q = I 52 q) : TxM (tabNew t j c 32) (upR (upR I 51 (upd (I 51) j (nI c))) 52 g) := by
  intro r hr
  refine ⟨?_, fun c' hc' i hi => ?_⟩
  · rw [upR_n (by decide), upR_s]
    by_cases e : r = j
    · subst e; rw [pk_us]; show nI c = szI (upR t.1 r (some c) r); rw [upR_s]; rfl
    · rw [pk_un e]; show _ = szI (upR t.1 j (some c) r); rw [upR_n e]; exact (h r hr).1
  · rw [upR_s]
    by_cases e : r = j
    · subst e
      rw [show (tabNew t r c 32).1 r = some c from upR_s] at hc'
      cases hc'
      show g (80 * r + i) = upR t.2 r (fun _ => 32) r i
      rw [upR_s, hg i hi]
    · rw [show (tabNew t j c 32).1 r = t.1 r from upR_n e] at hc'
      have hb := hO r hr c' hc'
      show g (80 * r + i) = upR t.2 j (fun _ => 32) r i
      rw [upR_n e, hg2 _ (by omega)]
      exact (h r hr).2 c' hc' i hi
theorem TxM.set {t : Tab} {j a : Nat} {v : Int32} (h : TxM t I) (hO : TabOK 4 80 t) (hj : j < 4) (ha : a < 80) : TxM (tabSet t j a v) (upR I 52 (upd (I 52) (80 * j + a) v)) := by
  intro r hr
  refine ⟨?_, fun c hc i hi => ?_⟩
  · rw [upR_n (by decide)]; exact (h r hr).1
  · have hb := hO r hr c hc
    rw [upR_s]
    show upd (I 52) (80 * j + a) v (80 * r + i) = upR t.2 j (upd (t.2 j) a v) r i
    by_cases e : r = j
    · subst e
      rw [upR_s]
      by_cases e2 : i = a
      · subst e2; rw [pk_us, pk_us]
      · rw [pk_un (by omega), pk_un e2]; exact (h r hr).2 c hc i hi
    · rw [upR_n e, pk_un (by omega)]; exact (h r hr).2 c hc i hi
theorem RwM.drop {t : Tab} {j : Nat} (h : RwM t I) (hj : j < 6) : RwM (tabDrop t j) (upR I 49 (upd (I 49) j (-1))) := by
  intro r hr
  refine ⟨?_, fun c hc i hi => ?_⟩
  · rw [upR_s]
    by_cases e : r = j
    · subst e; rw [pk_us]; show _ = szI (upR t.1 r none r); rw [upR_s]; rfl
    · rw [pk_un e]; show _ = szI (upR t.1 j none r); rw [upR_n e]; exact (h r hr).1
  · show upR I 49 _ 50 (40 * r + i) = t.2 r i
    rw [upR_n (by decide)]
    by_cases e : r = j
    · subst e; rw [show (tabDrop t r).1 r = none from upR_s] at hc; cases hc
    · rw [show (tabDrop t j).1 r = t.1 r from upR_n e] at hc; exact (h r hr).2 c hc i hi
theorem szI_lt {o : Option Nat} (h : ∀ c, o = some c → c < 2 ^ 31) : (szI o < 0) ↔ o = none := by
  cases o with
  | none => exact ⟨fun _ => rfl, fun _ => by decide⟩
  | some c => exact ⟨fun q => absurd q (nI_neg (h c rfl)), fun q => by cases q⟩
theorem ct_in {v lo hi : Int64} : Ct X d 66 M_X11_in 66 [.long v, .long lo, .long hi] (I, J, rf0) (RI (fun x m => x = bI (inJ v lo hi) ∧ m = (I, J, rf0))) := by
  show Go _ _ _ _ _ _ [_, _, _, _, _, _] _ _ _
  refine g_lload_n dX11_in_0 rfl ?_
  refine g_lload_n dX11_in_1 rfl ?_
  refine g_lcmp dX11_in_2 ?_
  refine g_if_lt (tgt := 17) dX11_in_3 (by decide) (fun c3 => ?_) (fun c3 => ?_)
  · skip
    refine g_iconst (v := 0) dX11_in_17 (by decide) ?_
    refine g_iret dX11_in_18 (fun ty h => by cases h; rfl) ?_
    refine ⟨?_, rfl⟩
    unfold inJ
    first
      | (rw [decide_eq_true ⟨Int64.not_lt.mp (fun q => c3 ((lg_cmp_lt _ _).mpr q)), lc_le c10⟩]; rfl)
      | (rw [decide_eq_false (fun q => absurd q.1 (Int64.not_le.mpr ((lg_cmp_lt _ _).mp c3)))]; rfl)
      | (rw [decide_eq_false (fun q => absurd q.2 (lc_gt c10))]; rfl)
  · skip
    refine g_lload_n dX11_in_6 rfl ?_
    refine g_lload dX11_in_7 rfl ?_
    refine g_lcmp dX11_in_9 ?_
    refine g_if_gt (tgt := 17) dX11_in_10 (by decide) (fun c10 => ?_) (fun c10 => ?_)
    · skip
      refine g_iconst (v := 0) dX11_in_17 (by decide) ?_
      refine g_iret dX11_in_18 (fun ty h => by cases h; rfl) ?_
      refine ⟨?_, rfl⟩
      unfold inJ
      first
        | (rw [decide_eq_true ⟨Int64.not_lt.mp (fun q => c3 ((lg_cmp_lt _ _).mpr q)), lc_le c10⟩]; rfl)
        | (rw [decide_eq_false (fun q => absurd q.1 (Int64.not_le.mpr ((lg_cmp_lt _ _).mp c3)))]; rfl)
        | (rw [decide_eq_false (fun q => absurd q.2 (lc_gt c10))]; rfl)
    · skip
      refine g_iconst (v := 1) dX11_in_13 (by decide) ?_
      refine g_goto (tgt := 18) dX11_in_14 (by decide) ?_
      refine g_iret dX11_in_18 (fun ty h => by cases h; rfl) ?_
      refine ⟨?_, rfl⟩
      unfold inJ
      first
        | (rw [decide_eq_true ⟨Int64.not_lt.mp (fun q => c3 ((lg_cmp_lt _ _).mpr q)), lc_le c10⟩]; rfl)
        | (rw [decide_eq_false (fun q => absurd q.1 (Int64.not_le.mpr ((lg_cmp_lt _ _).mp c3)))]; rfl)
        | (rw [decide_eq_false (fun q => absurd q.2 (lc_gt c10))]; rfl)
theorem ct_finds {w : Nat} (hw : w < 6) : Ct X d 66 M_X11_finds 66 [.ref 48, .int (nI w)] (I, J, rf0) (RI (fun x m => x = -3 ∧ m = (fndMM I w, J, rf0))) := by
  show Go _ _ _ _ _ _ [_, _] _ _ _
  refine g_aload_n dX11_finds_0 rfl ?_
  refine g_iload_n dX11_finds_1 rfl ?_
  refine t_putI dX11_finds_2 fl_X11_67 rfl (by decide) rfl (by decide) ?_
  refine g_aload_n dX11_finds_5 rfl ?_
  refine t_getR dX11_finds_6 fl_X11_54 rfl (by decide) rfl (by decide) rfl ?_
  refine g_iload_n dX11_finds_9 rfl ?_
  refine g_dup2 dX11_finds_10 rfl rfl ?_
  refine t_iald dX11_finds_11 rfl (by decide) (in_nI hw (by decide)) ?_
  refine g_iconst (v := 1) dX11_finds_12 (by decide) ?_
  refine g_iadd dX11_finds_13 ?_
  refine t_iast dX11_finds_14 rfl (by decide) (in_nI hw (by decide)) ?_
  refine g_bipush (v := -3) dX11_finds_15 (by decide) ?_
  refine g_iret dX11_finds_17 (fun ty h => by cases h; rfl) ?_
  exact ⟨rfl, by rw [cl_nI (by omega), upR_n (by decide)]; rfl⟩
theorem ct_asks {t a : Int32} : Ct X d 66 M_X11_asks 66 [.ref 48, .int t, .int a] (I, J, rf0) (RI (fun x m => x = a ∧ m = (upR I 48 (upd (I 48) 20 t), J, rf0))) := by
  show Go _ _ _ _ _ _ [_, _, _] _ _ _
  refine g_aload_n dX11_asks_0 rfl ?_
  refine g_iload_n dX11_asks_1 rfl ?_
  refine t_putI dX11_asks_2 fl_X11_71 rfl (by decide) rfl (by decide) ?_
  refine g_iload_n dX11_asks_5 rfl ?_
  refine g_iret dX11_asks_6 (fun ty h => by cases h; rfl) ?_
  exact ⟨rfl, rfl⟩
theorem pm_row {rw tx : Tab} {P : Pce} {ds : List Deed} {sh : Shf} {tl : Int32} {ch : Int64 × Int64} {fn : Fnd} {r n : Int32} (hA : AbsM rw tx P ds sh tl ch fn I J) (hO : StOK rw tx P ds sh) : Ct X (d + 1) 66 M_X11_row 66 [.ref 48, .int r, .int n] (I, J, rf0) (RI (fun x m => ∃ I', m = (I', J, rf0) ∧ FrM I I' ∧ x = (S_row 40 0 6 rw fn r n).1 ∧ AbsM (S_row 40 0 6 rw fn r n).2.1 tx P ds sh tl ch (S_row 40 0 6 rw fn r n).2.2 I' J)) := by
  show Go _ _ _ _ _ _ [_, _, _, _] _ _ _
  refine g_iload_n dX11_row_0 rfl ?_
  refine g_i2l dX11_row_1 ?_
  refine g_lconst (v := 0) dX11_row_2 (by decide) ?_
  refine g_ldc2 dX11_row_3 tb_1084 ?_
  refine g_callSi dX11_row_6 ln_X11_76 ⟨_, rfl⟩ rfl (Nat.le_of_ble_eq_true rfl) (Nat.le_of_ble_eq_true rfl) ct_in rfl (fun r6 m6 h6 => ?_)
  obtain ⟨rfl, rfl⟩ := h6
  rw [inJ_6]
  refine g_if_eq (tgt := 18) dX11_row_9 (by decide) (fun c9 => ?_) (fun c9 => ?_)
  · skip
    refine g_iconst (v := -1) dX11_row_18 (by decide) ?_
    refine g_iret dX11_row_19 (fun ty h => by cases h; rfl) ?_
    have hx : inR r 6 = false ∨ nI 40 < n := by first | exact Or.inl (bI_eq c9) | exact Or.inr (Int32.not_le.mp c15)
    have hS : S_row 40 0 6 rw fn r n = (-1, rw, fn) := by unfold S_row; rw [if_pos hx]
    exact ⟨_, rfl, FrM.rf, by rw [hS], by rw [hS]; exact hA⟩
  · skip
    refine g_iload_n dX11_row_12 rfl ?_
    refine g_bipush (v := 40) dX11_row_13 (by decide) ?_
    refine g_icmp_le (tgt := 20) dX11_row_15 (by decide) (fun c15 => ?_) (fun c15 => ?_)
    · skip
      obtain ⟨j, hj, rfl⟩ := inR_ix (by decide) (bI_ne c9)
      refine g_iload_n dX11_row_20 rfl ?_
      refine g_if_ge (tgt := 30) dX11_row_21 (by decide) (fun c21 => ?_) (fun c21 => ?_)
      · skip
        obtain ⟨c, hc31, rfl⟩ := nI_of (Int32.not_lt.mpr c21)
        have hc : c ≤ 40 := (nI_leI hc31 (by decide)).mp c15
        refine g_aload_n dX11_row_30 rfl ?_
        refine t_getR dX11_row_31 fl_X11_7 rfl (by decide) rfl (by decide) rfl ?_
        refine g_iload_n dX11_row_34 rfl ?_
        refine g_iload_n dX11_row_35 rfl ?_
        refine t_iast dX11_row_36 rfl (by decide) (in_nI hj (by decide)) ?_
        refine g_iconst (v := 0) dX11_row_37 (by decide) ?_
        refine g_istore_n dX11_row_38 (by decide) ?_
        show Go _ _ _ _ _ _ [_, _, _, _] _ _ _
        rw [cl_nI (by omega)]
        have hfold : ∀ i q, foldN (fun (i : Nat) (g : Nat → Int32) => upd g (40 * j + i) 0) (I 50) i q = if 40 * j ≤ q ∧ q < 40 * j + i then 0 else I 50 q := by
          intro i
          induction i with
          | zero => intro q; rw [if_neg (by omega)]; rfl
          | succ i ih =>
            intro q
            show upd (foldN (fun (i : Nat) (g : Nat → Int32) => upd g (40 * j + i) 0) (I 50) i) (40 * j + i) 0 q = _
            by_cases hq : q = 40 * j + i
            · subst hq; rw [pk_us, if_pos (by omega)]
            · rw [pk_un hq, ih q]
              by_cases h2 : 40 * j ≤ q ∧ q < 40 * j + i
              · rw [if_pos h2, if_pos (by omega)]
              · rw [if_neg h2, if_neg (by omega)]
        generalize hI1 : upR I 49 (upd (I 49) j (nI c)) = I1
        have h50 : I1 50 = I 50 := by rw [← hI1]; exact upR_n (by decide)
        have h00 : (I1, J, rf0) = (upR I1 50 (I 50), J, rf0) := by
          refine congrArg (fun z => (z, J, rf0)) (funext fun q => ?_)
          by_cases hq : q = 50
          · subst hq; rw [upR_s, h50]
          · exact (upR_n hq).symm
        rw [h00]
        refine go_for (fun (i : Nat) (g : Nat → Int32) => upd g (40 * j + i) 0) (I 50) c (fun i g => Go X (d + 1) 66 M_X11_row 66 39 [.ref 48, .int (nI j), .int (nI c), .int (nI i)] [] (upR I1 50 g, J, rf0) (RI (fun x m => ∃ I', m = (I', J, rf0) ∧ FrM I I' ∧ x = (S_row 40 0 6 rw fn (nI j) (nI c)).1 ∧ AbsM (S_row 40 0 6 rw fn (nI j) (nI c)).2.1 tx P ds sh tl ch (S_row 40 0 6 rw fn (nI j) (nI c)).2.2 I' J))) (fun i hi kk => ?_) ?_
        · skip
          refine g_iload_n dX11_row_39 rfl ?_
          refine g_iload_n dX11_row_40 rfl ?_
          refine g_icmp_ge (tgt := 62) dX11_row_41 (by decide) (fun c41 => ?_) (fun c41 => ?_)
          · exact absurd (nI_lt hi hc31) (Int32.not_lt.mpr c41)
          · skip
            refine g_aload_n dX11_row_44 rfl ?_
            refine t_getR dX11_row_45 fl_X11_13 rfl (by decide) rfl (by decide) rfl ?_
            refine g_bipush (v := 40) dX11_row_48 (by decide) ?_
            refine g_iload_n dX11_row_50 rfl ?_
            refine g_imul dX11_row_51 ?_
            refine g_iload_n dX11_row_52 rfl ?_
            refine g_iadd dX11_row_53 ?_
            refine g_iconst (v := 0) dX11_row_54 (by decide) ?_
            refine t_iast dX11_row_55 rfl (by decide) (by rw [ix40]; exact in_nI (by omega) (by decide)) ?_
            refine g_iinc dX11_row_56 rfl (by decide) ?_
            show Go _ _ _ _ _ _ [_, _, _, _] _ _ _
            refine g_goto (tgt := 39) dX11_row_59 (by decide) ?_
            rw [nI_inc, ix40, cl_nI (by omega)]
            have e9 : upR (upR I1 50 (foldN (fun (i : Nat) (g : Nat → Int32) => upd g (40 * j + i) 0) (I 50) i)) 50 (upd (upR I1 50 (foldN (fun (i : Nat) (g : Nat → Int32) => upd g (40 * j + i) 0) (I 50) i) 50) (40 * j + i) 0) = upR I1 50 (foldN (fun (i : Nat) (g : Nat → Int32) => upd g (40 * j + i) 0) (I 50) (i + 1)) := by
              funext q
              by_cases hq : q = 50
              · subst hq; rw [upR_s, upR_s, upR_s]; rfl
              · rw [upR_n hq, upR_n hq, upR_n hq]
            rw [e9]
            exact kk
        · skip
          refine g_iload_n dX11_row_39 rfl ?_
          refine g_iload_n dX11_row_40 rfl ?_
          refine g_icmp_ge (tgt := 62) dX11_row_41 (by decide) (fun c41 => ?_) (fun c41 => ?_)
          · rw [← hI1]
            refine g_iload_n dX11_row_62 rfl ?_
            refine g_iret dX11_row_63 (fun ty h => by cases h; rfl) ?_
            have hS : S_row 40 0 6 rw fn (nI j) (nI c) = (nI c, tabNew rw j c 0, fn) := by unfold S_row; rw [if_neg (fun q => q.elim (fun q => by rw [inR_nI (by decide) hj] at q; cases q) (fun q => Int32.not_le.mpr q c15)), if_neg (nI_neg hc31), cl_nI (by omega), cl_nI (by omega)]
            exact ⟨_, rfl, (FrM.rf.up (by decide)).up (by decide), by rw [hS], by rw [hS]; exact hA.upRw ((Fr.rf.up (by decide)).up (by decide)) (RwM.new hA.1 hO.1 hj hc (fun i hi => by rw [hfold, if_pos (by omega)]) (fun q hq => by rw [hfold, if_neg (by omega)]))⟩
          · exact absurd (Int32.le_refl _) c41
      · skip
        refine g_aload_n dX11_row_24 rfl ?_
        refine g_iconst (v := 5) dX11_row_25 (by decide) ?_
        refine g_callVi dX11_row_26 ln_X11_80 ⟨_, rfl⟩ rfl (by decide) ⟨_, _, rfl⟩ rfl (Nat.le_of_ble_eq_true rfl) (Nat.le_of_ble_eq_true rfl) (ct_finds (w := 5) (by decide)) rfl (fun r26 m26 h26 => ?_)
        obtain ⟨rfl, rfl⟩ := h26
        refine g_iret dX11_row_29 (fun ty h => by cases h; rfl) ?_
        have hS : S_row 40 0 6 rw fn (nI j) n = (-3, rw, fndS 5 fn) := by unfold S_row; rw [if_neg (fun q => q.elim (fun q => by rw [inR_nI (by decide) hj] at q; cases q) (fun q => Int32.not_le.mpr q c15)), if_pos (Int32.not_le.mp c21)]
        exact ⟨_, rfl, FrM.find, by rw [hS], by rw [hS]; exact hA.find (by decide)⟩
    · skip
      refine g_iconst (v := -1) dX11_row_18 (by decide) ?_
      refine g_iret dX11_row_19 (fun ty h => by cases h; rfl) ?_
      have hx : inR r 6 = false ∨ nI 40 < n := by first | exact Or.inl (bI_eq c9) | exact Or.inr (Int32.not_le.mp c15)
      have hS : S_row 40 0 6 rw fn r n = (-1, rw, fn) := by unfold S_row; rw [if_pos hx]
      exact ⟨_, rfl, FrM.rf, by rw [hS], by rw [hS]; exact hA⟩
theorem pm_text {rw tx : Tab} {P : Pce} {ds : List Deed} {sh : Shf} {tl : Int32} {ch : Int64 × Int64} {fn : Fnd} {r n : Int32} (hA : AbsM rw tx P ds sh tl ch fn I J) (hO : StOK rw tx P ds sh) : Ct X (d + 1) 66 M_X11_text 66 [.ref 48, .int r, .int n] (I, J, rf0) (RI (fun x m => ∃ I', m = (I', J, rf0) ∧ FrM I I' ∧ x = (S_row 80 32 4 tx fn r n).1 ∧ AbsM rw (S_row 80 32 4 tx fn r n).2.1 P ds sh tl ch (S_row 80 32 4 tx fn r n).2.2 I' J)) := by
  show Go _ _ _ _ _ _ [_, _, _, _] _ _ _
  refine g_iload_n dX11_text_0 rfl ?_
  refine g_i2l dX11_text_1 ?_
  refine g_lconst (v := 0) dX11_text_2 (by decide) ?_
  refine g_ldc2 dX11_text_3 tb_1120 ?_
  refine g_callSi dX11_text_6 ln_X11_76 ⟨_, rfl⟩ rfl (Nat.le_of_ble_eq_true rfl) (Nat.le_of_ble_eq_true rfl) ct_in rfl (fun r6 m6 h6 => ?_)
  obtain ⟨rfl, rfl⟩ := h6
  rw [inJ_4]
  refine g_if_eq (tgt := 18) dX11_text_9 (by decide) (fun c9 => ?_) (fun c9 => ?_)
  · skip
    refine g_iconst (v := -1) dX11_text_18 (by decide) ?_
    refine g_iret dX11_text_19 (fun ty h => by cases h; rfl) ?_
    have hx : inR r 4 = false ∨ nI 80 < n := by first | exact Or.inl (bI_eq c9) | exact Or.inr (Int32.not_le.mp c15)
    have hS : S_row 80 32 4 tx fn r n = (-1, tx, fn) := by unfold S_row; rw [if_pos hx]
    exact ⟨_, rfl, FrM.rf, by rw [hS], by rw [hS]; exact hA⟩
  · skip
    refine g_iload_n dX11_text_12 rfl ?_
    refine g_bipush (v := 80) dX11_text_13 (by decide) ?_
    refine g_icmp_le (tgt := 20) dX11_text_15 (by decide) (fun c15 => ?_) (fun c15 => ?_)
    · skip
      obtain ⟨j, hj, rfl⟩ := inR_ix (by decide) (bI_ne c9)
      refine g_iload_n dX11_text_20 rfl ?_
      refine g_if_ge (tgt := 30) dX11_text_21 (by decide) (fun c21 => ?_) (fun c21 => ?_)
      · skip
        obtain ⟨c, hc31, rfl⟩ := nI_of (Int32.not_lt.mpr c21)
        have hc : c ≤ 80 := (nI_leI hc31 (by decide)).mp c15
        refine g_aload_n dX11_text_30 rfl ?_
        refine t_getR dX11_text_31 fl_X11_16 rfl (by decide) rfl (by decide) rfl ?_
        refine g_iload_n dX11_text_34 rfl ?_
        refine g_iload_n dX11_text_35 rfl ?_
        refine t_iast dX11_text_36 rfl (by decide) (in_nI hj (by decide)) ?_
        refine g_iconst (v := 0) dX11_text_37 (by decide) ?_
        refine g_istore_n dX11_text_38 (by decide) ?_
        show Go _ _ _ _ _ _ [_, _, _, _] _ _ _
        rw [cl_nI (by omega)]
        have hfold : ∀ i q, foldN (fun (i : Nat) (g : Nat → Int32) => upd g (80 * j + i) 32) (I 52) i q = if 80 * j ≤ q ∧ q < 80 * j + i then 32 else I 52 q := by
          intro i
          induction i with
          | zero => intro q; rw [if_neg (by omega)]; rfl
          | succ i ih =>
            intro q
            show upd (foldN (fun (i : Nat) (g : Nat → Int32) => upd g (80 * j + i) 32) (I 52) i) (80 * j + i) 32 q = _
            by_cases hq : q = 80 * j + i
            · subst hq; rw [pk_us, if_pos (by omega)]
            · rw [pk_un hq, ih q]
              by_cases h2 : 80 * j ≤ q ∧ q < 80 * j + i
              · rw [if_pos h2, if_pos (by omega)]
              · rw [if_neg h2, if_neg (by omega)]
        generalize hI1 : upR I 51 (upd (I 51) j (nI c)) = I1
        have h50 : I1 52 = I 52 := by rw [← hI1]; exact upR_n (by decide)
        have h00 : (I1, J, rf0) = (upR I1 52 (I 52), J, rf0) := by
          refine congrArg (fun z => (z, J, rf0)) (funext fun q => ?_)
          by_cases hq : q = 52
          · subst hq; rw [upR_s, h50]
          · exact (upR_n hq).symm
        rw [h00]
        refine go_for (fun (i : Nat) (g : Nat → Int32) => upd g (80 * j + i) 32) (I 52) c (fun i g => Go X (d + 1) 66 M_X11_text 66 39 [.ref 48, .int (nI j), .int (nI c), .int (nI i)] [] (upR I1 52 g, J, rf0) (RI (fun x m => ∃ I', m = (I', J, rf0) ∧ FrM I I' ∧ x = (S_row 80 32 4 tx fn (nI j) (nI c)).1 ∧ AbsM rw (S_row 80 32 4 tx fn (nI j) (nI c)).2.1 P ds sh tl ch (S_row 80 32 4 tx fn (nI j) (nI c)).2.2 I' J))) (fun i hi kk => ?_) ?_
        · skip
          refine g_iload_n dX11_text_39 rfl ?_
          refine g_iload_n dX11_text_40 rfl ?_
          refine g_icmp_ge (tgt := 63) dX11_text_41 (by decide) (fun c41 => ?_) (fun c41 => ?_)
          · exact absurd (nI_lt hi hc31) (Int32.not_lt.mpr c41)
          · skip
            refine g_aload_n dX11_text_44 rfl ?_
            refine t_getR dX11_text_45 fl_X11_19 rfl (by decide) rfl (by decide) rfl ?_
            refine g_bipush (v := 80) dX11_text_48 (by decide) ?_
            refine g_iload_n dX11_text_50 rfl ?_
            refine g_imul dX11_text_51 ?_
            refine g_iload_n dX11_text_52 rfl ?_
            refine g_iadd dX11_text_53 ?_
            refine g_bipush (v := 32) dX11_text_54 (by decide) ?_
            refine t_bast dX11_text_56 rfl (by decide) (by rw [ix80]; exact in_nI (by omega) (by decide)) ?_
            refine g_iinc dX11_text_57 rfl (by decide) ?_
            show Go _ _ _ _ _ _ [_, _, _, _] _ _ _
            refine g_goto (tgt := 39) dX11_text_60 (by decide) ?_
            rw [nI_inc, ix80, cl_nI (by omega)]
            have e9 : upR (upR I1 52 (foldN (fun (i : Nat) (g : Nat → Int32) => upd g (80 * j + i) 32) (I 52) i)) 52 (upd (upR I1 52 (foldN (fun (i : Nat) (g : Nat → Int32) => upd g (80 * j + i) 32) (I 52) i) 52) (80 * j + i) (vp_nar .byte 32)) = upR I1 52 (foldN (fun (i : Nat) (g : Nat → Int32) => upd g (80 * j + i) 32) (I 52) (i + 1)) := by
              funext q
              by_cases hq : q = 52
              · subst hq; rw [upR_s, upR_s, upR_s]; rfl
              · rw [upR_n hq, upR_n hq, upR_n hq]
            rw [e9]
            exact kk
        · skip
          refine g_iload_n dX11_text_39 rfl ?_
          refine g_iload_n dX11_text_40 rfl ?_
          refine g_icmp_ge (tgt := 63) dX11_text_41 (by decide) (fun c41 => ?_) (fun c41 => ?_)
          · rw [← hI1]
            refine g_iload_n dX11_text_63 rfl ?_
            refine g_iret dX11_text_64 (fun ty h => by cases h; rfl) ?_
            have hS : S_row 80 32 4 tx fn (nI j) (nI c) = (nI c, tabNew tx j c 32, fn) := by unfold S_row; rw [if_neg (fun q => q.elim (fun q => by rw [inR_nI (by decide) hj] at q; cases q) (fun q => Int32.not_le.mpr q c15)), if_neg (nI_neg hc31), cl_nI (by omega), cl_nI (by omega)]
            exact ⟨_, rfl, (FrM.rf.up (by decide)).up (by decide), by rw [hS], by rw [hS]; exact hA.upTx ((Fr.rf.up (by decide)).up (by decide)) (TxM.new hA.2.1 hO.2.1 hj hc (fun i hi => by rw [hfold, if_pos (by omega)]) (fun q hq => by rw [hfold, if_neg (by omega)]))⟩
          · exact absurd (Int32.le_refl _) c41
      · skip
        refine g_aload_n dX11_text_24 rfl ?_
        refine g_iconst (v := 5) dX11_text_25 (by decide) ?_
        refine g_callVi dX11_text_26 ln_X11_80 ⟨_, rfl⟩ rfl (by decide) ⟨_, _, rfl⟩ rfl (Nat.le_of_ble_eq_true rfl) (Nat.le_of_ble_eq_true rfl) (ct_finds (w := 5) (by decide)) rfl (fun r26 m26 h26 => ?_)
        obtain ⟨rfl, rfl⟩ := h26
        refine g_iret dX11_text_29 (fun ty h => by cases h; rfl) ?_
        have hS : S_row 80 32 4 tx fn (nI j) n = (-3, tx, fndS 5 fn) := by unfold S_row; rw [if_neg (fun q => q.elim (fun q => by rw [inR_nI (by decide) hj] at q; cases q) (fun q => Int32.not_le.mpr q c15)), if_pos (Int32.not_le.mp c21)]
        exact ⟨_, rfl, FrM.find, by rw [hS], by rw [hS]; exact hA.find (by decide)⟩
    · skip
      refine g_iconst (v := -1) dX11_text_18 (by decide) ?_
      refine g_iret dX11_text_19 (fun ty h => by cases h; rfl) ?_
      have hx : inR r 4 = false ∨ nI 80 < n := by first | exact Or.inl (bI_eq c9) | exact Or.inr (Int32.not_le.mp c15)
      have hS : S_row 80 32 4 tx fn r n = (-1, tx, fn) := by unfold S_row; rw [if_pos hx]
      exact ⟨_, rfl, FrM.rf, by rw [hS], by rw [hS]; exact hA⟩
theorem pm_lay {rw tx : Tab} {P : Pce} {ds : List Deed} {sh : Shf} {tl : Int32} {ch : Int64 × Int64} {fn : Fnd} {r i v : Int32} (hA : AbsM rw tx P ds sh tl ch fn I J) (hO : StOK rw tx P ds sh) : Ct X (d + 1) 66 M_X11_lay 66 [.ref 48, .int r, .int i, .int v] (I, J, rf0) (RI (fun x m => ∃ I', m = (I', J, rf0) ∧ FrM I I' ∧ x = (S_lay rw fn tl r i v).1 ∧ AbsM (S_lay rw fn tl r i v).2.1 tx P ds sh (S_lay rw fn tl r i v).2.2.1 ch (S_lay rw fn tl r i v).2.2.2 I' J)) := by
  show Go _ _ _ _ _ _ [_, _, _, _, _] _ _ _
  refine g_iload_n dX11_lay_0 rfl ?_
  refine g_i2l dX11_lay_1 ?_
  refine g_lconst (v := 0) dX11_lay_2 (by decide) ?_
  refine g_ldc2 dX11_lay_3 tb_1084 ?_
  refine g_callSi dX11_lay_6 ln_X11_76 ⟨_, rfl⟩ rfl (Nat.le_of_ble_eq_true rfl) (Nat.le_of_ble_eq_true rfl) ct_in rfl (fun r6 m6 h6 => ?_)
  obtain ⟨rfl, rfl⟩ := h6
  rw [inJ_6]
  refine g_if_ne (tgt := 14) dX11_lay_9 (by decide) (fun c9 => ?_) (fun c9 => ?_)
  · skip
    obtain ⟨j, hj, rfl⟩ := inR_ix (by decide) (bI_ne c9)
    refine g_aload_n dX11_lay_14 rfl ?_
    refine t_getR dX11_lay_15 fl_X11_7 rfl (by decide) rfl (by decide) rfl ?_
    refine g_iload_n dX11_lay_18 rfl ?_
    refine t_iald dX11_lay_19 rfl (by decide) (in_nI hj (by decide)) ?_
    rw [cl_nI (by omega), (hA.1 j hj).1]
    refine g_if_ge (tgt := 29) dX11_lay_20 (by decide) (fun c20 => ?_) (fun c20 => ?_)
    · skip
      obtain ⟨c, htj⟩ : ∃ c, rw.1 j = some c := by
        cases hh : rw.1 j with
        | none => rw [hh] at c20; exact absurd c20 (by decide)
        | some q => exact ⟨q, rfl⟩
      have hc := hO.1 j hj c htj
      have hs : I 49 j = nI c := by have := (hA.1 j hj).1; rw [htj] at this; exact this
      refine g_iload_n dX11_lay_29 rfl ?_
      refine g_i2l dX11_lay_30 ?_
      refine g_lconst (v := 0) dX11_lay_31 (by decide) ?_
      refine g_aload_n dX11_lay_32 rfl ?_
      refine t_getR dX11_lay_33 fl_X11_7 rfl (by decide) rfl (by decide) rfl ?_
      refine g_iload_n dX11_lay_36 rfl ?_
      refine t_iald dX11_lay_37 rfl (by decide) (in_nI hj (by decide)) ?_
      refine g_iconst (v := 1) dX11_lay_38 (by decide) ?_
      refine g_isub dX11_lay_39 ?_
      refine g_i2l dX11_lay_40 ?_
      refine g_callSi dX11_lay_41 ln_X11_76 ⟨_, rfl⟩ rfl (Nat.le_of_ble_eq_true rfl) (Nat.le_of_ble_eq_true rfl) ct_in rfl (fun r41 m41 h41 => ?_)
      obtain ⟨rfl, rfl⟩ := h41
      rw [cl_nI (by omega), hs, inJ_sz (by omega)]
      refine g_if_ne (tgt := 53) dX11_lay_44 (by decide) (fun c44 => ?_) (fun c44 => ?_)
      · skip
        obtain ⟨a, ha, rfl⟩ := inR_ix (by omega) (bI_ne c44)
        have hv : I 50 (40 * j + a) = rw.2 j a := (hA.1 j hj).2 c htj a ha
        refine g_aload_n dX11_lay_53 rfl ?_
        refine t_getR dX11_lay_54 fl_X11_13 rfl (by decide) rfl (by decide) rfl ?_
        refine g_bipush (v := 40) dX11_lay_57 (by decide) ?_
        refine g_iload_n dX11_lay_59 rfl ?_
        refine g_imul dX11_lay_60 ?_
        refine g_iload_n dX11_lay_61 rfl ?_
        refine g_iadd dX11_lay_62 ?_
        refine t_iald dX11_lay_63 rfl (by decide) (by rw [ix40]; exact in_nI (by omega) (by decide)) ?_
        refine g_istore dX11_lay_64 (by decide) ?_
        show Go _ _ _ _ _ _ [_, _, _, _, _] _ _ _
        refine g_aload_n dX11_lay_66 rfl ?_
        refine t_getR dX11_lay_67 fl_X11_13 rfl (by decide) rfl (by decide) rfl ?_
        refine g_bipush (v := 40) dX11_lay_70 (by decide) ?_
        refine g_iload_n dX11_lay_72 rfl ?_
        refine g_imul dX11_lay_73 ?_
        refine g_iload_n dX11_lay_74 rfl ?_
        refine g_iadd dX11_lay_75 ?_
        refine g_iload_n dX11_lay_76 rfl ?_
        refine t_iast dX11_lay_77 rfl (by decide) (by rw [ix40]; exact in_nI (by omega) (by decide)) ?_
        refine g_aload_n dX11_lay_78 rfl ?_
        refine g_iload dX11_lay_79 rfl ?_
        refine g_iconst (v := 1) dX11_lay_81 (by decide) ?_
        refine g_callVi dX11_lay_82 ln_X11_84 ⟨_, rfl⟩ rfl (by decide) ⟨_, _, rfl⟩ rfl (Nat.le_of_ble_eq_true rfl) (Nat.le_of_ble_eq_true rfl) ct_asks rfl (fun r82 m82 h82 => ?_)
        obtain ⟨rfl, rfl⟩ := h82
        refine g_iret dX11_lay_85 (fun ty h => by cases h; rfl) ?_
        rw [ix40, cl_nI (by omega), hv]
        have hS : S_lay rw fn tl (nI j) (nI a) v = (1, tabSet rw j a v, rw.2 j a, fn) := by unfold S_lay; rw [look_nI (by decide) hj, htj]; simp only [inR_nI (show c < 2 ^ 31 by omega) ha, cl_nI (show a < 2 ^ 31 by omega)]; rfl
        exact ⟨_, rfl, (FrM.rf.up (by decide)).up (by decide), by rw [hS], by rw [hS]; exact (hA.upRw (Fr.rf.up (by decide)) (RwM.set hA.1 hO.1 hj (by omega))).told⟩
      · skip
        refine g_aload_n dX11_lay_47 rfl ?_
        refine g_iconst (v := 2) dX11_lay_48 (by decide) ?_
        refine g_callVi dX11_lay_49 ln_X11_80 ⟨_, rfl⟩ rfl (by decide) ⟨_, _, rfl⟩ rfl (Nat.le_of_ble_eq_true rfl) (Nat.le_of_ble_eq_true rfl) (ct_finds (w := 2) (by decide)) rfl (fun r49 m49 h49 => ?_)
        obtain ⟨rfl, rfl⟩ := h49
        refine g_iret dX11_lay_52 (fun ty h => by cases h; rfl) ?_
        have hS : S_lay rw fn tl (nI j) i v = (-3, rw, tl, fndS 2 fn) := by unfold S_lay; rw [look_nI (by decide) hj, htj]; simp only [bI_eq c44]; rfl
        exact ⟨_, rfl, FrM.find, by rw [hS], by rw [hS]; exact hA.find (by decide)⟩
    · skip
      refine g_aload_n dX11_lay_23 rfl ?_
      refine g_iconst (v := 1) dX11_lay_24 (by decide) ?_
      refine g_callVi dX11_lay_25 ln_X11_80 ⟨_, rfl⟩ rfl (by decide) ⟨_, _, rfl⟩ rfl (Nat.le_of_ble_eq_true rfl) (Nat.le_of_ble_eq_true rfl) (ct_finds (w := 1) (by decide)) rfl (fun r25 m25 h25 => ?_)
      obtain ⟨rfl, rfl⟩ := h25
      refine g_iret dX11_lay_28 (fun ty h => by cases h; rfl) ?_
      have htj : rw.1 j = none := by
        cases hh : rw.1 j with
        | none => rfl
        | some c => rw [hh] at c20; exact absurd (nI_pos' (by have := hO.1 j hj c hh; omega)) c20
      have hS : S_lay rw fn tl (nI j) i v = (-3, rw, tl, fndS 1 fn) := by unfold S_lay; rw [look_nI (by decide) hj, htj]
      exact ⟨_, rfl, FrM.find, by rw [hS], by rw [hS]; exact hA.find (by decide)⟩
  · skip
    refine g_iconst (v := -1) dX11_lay_12 (by decide) ?_
    refine g_iret dX11_lay_13 (fun ty h => by cases h; rfl) ?_
    have hS : S_lay rw fn tl r i v = (-1, rw, tl, fn) := by unfold S_lay; rw [look_bad (bI_eq c9)]
    exact ⟨_, rfl, FrM.rf, by rw [hS], by rw [hS]; exact hA⟩
theorem pm_at {rw tx : Tab} {P : Pce} {ds : List Deed} {sh : Shf} {tl : Int32} {ch : Int64 × Int64} {fn : Fnd} {r i : Int32} (hA : AbsM rw tx P ds sh tl ch fn I J) (hO : StOK rw tx P ds sh) : Ct X (d + 1) 66 M_X11_at 66 [.ref 48, .int r, .int i] (I, J, rf0) (RI (fun x m => ∃ I', m = (I', J, rf0) ∧ FrM I I' ∧ x = (S_at rw fn tl r i).1 ∧ AbsM rw tx P ds sh (S_at rw fn tl r i).2.1 ch (S_at rw fn tl r i).2.2 I' J)) := by
  show Go _ _ _ _ _ _ [_, _, _] _ _ _
  refine g_iload_n dX11_at_0 rfl ?_
  refine g_i2l dX11_at_1 ?_
  refine g_lconst (v := 0) dX11_at_2 (by decide) ?_
  refine g_ldc2 dX11_at_3 tb_1084 ?_
  refine g_callSi dX11_at_6 ln_X11_76 ⟨_, rfl⟩ rfl (Nat.le_of_ble_eq_true rfl) (Nat.le_of_ble_eq_true rfl) ct_in rfl (fun r6 m6 h6 => ?_)
  obtain ⟨rfl, rfl⟩ := h6
  rw [inJ_6]
  refine g_if_ne (tgt := 14) dX11_at_9 (by decide) (fun c9 => ?_) (fun c9 => ?_)
  · skip
    obtain ⟨j, hj, rfl⟩ := inR_ix (by decide) (bI_ne c9)
    refine g_aload_n dX11_at_14 rfl ?_
    refine t_getR dX11_at_15 fl_X11_7 rfl (by decide) rfl (by decide) rfl ?_
    refine g_iload_n dX11_at_18 rfl ?_
    refine t_iald dX11_at_19 rfl (by decide) (in_nI hj (by decide)) ?_
    rw [cl_nI (by omega), (hA.1 j hj).1]
    refine g_if_ge (tgt := 29) dX11_at_20 (by decide) (fun c20 => ?_) (fun c20 => ?_)
    · skip
      obtain ⟨c, htj⟩ : ∃ c, rw.1 j = some c := by
        cases hh : rw.1 j with
        | none => rw [hh] at c20; exact absurd c20 (by decide)
        | some q => exact ⟨q, rfl⟩
      have hc := hO.1 j hj c htj
      have hs : I 49 j = nI c := by have := (hA.1 j hj).1; rw [htj] at this; exact this
      refine g_iload_n dX11_at_29 rfl ?_
      refine g_i2l dX11_at_30 ?_
      refine g_lconst (v := 0) dX11_at_31 (by decide) ?_
      refine g_aload_n dX11_at_32 rfl ?_
      refine t_getR dX11_at_33 fl_X11_7 rfl (by decide) rfl (by decide) rfl ?_
      refine g_iload_n dX11_at_36 rfl ?_
      refine t_iald dX11_at_37 rfl (by decide) (in_nI hj (by decide)) ?_
      refine g_iconst (v := 1) dX11_at_38 (by decide) ?_
      refine g_isub dX11_at_39 ?_
      refine g_i2l dX11_at_40 ?_
      refine g_callSi dX11_at_41 ln_X11_76 ⟨_, rfl⟩ rfl (Nat.le_of_ble_eq_true rfl) (Nat.le_of_ble_eq_true rfl) ct_in rfl (fun r41 m41 h41 => ?_)
      obtain ⟨rfl, rfl⟩ := h41
      rw [cl_nI (by omega), hs, inJ_sz (by omega)]
      refine g_if_eq (tgt := 66) dX11_at_44 (by decide) (fun c44 => ?_) (fun c44 => ?_)
      · skip
        refine g_aload_n dX11_at_66 rfl ?_
        refine g_iconst (v := 2) dX11_at_67 (by decide) ?_
        refine g_callVi dX11_at_68 ln_X11_80 ⟨_, rfl⟩ rfl (by decide) ⟨_, _, rfl⟩ rfl (Nat.le_of_ble_eq_true rfl) (Nat.le_of_ble_eq_true rfl) (ct_finds (w := 2) (by decide)) rfl (fun r68 m68 h68 => ?_)
        obtain ⟨rfl, rfl⟩ := h68
        refine g_iret dX11_at_71 (fun ty h => by cases h; rfl) ?_
        first
          | (rw [ix40, cl_nI (by omega), hv]
             have hS : S_at rw fn tl (nI j) (nI a) = (1, rw.2 j a, fn) := by unfold S_at; rw [look_nI (by decide) hj, htj]; simp only [inR_nI (show c < 2 ^ 31 by omega) ha, cl_nI (show a < 2 ^ 31 by omega)]; rfl
             exact ⟨_, rfl, FrM.rf.up (by decide), by rw [hS], by rw [hS]; exact hA.told⟩)
          | (have hS : S_at rw fn tl (nI j) i = (-3, tl, fndS 2 fn) := by unfold S_at; rw [look_nI (by decide) hj, htj]; simp only [bI_eq c44]; rfl
             exact ⟨_, rfl, FrM.find, by rw [hS], by rw [hS]; exact hA.find (by decide)⟩)
      · skip
        obtain ⟨a, ha, rfl⟩ := inR_ix (by omega) (bI_ne c44)
        have hv : I 50 (40 * j + a) = rw.2 j a := (hA.1 j hj).2 c htj a ha
        refine g_aload_n dX11_at_47 rfl ?_
        refine g_aload_n dX11_at_48 rfl ?_
        refine t_getR dX11_at_49 fl_X11_13 rfl (by decide) rfl (by decide) rfl ?_
        refine g_bipush (v := 40) dX11_at_52 (by decide) ?_
        refine g_iload_n dX11_at_54 rfl ?_
        refine g_imul dX11_at_55 ?_
        refine g_iload_n dX11_at_56 rfl ?_
        refine g_iadd dX11_at_57 ?_
        refine t_iald dX11_at_58 rfl (by decide) (by rw [ix40]; exact in_nI (by omega) (by decide)) ?_
        refine g_iconst (v := 1) dX11_at_59 (by decide) ?_
        refine g_callVi dX11_at_60 ln_X11_84 ⟨_, rfl⟩ rfl (by decide) ⟨_, _, rfl⟩ rfl (Nat.le_of_ble_eq_true rfl) (Nat.le_of_ble_eq_true rfl) ct_asks rfl (fun r60 m60 h60 => ?_)
        obtain ⟨rfl, rfl⟩ := h60
        refine g_goto (tgt := 71) dX11_at_63 (by decide) ?_
        refine g_iret dX11_at_71 (fun ty h => by cases h; rfl) ?_
        first
          | (rw [ix40, cl_nI (by omega), hv]
             have hS : S_at rw fn tl (nI j) (nI a) = (1, rw.2 j a, fn) := by unfold S_at; rw [look_nI (by decide) hj, htj]; simp only [inR_nI (show c < 2 ^ 31 by omega) ha, cl_nI (show a < 2 ^ 31 by omega)]; rfl
             exact ⟨_, rfl, FrM.rf.up (by decide), by rw [hS], by rw [hS]; exact hA.told⟩)
          | (have hS : S_at rw fn tl (nI j) i = (-3, tl, fndS 2 fn) := by unfold S_at; rw [look_nI (by decide) hj, htj]; simp only [bI_eq c44]; rfl
             exact ⟨_, rfl, FrM.find, by rw [hS], by rw [hS]; exact hA.find (by decide)⟩)
    · skip
      refine g_aload_n dX11_at_23 rfl ?_
      refine g_iconst (v := 1) dX11_at_24 (by decide) ?_
      refine g_callVi dX11_at_25 ln_X11_80 ⟨_, rfl⟩ rfl (by decide) ⟨_, _, rfl⟩ rfl (Nat.le_of_ble_eq_true rfl) (Nat.le_of_ble_eq_true rfl) (ct_finds (w := 1) (by decide)) rfl (fun r25 m25 h25 => ?_)
      obtain ⟨rfl, rfl⟩ := h25
      refine g_iret dX11_at_28 (fun ty h => by cases h; rfl) ?_
      have htj : rw.1 j = none := by
        cases hh : rw.1 j with
        | none => rfl
        | some c => rw [hh] at c20; exact absurd (nI_pos' (by have := hO.1 j hj c hh; omega)) c20
      have hS : S_at rw fn tl (nI j) i = (-3, tl, fndS 1 fn) := by unfold S_at; rw [look_nI (by decide) hj, htj]
      exact ⟨_, rfl, FrM.find, by rw [hS], by rw [hS]; exact hA.find (by decide)⟩
  · skip
    refine g_iconst (v := -1) dX11_at_12 (by decide) ?_
    refine g_iret dX11_at_13 (fun ty h => by cases h; rfl) ?_
    have hS : S_at rw fn tl r i = (-1, tl, fn) := by unfold S_at; rw [look_bad (bI_eq c9)]
    exact ⟨_, rfl, FrM.rf, by rw [hS], by rw [hS]; exact hA⟩
theorem pm_tear {rw tx : Tab} {P : Pce} {ds : List Deed} {sh : Shf} {tl : Int32} {ch : Int64 × Int64} {fn : Fnd} {r : Int32} (hA : AbsM rw tx P ds sh tl ch fn I J) (hO : StOK rw tx P ds sh) : Ct X (d + 1) 66 M_X11_tear 66 [.ref 48, .int r] (I, J, rf0) (RI (fun x m => ∃ I', m = (I', J, rf0) ∧ FrM I I' ∧ x = (S_tear rw fn r).1 ∧ AbsM (S_tear rw fn r).2.1 tx P ds sh tl ch (S_tear rw fn r).2.2 I' J)) := by
  show Go _ _ _ _ _ _ [_, _] _ _ _
  refine g_iload_n dX11_tear_0 rfl ?_
  refine g_i2l dX11_tear_1 ?_
  refine g_lconst (v := 0) dX11_tear_2 (by decide) ?_
  refine g_ldc2 dX11_tear_3 tb_1084 ?_
  refine g_callSi dX11_tear_6 ln_X11_76 ⟨_, rfl⟩ rfl (Nat.le_of_ble_eq_true rfl) (Nat.le_of_ble_eq_true rfl) ct_in rfl (fun r6 m6 h6 => ?_)
  obtain ⟨rfl, rfl⟩ := h6
  rw [inJ_6]
  refine g_if_ne (tgt := 14) dX11_tear_9 (by decide) (fun c9 => ?_) (fun c9 => ?_)
  · skip
    obtain ⟨j, hj, rfl⟩ := inR_ix (by decide) (bI_ne c9)
    refine g_aload_n dX11_tear_14 rfl ?_
    refine t_getR dX11_tear_15 fl_X11_7 rfl (by decide) rfl (by decide) rfl ?_
    refine g_iload_n dX11_tear_18 rfl ?_
    refine t_iald dX11_tear_19 rfl (by decide) (in_nI hj (by decide)) ?_
    rw [cl_nI (by omega), (hA.1 j hj).1]
    refine g_if_ge (tgt := 29) dX11_tear_20 (by decide) (fun c20 => ?_) (fun c20 => ?_)
    · skip
      obtain ⟨c, htj⟩ : ∃ c, rw.1 j = some c := by
        cases hh : rw.1 j with
        | none => rw [hh] at c20; exact absurd c20 (by decide)
        | some q => exact ⟨q, rfl⟩
      have hc := hO.1 j hj c htj
      have hs : I 49 j = nI c := by have := (hA.1 j hj).1; rw [htj] at this; exact this
      refine g_aload_n dX11_tear_29 rfl ?_
      refine t_getR dX11_tear_30 fl_X11_7 rfl (by decide) rfl (by decide) rfl ?_
      refine g_iload_n dX11_tear_33 rfl ?_
      refine g_iconst (v := -1) dX11_tear_34 (by decide) ?_
      refine t_iast dX11_tear_35 rfl (by decide) (in_nI hj (by decide)) ?_
      refine g_iconst (v := 1) dX11_tear_36 (by decide) ?_
      refine g_iret dX11_tear_37 (fun ty h => by cases h; rfl) ?_
      rw [cl_nI (by omega)]
      have hS : S_tear rw fn (nI j) = (1, tabDrop rw j, fn) := by unfold S_tear; rw [look_nI (by decide) hj, htj]
      exact ⟨_, rfl, FrM.rf.up (by decide), by rw [hS], by rw [hS]; exact hA.upRw (Fr.rf.up (by decide)) (RwM.drop hA.1 hj)⟩
    · skip
      refine g_aload_n dX11_tear_23 rfl ?_
      refine g_iconst (v := 1) dX11_tear_24 (by decide) ?_
      refine g_callVi dX11_tear_25 ln_X11_80 ⟨_, rfl⟩ rfl (by decide) ⟨_, _, rfl⟩ rfl (Nat.le_of_ble_eq_true rfl) (Nat.le_of_ble_eq_true rfl) (ct_finds (w := 1) (by decide)) rfl (fun r25 m25 h25 => ?_)
      obtain ⟨rfl, rfl⟩ := h25
      refine g_iret dX11_tear_28 (fun ty h => by cases h; rfl) ?_
      have htj : rw.1 j = none := by
        cases hh : rw.1 j with
        | none => rfl
        | some c => rw [hh] at c20; exact absurd (nI_pos' (by have := hO.1 j hj c hh; omega)) c20
      have hS : S_tear rw fn (nI j) = (-3, rw, fndS 1 fn) := by unfold S_tear; rw [look_nI (by decide) hj, htj]
      exact ⟨_, rfl, FrM.find, by rw [hS], by rw [hS]; exact hA.find (by decide)⟩
  · skip
    refine g_iconst (v := -1) dX11_tear_12 (by decide) ?_
    refine g_iret dX11_tear_13 (fun ty h => by cases h; rfl) ?_
    have hS : S_tear rw fn r = (-1, rw, fn) := by unfold S_tear; rw [look_bad (bI_eq c9)]
    exact ⟨_, rfl, FrM.rf, by rw [hS], by rw [hS]; exact hA⟩
theorem pm_put {rw tx : Tab} {P : Pce} {ds : List Deed} {sh : Shf} {tl : Int32} {ch : Int64 × Int64} {fn : Fnd} {r i v : Int32} (hA : AbsM rw tx P ds sh tl ch fn I J) (hO : StOK rw tx P ds sh) : Ct X (d + 1) 66 M_X11_put 66 [.ref 48, .int r, .int i, .int v] (I, J, rf0) (RI (fun x m => ∃ I', m = (I', J, rf0) ∧ FrM I I' ∧ x = (S_put tx fn r i v).1 ∧ AbsM rw (S_put tx fn r i v).2.1 P ds sh tl ch (S_put tx fn r i v).2.2 I' J)) := by
  show Go _ _ _ _ _ _ [_, _, _, _, _] _ _ _
  refine g_iload_n dX11_put_0 rfl ?_
  refine g_i2l dX11_put_1 ?_
  refine g_lconst (v := 0) dX11_put_2 (by decide) ?_
  refine g_ldc2 dX11_put_3 tb_1120 ?_
  refine g_callSi dX11_put_6 ln_X11_76 ⟨_, rfl⟩ rfl (Nat.le_of_ble_eq_true rfl) (Nat.le_of_ble_eq_true rfl) ct_in rfl (fun r6 m6 h6 => ?_)
  obtain ⟨rfl, rfl⟩ := h6
  rw [inJ_4]
  refine g_if_ne (tgt := 14) dX11_put_9 (by decide) (fun c9 => ?_) (fun c9 => ?_)
  · skip
    obtain ⟨j, hj, rfl⟩ := inR_ix (by decide) (bI_ne c9)
    refine g_aload_n dX11_put_14 rfl ?_
    refine t_getR dX11_put_15 fl_X11_16 rfl (by decide) rfl (by decide) rfl ?_
    refine g_iload_n dX11_put_18 rfl ?_
    refine t_iald dX11_put_19 rfl (by decide) (in_nI hj (by decide)) ?_
    rw [cl_nI (by omega), (hA.2.1 j hj).1]
    refine g_if_ge (tgt := 29) dX11_put_20 (by decide) (fun c20 => ?_) (fun c20 => ?_)
    · skip
      obtain ⟨c, htj⟩ : ∃ c, tx.1 j = some c := by
        cases hh : tx.1 j with
        | none => rw [hh] at c20; exact absurd c20 (by decide)
        | some q => exact ⟨q, rfl⟩
      have hc := hO.2.1 j hj c htj
      have hs : I 51 j = nI c := by have := (hA.2.1 j hj).1; rw [htj] at this; exact this
      refine g_iload_n dX11_put_29 rfl ?_
      refine g_i2l dX11_put_30 ?_
      refine g_lconst (v := 0) dX11_put_31 (by decide) ?_
      refine g_aload_n dX11_put_32 rfl ?_
      refine t_getR dX11_put_33 fl_X11_16 rfl (by decide) rfl (by decide) rfl ?_
      refine g_iload_n dX11_put_36 rfl ?_
      refine t_iald dX11_put_37 rfl (by decide) (in_nI hj (by decide)) ?_
      refine g_iconst (v := 1) dX11_put_38 (by decide) ?_
      refine g_isub dX11_put_39 ?_
      refine g_i2l dX11_put_40 ?_
      refine g_callSi dX11_put_41 ln_X11_76 ⟨_, rfl⟩ rfl (Nat.le_of_ble_eq_true rfl) (Nat.le_of_ble_eq_true rfl) ct_in rfl (fun r41 m41 h41 => ?_)
      obtain ⟨rfl, rfl⟩ := h41
      rw [cl_nI (by omega), hs, inJ_sz (by omega)]
      refine g_if_ne (tgt := 53) dX11_put_44 (by decide) (fun c44 => ?_) (fun c44 => ?_)
      · skip
        have q1 := bI_ne c44
        obtain ⟨a, ha, rfl⟩ := inR_ix (by omega) q1
        have hv : I 52 (80 * j + a) = tx.2 j a := (hA.2.1 j hj).2 c htj a ha
        refine g_aload_n dX11_put_53 rfl ?_
        refine t_getR dX11_put_54 fl_X11_19 rfl (by decide) rfl (by decide) rfl ?_
        refine g_bipush (v := 80) dX11_put_57 (by decide) ?_
        refine g_iload_n dX11_put_59 rfl ?_
        refine g_imul dX11_put_60 ?_
        refine g_iload_n dX11_put_61 rfl ?_
        refine g_iadd dX11_put_62 ?_
        refine t_bald dX11_put_63 rfl (by decide) (by rw [ix80]; exact in_nI (by omega) (by decide)) ?_
        refine g_istore dX11_put_64 (by decide) ?_
        show Go _ _ _ _ _ _ [_, _, _, _, _] _ _ _
        refine g_aload_n dX11_put_66 rfl ?_
        refine t_getR dX11_put_67 fl_X11_19 rfl (by decide) rfl (by decide) rfl ?_
        refine g_bipush (v := 80) dX11_put_70 (by decide) ?_
        refine g_iload_n dX11_put_72 rfl ?_
        refine g_imul dX11_put_73 ?_
        refine g_iload_n dX11_put_74 rfl ?_
        refine g_iadd dX11_put_75 ?_
        refine g_iload_n dX11_put_76 rfl ?_
        refine g_i2b dX11_put_77 ?_
        refine t_bast dX11_put_78 rfl (by decide) (by rw [ix80]; exact in_nI (by omega) (by decide)) ?_
        refine g_iload dX11_put_79 rfl ?_
        refine g_sipush (v := 1000) dX11_put_81 (by decide) ?_
        refine g_iadd dX11_put_84 ?_
        refine g_iret dX11_put_85 (fun ty h => by cases h; rfl) ?_
        rw [ix80, cl_nI (by omega), hv, pk_vb]
        have hS : S_put tx fn (nI j) (nI a) v = (tx.2 j a + 1000, tabSet tx j a v.toInt8.toInt32, fn) := by unfold S_put; rw [look_nI (by decide) hj, htj]; simp only [q1, cl_nI (show a < 2 ^ 31 by omega)]; rfl
        exact ⟨_, rfl, FrM.rf.up (by decide), by rw [hS], by rw [hS]; exact hA.upTx (Fr.rf.up (by decide)) (TxM.set hA.2.1 hO.2.1 hj (by omega))⟩
      · skip
        refine g_aload_n dX11_put_47 rfl ?_
        refine g_iconst (v := 2) dX11_put_48 (by decide) ?_
        refine g_callVi dX11_put_49 ln_X11_80 ⟨_, rfl⟩ rfl (by decide) ⟨_, _, rfl⟩ rfl (Nat.le_of_ble_eq_true rfl) (Nat.le_of_ble_eq_true rfl) (ct_finds (w := 2) (by decide)) rfl (fun r49 m49 h49 => ?_)
        obtain ⟨rfl, rfl⟩ := h49
        refine g_iret dX11_put_52 (fun ty h => by cases h; rfl) ?_
        have hS : S_put tx fn (nI j) i v = (-3, tx, fndS 2 fn) := by unfold S_put; rw [look_nI (by decide) hj, htj]; simp only [bI_eq c44]; rfl
        exact ⟨_, rfl, FrM.find, by rw [hS], by rw [hS]; exact hA.find (by decide)⟩
    · skip
      refine g_aload_n dX11_put_23 rfl ?_
      refine g_iconst (v := 1) dX11_put_24 (by decide) ?_
      refine g_callVi dX11_put_25 ln_X11_80 ⟨_, rfl⟩ rfl (by decide) ⟨_, _, rfl⟩ rfl (Nat.le_of_ble_eq_true rfl) (Nat.le_of_ble_eq_true rfl) (ct_finds (w := 1) (by decide)) rfl (fun r25 m25 h25 => ?_)
      obtain ⟨rfl, rfl⟩ := h25
      refine g_iret dX11_put_28 (fun ty h => by cases h; rfl) ?_
      have htj : tx.1 j = none := by
        cases hh : tx.1 j with
        | none => rfl
        | some c => rw [hh] at c20; exact absurd (nI_pos' (by have := hO.2.1 j hj c hh; omega)) c20
      have hS : S_put tx fn (nI j) i v = (-3, tx, fndS 1 fn) := by unfold S_put; rw [look_nI (by decide) hj, htj]
      exact ⟨_, rfl, FrM.find, by rw [hS], by rw [hS]; exact hA.find (by decide)⟩
  · skip
    refine g_iconst (v := -1) dX11_put_12 (by decide) ?_
    refine g_iret dX11_put_13 (fun ty h => by cases h; rfl) ?_
    have hS : S_put tx fn r i v = (-1, tx, fn) := by unfold S_put; rw [look_bad (bI_eq c9)]
    exact ⟨_, rfl, FrM.rf, by rw [hS], by rw [hS]; exact hA⟩
end
