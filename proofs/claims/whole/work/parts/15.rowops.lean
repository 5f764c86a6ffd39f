section
variable {X : Nat × (Nat → Int32)} {d : Nat} {I : Nat → Nat → Int32} {J : Nat → Nat → Int64}
/-! ===== promises 2 to 9: what is answered, what is then ===== -/
def fndM (I : Nat → Nat → Int32) (w : Nat) : Nat → Nat → Int32 := upR (upR I 0 (upd (I 0) 11 (nI w))) 47 (upd (I 47) w (I 47 w + 1))
def lookR (n : Nat) (t : Tab) (r : Int32) : Option (Nat × Option Nat) := if inR r n then some (r.toNatClampNeg, t.1 r.toNatClampNeg) else none
theorem look_bad {n : Nat} {t : Tab} {r : Int32} (h : inR r n = false) : lookR n t r = none := by unfold lookR; rw [h]; rfl
theorem look_nI {n j : Nat} {t : Tab} (hn : n < 2 ^ 31) (h : j < n) : lookR n t (nI j) = some (j, t.1 j) := by unfold lookR; rw [inR_nI hn h, cl_nI (by omega)]; rfl
def S_row (mx : Nat) (v : Int32) (k : Nat) (t : Tab) (fn : Fnd) (r n : Int32) : Int32 × Tab × Fnd := if inR r k = false ∨ nI mx < n then (-1, t, fn) else if n < 0 then (-3, t, fndS 5 fn) else (n, tabNew t r.toNatClampNeg n.toNatClampNeg v, fn)
def S_lay (t : Tab) (fn : Fnd) (tl r i v : Int32) : Int32 × Tab × Int32 × Fnd := match lookR 6 t r with
  | none => (-1, t, tl, fn)
  | some (_, none) => (-3, t, tl, fndS 1 fn)
  | some (j, some c) => if inR i c then (1, tabSet t j i.toNatClampNeg v, t.2 j i.toNatClampNeg, fn) else (-3, t, tl, fndS 2 fn)
def S_at (t : Tab) (fn : Fnd) (tl r i : Int32) : Int32 × Int32 × Fnd := match lookR 6 t r with
  | none => (-1, tl, fn)
  | some (_, none) => (-3, tl, fndS 1 fn)
  | some (j, some c) => if inR i c then (1, t.2 j i.toNatClampNeg, fn) else (-3, tl, fndS 2 fn)
def S_tear (t : Tab) (fn : Fnd) (r : Int32) : Int32 × Tab × Fnd := match lookR 6 t r with
  | none => (-1, t, fn)
  | some (_, none) => (-3, t, fndS 1 fn)
  | some (j, some _) => (1, tabDrop t j, fn)
def tabCopy (t : Tab) (j a k b c : Nat) : Tab := (t.1, upR t.2 k (va_cpy (t.2 j) (t.2 k) a b c))
/-- c places from i on, within s -/
def hasN (s : Nat) (i c : Int32) : Bool := decide (0 ≤ i.toInt ∧ 0 ≤ c.toInt ∧ i.toInt + c.toInt ≤ s)
def S_copy (t : Tab) (fn : Fnd) (r i to j n : Int32) : Int32 × Tab × Fnd := match lookR 6 t r, lookR 6 t to with
  | some (x, ox), some (y, oy) => if n < 0 then (-3, t, fndS 5 fn) else match ox, oy with
    | some cx, some cy => if hasN cx i n && hasN cy j n then (1, tabCopy t x i.toNatClampNeg y j.toNatClampNeg n.toNatClampNeg, fn) else (-3, t, fndS 2 fn)
    | _, _ => (-3, t, fndS 1 fn)
  | _, _ => (-1, t, fn)
def S_mean (t : Tab) (fn : Fnd) (tl r : Int32) : Int32 × Int32 × Fnd := match lookR 6 t r with
  | none => (-1, tl, fn)
  | some (_, none) => (-3, tl, fndS 1 fn)
  | some (j, some c) => if c = 0 then (-3, tl, fndS 4 fn) else (1, (sumL (t.2 j) c / lN c).toInt32, fn)
def S_put (t : Tab) (fn : Fnd) (r i v : Int32) : Int32 × Tab × Fnd := match lookR 4 t r with
  | none => (-1, t, fn)
  | some (_, none) => (-3, t, fndS 1 fn)
  | some (j, some c) => if inR i c then (t.2 j i.toNatClampNeg + 1000, tabSet t j i.toNatClampNeg v.toInt8.toInt32, fn) else (-3, t, fndS 2 fn)
theorem inR_iff {k : Int32} {n : Nat} : inR k n = true ↔ 0 ≤ k ∧ k < nI n := decide_eq_true_iff
theorem inR_no {k : Int32} {n : Nat} (h : ¬ inR k n = true) : inR k n = false := by cases hh : inR k n with
  | true => exact absurd hh h
  | false => rfl
theorem inR_hld {f : Nat → Int32} {n j s : Nat} {i : Int32} (hn : n < 2 ^ 31) (h : j < n) (hs : f j = nI s) (hs2 : s < 2 ^ 31) : hldB f n (nI j) i 1 = inR i s := by
  have e : hldB f n (nI j) i 1 = true ↔ inR i s = true := by
    rw [hld_iff, ofV_nI hn h, hs, nI_toInt hs2, inR_iff, Int32.le_iff_toInt_le, Int32.lt_iff_toInt_lt, nI_toInt hs2]
    have z : (0 : Int32).toInt = 0 := by decide
    have o : (1 : Int32).toInt = 1 := by decide
    rw [z, o]
    omega
  cases h1 : hldB f n (nI j) i 1 <;> cases h2 : inR i s <;> simp_all
theorem hasN_hld {f : Nat → Int32} {n j s : Nat} {i c : Int32} (hn : n < 2 ^ 31) (h : j < n) (hs : f j = nI s) (hs2 : s < 2 ^ 31) : hldB f n (nI j) i c = hasN s i c := by
  have e : hldB f n (nI j) i c = true ↔ hasN s i c = true := by
    unfold hasN
    rw [hld_iff, ofV_nI hn h, hs, nI_toInt hs2, decide_eq_true_iff]
  cases h1 : hldB f n (nI j) i c <;> cases h2 : hasN s i c <;> simp_all
theorem hasN_get {s : Nat} {i c : Int32} (h : hasN s i c = true) : ∃ a b, i = nI a ∧ c = nI b ∧ a + b ≤ s := by
  have h1 := of_decide_eq_true h
  have z : (0 : Int32).toInt = 0 := by decide
  obtain ⟨a, ha, rfl⟩ := nI_of (x := i) (by rw [Int32.lt_iff_toInt_lt, z]; omega)
  obtain ⟨b, hb, rfl⟩ := nI_of (x := c) (by rw [Int32.lt_iff_toInt_lt, z]; omega)
  rw [nI_toInt ha, nI_toInt hb] at h1
  exact ⟨a, b, rfl, rfl, by omega⟩

theorem AbsC.find {rw tx : Tab} {P : Pce} {ds : List Deed} {sh : Shf} {tl : Int32} {ch : Int64 × Int64} {fn : Fnd} {w : Nat} (hw : w < 6) (h : AbsC rw tx P ds sh tl ch fn I J) : AbsC rw tx P ds sh tl ch (fndS w fn) (fndM I w) J := by
  have hF := h.2.2.2.2.2.2.2
  refine h.up0 ((Fr.rf.up (by decide)).up (by decide)) ?_ ⟨?_, fun j hj => ?_⟩
  · unfold fndM; rw [upR_n (by decide), upR_s, pk_un (by decide)]; exact h.2.2.2.2.2.1
  · unfold fndM; rw [upR_n (by decide), upR_s, pk_us]; rfl
  · unfold fndM fndS
    rw [upR_s]
    by_cases e : j = w
    · subst e; rw [pk_us]; show _ = upd fn.2 j (fn.2 j + 1) j; rw [pk_us, hF.2 j hj]
    · rw [pk_un e]; show _ = upd fn.2 w (fn.2 w + 1) j; rw [pk_un e, hF.2 j hj]
theorem FrC.find {w : Nat} : FrC I (fndM I w) := (FrC.rf.up (by decide)).up (by decide)
theorem RwC.new {t : Tab} {j c : Nat} {g : Nat → Int32} (h : RwC t I) (hj : j < 6) (hc : c ≤ 40) (hg : ∀ i, i < 40 → g i = 0) : RwC (tabNew t j c 0) (upR (upR I 3 (upd (I 3) j (nI c))) (5 + j) g) := by
  intro r hr
  refine ⟨?_, fun c' hc' i hi => ?_⟩
  · rw [upR_n (by omega), upR_s]
    by_cases e : r = j
    · subst e; rw [pk_us]; show nI c = szI (upR t.1 r (some c) r); rw [upR_s]; rfl
    · rw [pk_un e]; show _ = szI (upR t.1 j (some c) r); rw [upR_n e]; exact (h r hr).1
  · by_cases e : r = j
    · subst e
      rw [show (tabNew t r c 0).1 r = some c from upR_s] at hc'
      cases hc'
      show upR _ (5 + r) g (5 + r) (0 + i) = upR t.2 r (fun _ => 0) r i
      rw [upR_s, upR_s, Nat.zero_add, hg i (by omega)]
    · rw [show (tabNew t j c 0).1 r = t.1 r from upR_n e] at hc'
      show upR _ (5 + j) g (5 + r) (0 + i) = upR t.2 j (fun _ => 0) r i
      rw [upR_n (by omega), upR_n (by omega), upR_n e]
      exact (h r hr).2 c' hc' i hi
theorem TxC.new {t : Tab} {j c : Nat} {g : Nat → Int32} (h : TxC t I) (hj : j < 4) (hc : c ≤ 80) (hg : ∀ i, i < 80 → g i = 32) : TxC (tabNew t j c 32) (upR (upR I 13 (upd (I 13) j (nI c))) (15 + j) g) := by
  intro r hr
  refine ⟨?_, fun c' hc' i hi => ?_⟩
  · rw [upR_n (by omega), upR_s]
    by_cases e : r = j
    · subst e; rw [pk_us]; show nI c = szI (upR t.1 r (some c) r); rw [upR_s]; rfl
    · rw [pk_un e]; show _ = szI (upR t.1 j (some c) r); rw [upR_n e]; exact (h r hr).1
  · by_cases e : r = j
    · subst e
      rw [show (tabNew t r c 32).1 r = some c from upR_s] at hc'
      cases hc'
      show upR _ (15 + r) g (15 + r) (0 + i) = upR t.2 r (fun _ => 32) r i
      rw [upR_s, upR_s, Nat.zero_add, hg i (by omega)]
    · rw [show (tabNew t j c 32).1 r = t.1 r from upR_n e] at hc'
      show upR _ (15 + j) g (15 + r) (0 + i) = upR t.2 j (fun _ => 32) r i
      rw [upR_n (by omega), upR_n (by omega), upR_n e]
      exact (h r hr).2 c' hc' i hi
theorem RwC.set {t : Tab} {j a : Nat} {v : Int32} (h : RwC t I) (hj : j < 6) : RwC (tabSet t j a v) (upR I (5 + j) (upd (I (5 + j)) a v)) := by
  intro r hr
  refine ⟨?_, fun c hc i hi => ?_⟩
  · rw [upR_n (by omega)]; exact (h r hr).1
  · by_cases e : r = j
    · subst e
      show upR I (5 + r) _ (5 + r) (0 + i) = upR t.2 r (upd (t.2 r) a v) r i
      rw [upR_s, upR_s, Nat.zero_add]
      by_cases e2 : i = a
      · subst e2; rw [pk_us, pk_us]
      · rw [pk_un e2, pk_un e2]; have := (h r hr).2 c hc i hi; rwa [Nat.zero_add] at this
    · show upR I (5 + j) _ (5 + r) (0 + i) = upR t.2 j (upd (t.2 j) a v) r i
      rw [upR_n (by omega), upR_n e]; exact (h r hr).2 c hc i hi
theorem TxC.set {t : Tab} {j a : Nat} {v : Int32} (h : TxC t I) (hj : j < 4) : TxC (tabSet t j a v) (upR I (15 + j) (upd (I (15 + j)) a v)) := by
  intro r hr
  refine ⟨?_, fun c hc i hi => ?_⟩
  · rw [upR_n (by omega)]; exact (h r hr).1
  · by_cases e : r = j
    · subst e
      show upR I (15 + r) _ (15 + r) (0 + i) = upR t.2 r (upd (t.2 r) a v) r i
      rw [upR_s, upR_s, Nat.zero_add]
      by_cases e2 : i = a
      · subst e2; rw [pk_us, pk_us]
      · rw [pk_un e2, pk_un e2]; have := (h r hr).2 c hc i hi; rwa [Nat.zero_add] at this
    · show upR I (15 + j) _ (15 + r) (0 + i) = upR t.2 j (upd (t.2 j) a v) r i
      rw [upR_n (by omega), upR_n e]; exact (h r hr).2 c hc i hi
theorem RwC.drop {t : Tab} {j : Nat} (h : RwC t I) (hj : j < 6) : RwC (tabDrop t j) (upR I 3 (upd (I 3) j (-1))) := by
  intro r hr
  refine ⟨?_, fun c hc i hi => ?_⟩
  · rw [upR_s]
    by_cases e : r = j
    · subst e; rw [pk_us]; show _ = szI (upR t.1 r none r); rw [upR_s]; rfl
    · rw [pk_un e]; show _ = szI (upR t.1 j none r); rw [upR_n e]; exact (h r hr).1
  · show upR I 3 _ (5 + r) (0 + i) = t.2 r i
    rw [upR_n (by omega)]
    by_cases e : r = j
    · subst e; rw [show (tabDrop t r).1 r = none from upR_s] at hc; cases hc
    · rw [show (tabDrop t j).1 r = t.1 r from upR_n e] at hc; exact (h r hr).2 c hc i hi
theorem RwC.copy {t : Tab} {j a k b c s u : Nat} (h : RwC t I) (hj : j < 6) (hk : k < 6) (hs : t.1 j = some s) (hu : t.1 k = some u) (ha : a + c ≤ s) (hb : b + c ≤ u) : RwC (tabCopy t j a k b c) (upR I (5 + k) (va_cpy (I (5 + j)) (I (5 + k)) a b c)) := by
  intro r hr
  refine ⟨?_, fun c' hc i hi => ?_⟩
  · rw [upR_n (by omega)]; exact (h r hr).1
  · by_cases e : r = k
    · subst e
      show upR I (5 + r) _ (5 + r) (0 + i) = upR t.2 r (va_cpy (t.2 j) (t.2 r) a b c) r i
      rw [upR_s, upR_s, Nat.zero_add]
      unfold va_cpy
      have hx : ∀ q, q < s → I (5 + j) q = t.2 j q := fun q hq => by have := (h j hj).2 s hs q hq; rwa [Nat.zero_add] at this
      split
      · rw [hx _ (by omega)]
      · have := (h r hr).2 c' hc i hi; rwa [Nat.zero_add] at this
    · show upR I (5 + k) _ (5 + r) (0 + i) = upR t.2 k (va_cpy (t.2 j) (t.2 k) a b c) r i
      rw [upR_n (by omega), upR_n e]; exact (h r hr).2 c' hc i hi
theorem ct_find {w : Nat} (hw : w < 6) : Ct X d 66 M_X10_find 66 [.ref 0, .int (nI w)] (I, J, rf0) (RI (fun x m => x = -3 ∧ m = (fndM I w, J, rf0))) := by
  show Go _ _ _ _ _ _ [_, _] _ _ _
  refine g_aload_n dX10_find_0 rfl ?_
  refine g_iload_n dX10_find_1 rfl ?_
  refine t_putI dX10_find_2 fl_X10_346 rfl (by decide) rfl (by decide) ?_
  refine g_iload_n dX10_find_5 rfl ?_
  refine g_if_lt (tgt := 28) dX10_find_6 (by decide) (fun c6 => ?_) (fun c6 => ?_)
  · exact absurd c6 (nI_neg (by omega))
  · skip
    refine g_iload_n dX10_find_9 rfl ?_
    refine g_aload_n dX10_find_10 rfl ?_
    refine t_getR dX10_find_11 fl_X10_78 rfl (by decide) rfl (by decide) rfl ?_
    refine t_alen dX10_find_14 rfl (by decide) ?_
    refine g_icmp_ge (tgt := 28) dX10_find_15 (by decide) (fun c15 => ?_) (fun c15 => ?_)
    · exact absurd (nI_lt hw (by decide)) (Int32.not_lt.mpr c15)
    · skip
      refine g_aload_n dX10_find_18 rfl ?_
      refine t_getR dX10_find_19 fl_X10_78 rfl (by decide) rfl (by decide) rfl ?_
      refine g_iload_n dX10_find_22 rfl ?_
      refine g_dup2 dX10_find_23 rfl rfl ?_
      refine t_iald dX10_find_24 rfl (by decide) (in_nI hw (by decide)) ?_
      refine g_iconst (v := 1) dX10_find_25 (by decide) ?_
      refine g_iadd dX10_find_26 ?_
      refine t_iast dX10_find_27 rfl (by decide) (in_nI hw (by decide)) ?_
      refine g_bipush (v := -3) dX10_find_28 (by decide) ?_
      refine g_iret dX10_find_30 (fun ty h => by cases h; rfl) ?_
      exact ⟨rfl, by rw [cl_nI (by omega), upR_n (by decide)]; rfl⟩
theorem ct_ref_R {t : Tab} {r : Int32} (hT : RwC t I) (hO : TabOK 6 40 t) : Ct X (d + 3) 66 M_X10_refusalOfRow 66 [.ref 0, .int r] (I, J, rf0) (RI (fun x m => (x = -1 ∧ m = (I, J, rf0) ∧ inR r 6 = false) ∨ (∃ j, j < 6 ∧ r = nI j ∧ t.1 j = none ∧ x = -3 ∧ m = (fndM I 1, J, rf0)) ∨ (∃ j c, j < 6 ∧ r = nI j ∧ t.1 j = some c ∧ x = 0 ∧ m = (I, J, rf0)))) := by
  show Go _ _ _ _ _ _ [_, _] _ _ _
  refine g_aload_n dX10_refusalOfRow_0 rfl ?_
  refine t_getR dX10_refusalOfRow_1 fl_X10_10 rfl (by decide) rfl (by decide) rfl ?_
  refine t_getR dX10_refusalOfRow_4 fl_X10_86 rfl (by decide) rfl (by decide) rfl ?_
  refine g_iload_n dX10_refusalOfRow_7 rfl ?_
  refine g_callVi dX10_refusalOfRow_8 ln_X10_90 ⟨_, rfl⟩ rfl (by decide) ⟨_, _, rfl⟩ rfl (Nat.le_of_ble_eq_true rfl) (Nat.le_of_ble_eq_true rfl) (ct_isNumber sz_rows) rfl (fun r8 m8 h8 => ?_)
  obtain ⟨rfl, rfl⟩ := h8
  refine g_if_ne (tgt := 16) dX10_refusalOfRow_11 (by decide) (fun c11 => ?_) (fun c11 => ?_)
  · skip
    obtain ⟨j, hj, rfl⟩ := inR_ix (by decide) (bI_ne c11)
    refine g_aload_n dX10_refusalOfRow_16 rfl ?_
    refine t_getR dX10_refusalOfRow_17 fl_X10_10 rfl (by decide) rfl (by decide) rfl ?_
    refine t_getR dX10_refusalOfRow_20 fl_X10_86 rfl (by decide) rfl (by decide) rfl ?_
    refine g_iload_n dX10_refusalOfRow_23 rfl ?_
    refine g_callVi dX10_refusalOfRow_24 ln_X10_126 ⟨_, rfl⟩ rfl (by decide) ⟨_, _, rfl⟩ rfl (Nat.le_of_ble_eq_true rfl) (Nat.le_of_ble_eq_true rfl) (ct_isThere sz_rows) rfl (fun r24 m24 h24 => ?_)
    obtain ⟨rfl, rfl⟩ := h24
    rw [ofV_nI (by decide) hj, (hT j hj).1]
    refine g_if_eq (tgt := 34) dX10_refusalOfRow_27 (by decide) (fun c27 => ?_) (fun c27 => ?_)
    · skip
      refine g_aload_n dX10_refusalOfRow_34 rfl ?_
      refine g_iconst (v := 1) dX10_refusalOfRow_35 (by decide) ?_
      refine g_callVi dX10_refusalOfRow_36 ln_X10_96 ⟨_, rfl⟩ rfl (by decide) ⟨_, _, rfl⟩ rfl (Nat.le_of_ble_eq_true rfl) (Nat.le_of_ble_eq_true rfl) (ct_find (w := 1) (by decide)) rfl (fun r36 m36 h36 => ?_)
      obtain ⟨rfl, rfl⟩ := h36
      refine g_iret dX10_refusalOfRow_39 (fun ty h => by cases h; rfl) ?_
      first
        | (have h9 := of_decide_eq_true (bI_ne c27)
           cases htj : t.1 j with
           | none => rw [htj] at h9; exact absurd rfl h9
           | some c => exact Or.inr (Or.inr ⟨j, c, hj, rfl, htj, rfl, rfl⟩))
        | (have h9 := of_decide_eq_false (bI_eq c27)
           cases htj : t.1 j with
           | none => exact Or.inr (Or.inl ⟨j, hj, rfl, htj, rfl, rfl⟩)
           | some c => rw [htj] at h9; exact absurd (szI_ne (by have := hO j hj c htj; omega)) h9)
    · skip
      refine g_iconst (v := 0) dX10_refusalOfRow_30 (by decide) ?_
      refine g_goto (tgt := 39) dX10_refusalOfRow_31 (by decide) ?_
      refine g_iret dX10_refusalOfRow_39 (fun ty h => by cases h; rfl) ?_
      first
        | (have h9 := of_decide_eq_true (bI_ne c27)
           cases htj : t.1 j with
           | none => rw [htj] at h9; exact absurd rfl h9
           | some c => exact Or.inr (Or.inr ⟨j, c, hj, rfl, htj, rfl, rfl⟩))
        | (have h9 := of_decide_eq_false (bI_eq c27)
           cases htj : t.1 j with
           | none => exact Or.inr (Or.inl ⟨j, hj, rfl, htj, rfl, rfl⟩)
           | some c => rw [htj] at h9; exact absurd (szI_ne (by have := hO j hj c htj; omega)) h9)
  · skip
    refine g_iconst (v := -1) dX10_refusalOfRow_14 (by decide) ?_
    refine g_iret dX10_refusalOfRow_15 (fun ty h => by cases h; rfl) ?_
    exact Or.inl ⟨rfl, rfl, bI_eq c11⟩
theorem ct_ref_T {t : Tab} {r : Int32} (hT : TxC t I) (hO : TabOK 4 80 t) : Ct X (d + 3) 66 M_X10_refusalOfText 66 [.ref 0, .int r] (I, J, rf0) (RI (fun x m => (x = -1 ∧ m = (I, J, rf0) ∧ inR r 4 = false) ∨ (∃ j, j < 4 ∧ r = nI j ∧ t.1 j = none ∧ x = -3 ∧ m = (fndM I 1, J, rf0)) ∨ (∃ j c, j < 4 ∧ r = nI j ∧ t.1 j = some c ∧ x = 0 ∧ m = (I, J, rf0)))) := by
  show Go _ _ _ _ _ _ [_, _] _ _ _
  refine g_aload_n dX10_refusalOfText_0 rfl ?_
  refine t_getR dX10_refusalOfText_1 fl_X10_19 rfl (by decide) rfl (by decide) rfl ?_
  refine t_getR dX10_refusalOfText_4 fl_X10_144 rfl (by decide) rfl (by decide) rfl ?_
  refine g_iload_n dX10_refusalOfText_7 rfl ?_
  refine g_callVi dX10_refusalOfText_8 ln_X10_90 ⟨_, rfl⟩ rfl (by decide) ⟨_, _, rfl⟩ rfl (Nat.le_of_ble_eq_true rfl) (Nat.le_of_ble_eq_true rfl) (ct_isNumber sz_texts) rfl (fun r8 m8 h8 => ?_)
  obtain ⟨rfl, rfl⟩ := h8
  refine g_if_ne (tgt := 16) dX10_refusalOfText_11 (by decide) (fun c11 => ?_) (fun c11 => ?_)
  · skip
    obtain ⟨j, hj, rfl⟩ := inR_ix (by decide) (bI_ne c11)
    refine g_aload_n dX10_refusalOfText_16 rfl ?_
    refine t_getR dX10_refusalOfText_17 fl_X10_19 rfl (by decide) rfl (by decide) rfl ?_
    refine t_getR dX10_refusalOfText_20 fl_X10_144 rfl (by decide) rfl (by decide) rfl ?_
    refine g_iload_n dX10_refusalOfText_23 rfl ?_
    refine g_callVi dX10_refusalOfText_24 ln_X10_126 ⟨_, rfl⟩ rfl (by decide) ⟨_, _, rfl⟩ rfl (Nat.le_of_ble_eq_true rfl) (Nat.le_of_ble_eq_true rfl) (ct_isThere sz_texts) rfl (fun r24 m24 h24 => ?_)
    obtain ⟨rfl, rfl⟩ := h24
    rw [ofV_nI (by decide) hj, (hT j hj).1]
    refine g_if_eq (tgt := 34) dX10_refusalOfText_27 (by decide) (fun c27 => ?_) (fun c27 => ?_)
    · skip
      refine g_aload_n dX10_refusalOfText_34 rfl ?_
      refine g_iconst (v := 1) dX10_refusalOfText_35 (by decide) ?_
      refine g_callVi dX10_refusalOfText_36 ln_X10_96 ⟨_, rfl⟩ rfl (by decide) ⟨_, _, rfl⟩ rfl (Nat.le_of_ble_eq_true rfl) (Nat.le_of_ble_eq_true rfl) (ct_find (w := 1) (by decide)) rfl (fun r36 m36 h36 => ?_)
      obtain ⟨rfl, rfl⟩ := h36
      refine g_iret dX10_refusalOfText_39 (fun ty h => by cases h; rfl) ?_
      first
        | (have h9 := of_decide_eq_true (bI_ne c27)
           cases htj : t.1 j with
           | none => rw [htj] at h9; exact absurd rfl h9
           | some c => exact Or.inr (Or.inr ⟨j, c, hj, rfl, htj, rfl, rfl⟩))
        | (have h9 := of_decide_eq_false (bI_eq c27)
           cases htj : t.1 j with
           | none => exact Or.inr (Or.inl ⟨j, hj, rfl, htj, rfl, rfl⟩)
           | some c => rw [htj] at h9; exact absurd (szI_ne (by have := hO j hj c htj; omega)) h9)
    · skip
      refine g_iconst (v := 0) dX10_refusalOfText_30 (by decide) ?_
      refine g_goto (tgt := 39) dX10_refusalOfText_31 (by decide) ?_
      refine g_iret dX10_refusalOfText_39 (fun ty h => by cases h; rfl) ?_
      first
        | (have h9 := of_decide_eq_true (bI_ne c27)
           cases htj : t.1 j with
           | none => rw [htj] at h9; exact absurd rfl h9
           | some c => exact Or.inr (Or.inr ⟨j, c, hj, rfl, htj, rfl, rfl⟩))
        | (have h9 := of_decide_eq_false (bI_eq c27)
           cases htj : t.1 j with
           | none => exact Or.inr (Or.inl ⟨j, hj, rfl, htj, rfl, rfl⟩)
           | some c => rw [htj] at h9; exact absurd (szI_ne (by have := hO j hj c htj; omega)) h9)
  · skip
    refine g_iconst (v := -1) dX10_refusalOfText_14 (by decide) ?_
    refine g_iret dX10_refusalOfText_15 (fun ty h => by cases h; rfl) ?_
    exact Or.inl ⟨rfl, rfl, bI_eq c11⟩
theorem ct_ref_P {t : Tab} {r i : Int32} (hT : RwC t I) (hO : TabOK 6 40 t) : Ct X (d + 4) 66 M_X10_refusalOfPlace 66 [.ref 0, .int r, .int i] (I, J, rf0) (RI (fun x m => (x = -1 ∧ m = (I, J, rf0) ∧ inR r 6 = false) ∨ (∃ j, j < 6 ∧ r = nI j ∧ t.1 j = none ∧ x = -3 ∧ m = (fndM I 1, J, rf0)) ∨ (∃ j c, j < 6 ∧ r = nI j ∧ t.1 j = some c ∧ inR i c = false ∧ x = -3 ∧ m = (fndM I 2, J, rf0)) ∨ (∃ j c a, j < 6 ∧ r = nI j ∧ t.1 j = some c ∧ a < c ∧ i = nI a ∧ x = 0 ∧ m = (I, J, rf0)))) := by
  show Go _ _ _ _ _ _ [_, _, _, _] _ _ _
  refine g_aload_n dX10_refusalOfPlace_0 rfl ?_
  refine g_iload_n dX10_refusalOfPlace_1 rfl ?_
  refine g_callVi dX10_refusalOfPlace_2 ln_X10_119 ⟨_, rfl⟩ rfl (by decide) ⟨_, _, rfl⟩ rfl (Nat.le_of_ble_eq_true rfl) (Nat.le_of_ble_eq_true rfl) (ct_ref_R hT hO) rfl (fun r2 m2 h2 => ?_)
  rcases h2 with ⟨rfl, rfl, hb⟩ | ⟨j, hj, rfl, htj, rfl, rfl⟩ | ⟨j, c, hj, rfl, htj, rfl, rfl⟩
  · skip
    refine g_istore_n dX10_refusalOfPlace_5 (by decide) ?_
    show Go _ _ _ _ _ _ [_, _, _, _] _ _ _
    refine g_iload_n dX10_refusalOfPlace_6 rfl ?_
    refine g_if_eq (tgt := 12) dX10_refusalOfPlace_7 (by decide) (fun c7 => ?_) (fun c7 => ?_)
    · exact absurd c7 (by decide)
    · skip
      refine g_iload_n dX10_refusalOfPlace_10 rfl ?_
      refine g_iret dX10_refusalOfPlace_11 (fun ty h => by cases h; rfl) ?_
      exact Or.inl ⟨rfl, rfl, hb⟩
  · skip
    refine g_istore_n dX10_refusalOfPlace_5 (by decide) ?_
    show Go _ _ _ _ _ _ [_, _, _, _] _ _ _
    refine g_iload_n dX10_refusalOfPlace_6 rfl ?_
    refine g_if_eq (tgt := 12) dX10_refusalOfPlace_7 (by decide) (fun c7 => ?_) (fun c7 => ?_)
    · exact absurd c7 (by decide)
    · skip
      refine g_iload_n dX10_refusalOfPlace_10 rfl ?_
      refine g_iret dX10_refusalOfPlace_11 (fun ty h => by cases h; rfl) ?_
      exact Or.inr (Or.inl ⟨j, hj, rfl, htj, rfl, rfl⟩)
  · skip
    refine g_istore_n dX10_refusalOfPlace_5 (by decide) ?_
    show Go _ _ _ _ _ _ [_, _, _, _] _ _ _
    refine g_iload_n dX10_refusalOfPlace_6 rfl ?_
    refine g_if_eq (tgt := 12) dX10_refusalOfPlace_7 (by decide) (fun c7 => ?_) (fun c7 => ?_)
    · skip
      refine g_aload_n dX10_refusalOfPlace_12 rfl ?_
      refine t_getR dX10_refusalOfPlace_13 fl_X10_10 rfl (by decide) rfl (by decide) rfl ?_
      refine t_getR dX10_refusalOfPlace_16 fl_X10_86 rfl (by decide) rfl (by decide) rfl ?_
      refine g_iload_n dX10_refusalOfPlace_19 rfl ?_
      refine g_iload_n dX10_refusalOfPlace_20 rfl ?_
      refine g_iconst (v := 1) dX10_refusalOfPlace_21 (by decide) ?_
      refine g_callVi dX10_refusalOfPlace_22 ln_X10_129 ⟨_, rfl⟩ rfl (by decide) ⟨_, _, rfl⟩ rfl (Nat.le_of_ble_eq_true rfl) (Nat.le_of_ble_eq_true rfl) (ct_holds sz_rows) rfl (fun r22 m22 h22 => ?_)
      obtain ⟨rfl, rfl⟩ := h22
      have hc := hO j hj c htj
      have hs : I 3 j = nI c := by have := (hT j hj).1; rw [htj] at this; exact this
      rw [inR_hld (by decide) hj hs (by omega)]
      refine g_if_eq (tgt := 32) dX10_refusalOfPlace_25 (by decide) (fun c25 => ?_) (fun c25 => ?_)
      · skip
        refine g_aload_n dX10_refusalOfPlace_32 rfl ?_
        refine g_iconst (v := 2) dX10_refusalOfPlace_33 (by decide) ?_
        refine g_callVi dX10_refusalOfPlace_34 ln_X10_96 ⟨_, rfl⟩ rfl (by decide) ⟨_, _, rfl⟩ rfl (Nat.le_of_ble_eq_true rfl) (Nat.le_of_ble_eq_true rfl) (ct_find (w := 2) (by decide)) rfl (fun r34 m34 h34 => ?_)
        obtain ⟨rfl, rfl⟩ := h34
        refine g_iret dX10_refusalOfPlace_37 (fun ty h => by cases h; rfl) ?_
        first
          | (obtain ⟨a, ha, rfl⟩ := inR_ix (by omega) (bI_ne c25)
             exact Or.inr (Or.inr (Or.inr ⟨j, c, a, hj, rfl, htj, ha, rfl, rfl, rfl⟩)))
          | exact Or.inr (Or.inr (Or.inl ⟨j, c, hj, rfl, htj, bI_eq c25, rfl, rfl⟩))
      · skip
        refine g_iconst (v := 0) dX10_refusalOfPlace_28 (by decide) ?_
        refine g_goto (tgt := 37) dX10_refusalOfPlace_29 (by decide) ?_
        refine g_iret dX10_refusalOfPlace_37 (fun ty h => by cases h; rfl) ?_
        first
          | (obtain ⟨a, ha, rfl⟩ := inR_ix (by omega) (bI_ne c25)
             exact Or.inr (Or.inr (Or.inr ⟨j, c, a, hj, rfl, htj, ha, rfl, rfl, rfl⟩)))
          | exact Or.inr (Or.inr (Or.inl ⟨j, c, hj, rfl, htj, bI_eq c25, rfl, rfl⟩))
    · exact absurd rfl c7
theorem pc_row {rw tx : Tab} {P : Pce} {ds : List Deed} {sh : Shf} {tl : Int32} {ch : Int64 × Int64} {fn : Fnd} {r n : Int32} (hA : AbsC rw tx P ds sh tl ch fn I J) (hO : StOK rw tx P ds sh) : Ct X (d + 3) 66 M_X10_row 66 [.ref 0, .int r, .int n] (I, J, rf0) (RI (fun x m => ∃ I', m = (I', J, rf0) ∧ FrC I I' ∧ x = (S_row 40 0 6 rw fn r n).1 ∧ AbsC (S_row 40 0 6 rw fn r n).2.1 tx P ds sh tl ch (S_row 40 0 6 rw fn r n).2.2 I' J)) := by
  show Go _ _ _ _ _ _ [_, _, _] _ _ _
  refine g_aload_n dX10_row_0 rfl ?_
  refine t_getR dX10_row_1 fl_X10_10 rfl (by decide) rfl (by decide) rfl ?_
  refine t_getR dX10_row_4 fl_X10_86 rfl (by decide) rfl (by decide) rfl ?_
  refine g_iload_n dX10_row_7 rfl ?_
  refine g_callVi dX10_row_8 ln_X10_90 ⟨_, rfl⟩ rfl (by decide) ⟨_, _, rfl⟩ rfl (Nat.le_of_ble_eq_true rfl) (Nat.le_of_ble_eq_true rfl) (ct_isNumber sz_rows) rfl (fun r8 m8 h8 => ?_)
  obtain ⟨rfl, rfl⟩ := h8
  refine g_if_eq (tgt := 20) dX10_row_11 (by decide) (fun c11 => ?_) (fun c11 => ?_)
  · skip
    refine g_iconst (v := -1) dX10_row_20 (by decide) ?_
    refine g_iret dX10_row_21 (fun ty h => by cases h; rfl) ?_
    have hx : inR r 6 = false ∨ nI 40 < n := by first | exact Or.inl (bI_eq c11) | exact Or.inr (Int32.not_le.mp c17)
    have hS : S_row 40 0 6 rw fn r n = (-1, rw, fn) := by unfold S_row; rw [if_pos hx]
    exact ⟨_, rfl, FrC.rf, by rw [hS], by rw [hS]; exact hA⟩
  · skip
    refine g_iload_n dX10_row_14 rfl ?_
    refine g_bipush (v := 40) dX10_row_15 (by decide) ?_
    refine g_icmp_le (tgt := 22) dX10_row_17 (by decide) (fun c17 => ?_) (fun c17 => ?_)
    · skip
      obtain ⟨j, hj, rfl⟩ := inR_ix (by decide) (bI_ne c11)
      refine g_iload_n dX10_row_22 rfl ?_
      refine g_if_ge (tgt := 32) dX10_row_23 (by decide) (fun c23 => ?_) (fun c23 => ?_)
      · skip
        obtain ⟨c, hc31, rfl⟩ := nI_of (Int32.not_lt.mpr c23)
        have hc : c ≤ 40 := (nI_leI hc31 (by decide)).mp c17
        refine g_aload_n dX10_row_32 rfl ?_
        refine t_getR dX10_row_33 fl_X10_10 rfl (by decide) rfl (by decide) rfl ?_
        refine g_iload_n dX10_row_36 rfl ?_
        refine g_iload_n dX10_row_37 rfl ?_
        refine g_callVv dX10_row_38 ln_X10_100 rfl rfl (by decide) ⟨_, _, rfl⟩ rfl (Nat.le_of_ble_eq_true rfl) (Nat.le_of_ble_eq_true rfl) (ct_make_R hj hc) rfl (fun m38 h38 => ?_)
        obtain ⟨g, rfl, hg⟩ := h38
        refine g_iload_n dX10_row_41 rfl ?_
        refine g_iret dX10_row_42 (fun ty h => by cases h; rfl) ?_
        have hS : S_row 40 0 6 rw fn (nI j) (nI c) = (nI c, tabNew rw j c 0, fn) := by unfold S_row; rw [if_neg (fun q => q.elim (fun q => by rw [inR_nI (by decide) hj] at q; cases q) (fun q => Int32.not_le.mpr q c17)), if_neg (nI_neg hc31), cl_nI (by omega), cl_nI (by omega)]
        exact ⟨_, rfl, (FrC.rf.up (by decide)).up (by omega), by rw [hS], by rw [hS]; exact hA.upRw ((Fr.rf.up (by decide)).up (by simp; omega)) (RwC.new hA.1 hj hc hg)⟩
      · skip
        refine g_aload_n dX10_row_26 rfl ?_
        refine g_iconst (v := 5) dX10_row_27 (by decide) ?_
        refine g_callVi dX10_row_28 ln_X10_96 ⟨_, rfl⟩ rfl (by decide) ⟨_, _, rfl⟩ rfl (Nat.le_of_ble_eq_true rfl) (Nat.le_of_ble_eq_true rfl) (ct_find (w := 5) (by decide)) rfl (fun r28 m28 h28 => ?_)
        obtain ⟨rfl, rfl⟩ := h28
        refine g_iret dX10_row_31 (fun ty h => by cases h; rfl) ?_
        have hS : S_row 40 0 6 rw fn (nI j) n = (-3, rw, fndS 5 fn) := by unfold S_row; rw [if_neg (fun q => q.elim (fun q => by rw [inR_nI (by decide) hj] at q; cases q) (fun q => Int32.not_le.mpr q c17)), if_pos (Int32.not_le.mp c23)]
        exact ⟨_, rfl, FrC.find, by rw [hS], by rw [hS]; exact hA.find (by decide)⟩
    · skip
      refine g_iconst (v := -1) dX10_row_20 (by decide) ?_
      refine g_iret dX10_row_21 (fun ty h => by cases h; rfl) ?_
      have hx : inR r 6 = false ∨ nI 40 < n := by first | exact Or.inl (bI_eq c11) | exact Or.inr (Int32.not_le.mp c17)
      have hS : S_row 40 0 6 rw fn r n = (-1, rw, fn) := by unfold S_row; rw [if_pos hx]
      exact ⟨_, rfl, FrC.rf, by rw [hS], by rw [hS]; exact hA⟩
theorem pc_text {rw tx : Tab} {P : Pce} {ds : List Deed} {sh : Shf} {tl : Int32} {ch : Int64 × Int64} {fn : Fnd} {r n : Int32} (hA : AbsC rw tx P ds sh tl ch fn I J) (hO : StOK rw tx P ds sh) : Ct X (d + 3) 66 M_X10_text 66 [.ref 0, .int r, .int n] (I, J, rf0) (RI (fun x m => ∃ I', m = (I', J, rf0) ∧ FrC I I' ∧ x = (S_row 80 32 4 tx fn r n).1 ∧ AbsC rw (S_row 80 32 4 tx fn r n).2.1 P ds sh tl ch (S_row 80 32 4 tx fn r n).2.2 I' J)) := by
  show Go _ _ _ _ _ _ [_, _, _] _ _ _
  refine g_aload_n dX10_text_0 rfl ?_
  refine t_getR dX10_text_1 fl_X10_19 rfl (by decide) rfl (by decide) rfl ?_
  refine t_getR dX10_text_4 fl_X10_144 rfl (by decide) rfl (by decide) rfl ?_
  refine g_iload_n dX10_text_7 rfl ?_
  refine g_callVi dX10_text_8 ln_X10_90 ⟨_, rfl⟩ rfl (by decide) ⟨_, _, rfl⟩ rfl (Nat.le_of_ble_eq_true rfl) (Nat.le_of_ble_eq_true rfl) (ct_isNumber sz_texts) rfl (fun r8 m8 h8 => ?_)
  obtain ⟨rfl, rfl⟩ := h8
  refine g_if_eq (tgt := 20) dX10_text_11 (by decide) (fun c11 => ?_) (fun c11 => ?_)
  · skip
    refine g_iconst (v := -1) dX10_text_20 (by decide) ?_
    refine g_iret dX10_text_21 (fun ty h => by cases h; rfl) ?_
    have hx : inR r 4 = false ∨ nI 80 < n := by first | exact Or.inl (bI_eq c11) | exact Or.inr (Int32.not_le.mp c17)
    have hS : S_row 80 32 4 tx fn r n = (-1, tx, fn) := by unfold S_row; rw [if_pos hx]
    exact ⟨_, rfl, FrC.rf, by rw [hS], by rw [hS]; exact hA⟩
  · skip
    refine g_iload_n dX10_text_14 rfl ?_
    refine g_bipush (v := 80) dX10_text_15 (by decide) ?_
    refine g_icmp_le (tgt := 22) dX10_text_17 (by decide) (fun c17 => ?_) (fun c17 => ?_)
    · skip
      obtain ⟨j, hj, rfl⟩ := inR_ix (by decide) (bI_ne c11)
      refine g_iload_n dX10_text_22 rfl ?_
      refine g_if_ge (tgt := 32) dX10_text_23 (by decide) (fun c23 => ?_) (fun c23 => ?_)
      · skip
        obtain ⟨c, hc31, rfl⟩ := nI_of (Int32.not_lt.mpr c23)
        have hc : c ≤ 80 := (nI_leI hc31 (by decide)).mp c17
        refine g_aload_n dX10_text_32 rfl ?_
        refine t_getR dX10_text_33 fl_X10_19 rfl (by decide) rfl (by decide) rfl ?_
        refine g_iload_n dX10_text_36 rfl ?_
        refine g_iload_n dX10_text_37 rfl ?_
        refine g_callVv dX10_text_38 ln_X10_145 rfl rfl (by decide) ⟨_, _, rfl⟩ rfl (Nat.le_of_ble_eq_true rfl) (Nat.le_of_ble_eq_true rfl) (ct_make_T hj hc) rfl (fun m38 h38 => ?_)
        obtain ⟨g, rfl, hg⟩ := h38
        refine g_iload_n dX10_text_41 rfl ?_
        refine g_iret dX10_text_42 (fun ty h => by cases h; rfl) ?_
        have hS : S_row 80 32 4 tx fn (nI j) (nI c) = (nI c, tabNew tx j c 32, fn) := by unfold S_row; rw [if_neg (fun q => q.elim (fun q => by rw [inR_nI (by decide) hj] at q; cases q) (fun q => Int32.not_le.mpr q c17)), if_neg (nI_neg hc31), cl_nI (by omega), cl_nI (by omega)]
        exact ⟨_, rfl, (FrC.rf.up (by decide)).up (by omega), by rw [hS], by rw [hS]; exact hA.upTx ((Fr.rf.up (by decide)).up (by simp; omega)) (TxC.new hA.2.1 hj hc hg)⟩
      · skip
        refine g_aload_n dX10_text_26 rfl ?_
        refine g_iconst (v := 5) dX10_text_27 (by decide) ?_
        refine g_callVi dX10_text_28 ln_X10_96 ⟨_, rfl⟩ rfl (by decide) ⟨_, _, rfl⟩ rfl (Nat.le_of_ble_eq_true rfl) (Nat.le_of_ble_eq_true rfl) (ct_find (w := 5) (by decide)) rfl (fun r28 m28 h28 => ?_)
        obtain ⟨rfl, rfl⟩ := h28
        refine g_iret dX10_text_31 (fun ty h => by cases h; rfl) ?_
        have hS : S_row 80 32 4 tx fn (nI j) n = (-3, tx, fndS 5 fn) := by unfold S_row; rw [if_neg (fun q => q.elim (fun q => by rw [inR_nI (by decide) hj] at q; cases q) (fun q => Int32.not_le.mpr q c17)), if_pos (Int32.not_le.mp c23)]
        exact ⟨_, rfl, FrC.find, by rw [hS], by rw [hS]; exact hA.find (by decide)⟩
    · skip
      refine g_iconst (v := -1) dX10_text_20 (by decide) ?_
      refine g_iret dX10_text_21 (fun ty h => by cases h; rfl) ?_
      have hx : inR r 4 = false ∨ nI 80 < n := by first | exact Or.inl (bI_eq c11) | exact Or.inr (Int32.not_le.mp c17)
      have hS : S_row 80 32 4 tx fn r n = (-1, tx, fn) := by unfold S_row; rw [if_pos hx]
      exact ⟨_, rfl, FrC.rf, by rw [hS], by rw [hS]; exact hA⟩
theorem pc_lay {rw tx : Tab} {P : Pce} {ds : List Deed} {sh : Shf} {tl : Int32} {ch : Int64 × Int64} {fn : Fnd} {r i v : Int32} (hA : AbsC rw tx P ds sh tl ch fn I J) (hO : StOK rw tx P ds sh) : Ct X (d + 5) 66 M_X10_lay 66 [.ref 0, .int r, .int i, .int v] (I, J, rf0) (RI (fun x m => ∃ I', m = (I', J, rf0) ∧ FrC I I' ∧ x = (S_lay rw fn tl r i v).1 ∧ AbsC (S_lay rw fn tl r i v).2.1 tx P ds sh (S_lay rw fn tl r i v).2.2.1 ch (S_lay rw fn tl r i v).2.2.2 I' J)) := by
  show Go _ _ _ _ _ _ [_, _, _, _, _] _ _ _
  refine g_aload_n dX10_lay_0 rfl ?_
  refine g_iload_n dX10_lay_1 rfl ?_
  refine g_iload_n dX10_lay_2 rfl ?_
  refine g_callVi dX10_lay_3 ln_X10_104 ⟨_, rfl⟩ rfl (by decide) ⟨_, _, rfl⟩ rfl (Nat.le_of_ble_eq_true rfl) (Nat.le_of_ble_eq_true rfl) (ct_ref_P hA.1 hO.1) rfl (fun r3 m3 h3 => ?_)
  rcases h3 with ⟨rfl, rfl, hb⟩ | ⟨j, hj, rfl, htj, rfl, rfl⟩ | ⟨j, c, hj, rfl, htj, hic, rfl, rfl⟩ | ⟨j, c, a, hj, rfl, htj, hac, rfl, rfl, rfl⟩
  · skip
    refine g_istore dX10_lay_6 (by decide) ?_
    show Go _ _ _ _ _ _ [_, _, _, _, _] _ _ _
    refine g_iload dX10_lay_8 rfl ?_
    refine g_if_eq (tgt := 16) dX10_lay_10 (by decide) (fun c10 => ?_) (fun c10 => ?_)
    · exact absurd c10 (by decide)
    · skip
      refine g_iload dX10_lay_13 rfl ?_
      refine g_iret dX10_lay_15 (fun ty h => by cases h; rfl) ?_
      have hS : S_lay rw fn tl r i v = (-1, rw, tl, fn) := by unfold S_lay; rw [look_bad hb]
      exact ⟨_, rfl, FrC.rf, by rw [hS], by rw [hS]; exact hA⟩
  · skip
    refine g_istore dX10_lay_6 (by decide) ?_
    show Go _ _ _ _ _ _ [_, _, _, _, _] _ _ _
    refine g_iload dX10_lay_8 rfl ?_
    refine g_if_eq (tgt := 16) dX10_lay_10 (by decide) (fun c10 => ?_) (fun c10 => ?_)
    · exact absurd c10 (by decide)
    · skip
      refine g_iload dX10_lay_13 rfl ?_
      refine g_iret dX10_lay_15 (fun ty h => by cases h; rfl) ?_
      have hS : S_lay rw fn tl (nI j) i v = (-3, rw, tl, fndS 1 fn) := by unfold S_lay; rw [look_nI (by decide) hj, htj]
      exact ⟨_, rfl, FrC.find, by rw [hS], by rw [hS]; exact hA.find (by decide)⟩
  · skip
    refine g_istore dX10_lay_6 (by decide) ?_
    show Go _ _ _ _ _ _ [_, _, _, _, _] _ _ _
    refine g_iload dX10_lay_8 rfl ?_
    refine g_if_eq (tgt := 16) dX10_lay_10 (by decide) (fun c10 => ?_) (fun c10 => ?_)
    · exact absurd c10 (by decide)
    · skip
      refine g_iload dX10_lay_13 rfl ?_
      refine g_iret dX10_lay_15 (fun ty h => by cases h; rfl) ?_
      have hS : S_lay rw fn tl (nI j) i v = (-3, rw, tl, fndS 2 fn) := by unfold S_lay; rw [look_nI (by decide) hj, htj]; simp only [hic]; rfl
      exact ⟨_, rfl, FrC.find, by rw [hS], by rw [hS]; exact hA.find (by decide)⟩
  · skip
    have hc := hO.1 j hj c htj
    have hs : I 3 j = nI c := by have := (hA.1 j hj).1; rw [htj] at this; exact this
    have hv : I (5 + j) a = rw.2 j a := by have := (hA.1 j hj).2 c htj a hac; rwa [Nat.zero_add] at this
    refine g_istore dX10_lay_6 (by decide) ?_
    show Go _ _ _ _ _ _ [_, _, _, _, _] _ _ _
    refine g_iload dX10_lay_8 rfl ?_
    refine g_if_eq (tgt := 16) dX10_lay_10 (by decide) (fun c10 => ?_) (fun c10 => ?_)
    · skip
      refine g_aload_n dX10_lay_16 rfl ?_
      refine g_aload_n dX10_lay_17 rfl ?_
      refine t_getR dX10_lay_18 fl_X10_10 rfl (by decide) rfl (by decide) rfl ?_
      refine g_iload_n dX10_lay_21 rfl ?_
      refine g_iload_n dX10_lay_22 rfl ?_
      refine g_callVi dX10_lay_23 ln_X10_108 ⟨_, rfl⟩ rfl (by decide) ⟨_, _, rfl⟩ rfl (Nat.le_of_ble_eq_true rfl) (Nat.le_of_ble_eq_true rfl) (ct_get_R hj hs hc hac) rfl (fun r23 m23 h23 => ?_)
      obtain ⟨rfl, rfl⟩ := h23
      refine t_putI dX10_lay_26 fl_X10_111 rfl (by decide) rfl (by decide) ?_
      refine g_aload_n dX10_lay_29 rfl ?_
      refine t_getR dX10_lay_30 fl_X10_10 rfl (by decide) rfl (by decide) rfl ?_
      refine g_iload_n dX10_lay_33 rfl ?_
      refine g_iload_n dX10_lay_34 rfl ?_
      refine g_iload_n dX10_lay_35 rfl ?_
      refine g_callVv dX10_lay_36 ln_X10_115 rfl rfl (by decide) ⟨_, _, rfl⟩ rfl (Nat.le_of_ble_eq_true rfl) (Nat.le_of_ble_eq_true rfl) (ct_set_R hj (by rw [upR_n (by decide)]; exact hs) hc hac) rfl (fun m36 h36 => ?_)
      subst h36
      refine g_iconst (v := 1) dX10_lay_39 (by decide) ?_
      refine g_iret dX10_lay_40 (fun ty h => by cases h; rfl) ?_
      rw [hv]
      have hS : S_lay rw fn tl (nI j) (nI a) v = (1, tabSet rw j a v, rw.2 j a, fn) := by unfold S_lay; rw [look_nI (by decide) hj, htj]; simp only [inR_nI (show c < 2 ^ 31 by omega) hac, cl_nI (show a < 2 ^ 31 by omega)]; rfl
      exact ⟨_, rfl, (FrC.rf.up (by decide)).up (by omega), by rw [hS], by rw [hS]; exact (hA.told (v := rw.2 j a)).upRw (Fr.rf.up (k := 5 + j) (by simp; omega)) (RwC.set ((hA.told (v := rw.2 j a)).1) hj)⟩
    · exact absurd rfl c10
theorem pc_at {rw tx : Tab} {P : Pce} {ds : List Deed} {sh : Shf} {tl : Int32} {ch : Int64 × Int64} {fn : Fnd} {r i : Int32} (hA : AbsC rw tx P ds sh tl ch fn I J) (hO : StOK rw tx P ds sh) : Ct X (d + 5) 66 M_X10_at 66 [.ref 0, .int r, .int i] (I, J, rf0) (RI (fun x m => ∃ I', m = (I', J, rf0) ∧ FrC I I' ∧ x = (S_at rw fn tl r i).1 ∧ AbsC rw tx P ds sh (S_at rw fn tl r i).2.1 ch (S_at rw fn tl r i).2.2 I' J)) := by
  show Go _ _ _ _ _ _ [_, _, _, _] _ _ _
  refine g_aload_n dX10_at_0 rfl ?_
  refine g_iload_n dX10_at_1 rfl ?_
  refine g_iload_n dX10_at_2 rfl ?_
  refine g_callVi dX10_at_3 ln_X10_104 ⟨_, rfl⟩ rfl (by decide) ⟨_, _, rfl⟩ rfl (Nat.le_of_ble_eq_true rfl) (Nat.le_of_ble_eq_true rfl) (ct_ref_P hA.1 hO.1) rfl (fun r3 m3 h3 => ?_)
  rcases h3 with ⟨rfl, rfl, hb⟩ | ⟨j, hj, rfl, htj, rfl, rfl⟩ | ⟨j, c, hj, rfl, htj, hic, rfl, rfl⟩ | ⟨j, c, a, hj, rfl, htj, hac, rfl, rfl, rfl⟩
  · skip
    refine g_istore_n dX10_at_6 (by decide) ?_
    show Go _ _ _ _ _ _ [_, _, _, _] _ _ _
    refine g_iload_n dX10_at_7 rfl ?_
    refine g_if_eq (tgt := 13) dX10_at_8 (by decide) (fun c8 => ?_) (fun c8 => ?_)
    · exact absurd c8 (by decide)
    · skip
      refine g_iload_n dX10_at_11 rfl ?_
      refine g_iret dX10_at_12 (fun ty h => by cases h; rfl) ?_
      have hS : S_at rw fn tl r i = (-1, tl, fn) := by unfold S_at; rw [look_bad hb]
      exact ⟨_, rfl, FrC.rf, by rw [hS], by rw [hS]; exact hA⟩
  · skip
    refine g_istore_n dX10_at_6 (by decide) ?_
    show Go _ _ _ _ _ _ [_, _, _, _] _ _ _
    refine g_iload_n dX10_at_7 rfl ?_
    refine g_if_eq (tgt := 13) dX10_at_8 (by decide) (fun c8 => ?_) (fun c8 => ?_)
    · exact absurd c8 (by decide)
    · skip
      refine g_iload_n dX10_at_11 rfl ?_
      refine g_iret dX10_at_12 (fun ty h => by cases h; rfl) ?_
      have hS : S_at rw fn tl (nI j) i = (-3, tl, fndS 1 fn) := by unfold S_at; rw [look_nI (by decide) hj, htj]
      exact ⟨_, rfl, FrC.find, by rw [hS], by rw [hS]; exact hA.find (by decide)⟩
  · skip
    refine g_istore_n dX10_at_6 (by decide) ?_
    show Go _ _ _ _ _ _ [_, _, _, _] _ _ _
    refine g_iload_n dX10_at_7 rfl ?_
    refine g_if_eq (tgt := 13) dX10_at_8 (by decide) (fun c8 => ?_) (fun c8 => ?_)
    · exact absurd c8 (by decide)
    · skip
      refine g_iload_n dX10_at_11 rfl ?_
      refine g_iret dX10_at_12 (fun ty h => by cases h; rfl) ?_
      have hS : S_at rw fn tl (nI j) i = (-3, tl, fndS 2 fn) := by unfold S_at; rw [look_nI (by decide) hj, htj]; simp only [hic]; rfl
      exact ⟨_, rfl, FrC.find, by rw [hS], by rw [hS]; exact hA.find (by decide)⟩
  · skip
    have hc := hO.1 j hj c htj
    have hs : I 3 j = nI c := by have := (hA.1 j hj).1; rw [htj] at this; exact this
    have hv : I (5 + j) a = rw.2 j a := by have := (hA.1 j hj).2 c htj a hac; rwa [Nat.zero_add] at this
    refine g_istore_n dX10_at_6 (by decide) ?_
    show Go _ _ _ _ _ _ [_, _, _, _] _ _ _
    refine g_iload_n dX10_at_7 rfl ?_
    refine g_if_eq (tgt := 13) dX10_at_8 (by decide) (fun c8 => ?_) (fun c8 => ?_)
    · skip
      refine g_aload_n dX10_at_13 rfl ?_
      refine g_aload_n dX10_at_14 rfl ?_
      refine t_getR dX10_at_15 fl_X10_10 rfl (by decide) rfl (by decide) rfl ?_
      refine g_iload_n dX10_at_18 rfl ?_
      refine g_iload_n dX10_at_19 rfl ?_
      refine g_callVi dX10_at_20 ln_X10_108 ⟨_, rfl⟩ rfl (by decide) ⟨_, _, rfl⟩ rfl (Nat.le_of_ble_eq_true rfl) (Nat.le_of_ble_eq_true rfl) (ct_get_R hj hs hc hac) rfl (fun r20 m20 h20 => ?_)
      obtain ⟨rfl, rfl⟩ := h20
      refine t_putI dX10_at_23 fl_X10_111 rfl (by decide) rfl (by decide) ?_
      refine g_iconst (v := 1) dX10_at_26 (by decide) ?_
      refine g_iret dX10_at_27 (fun ty h => by cases h; rfl) ?_
      have hS : S_at rw fn tl (nI j) (nI a) = (1, rw.2 j a, fn) := by unfold S_at; rw [look_nI (by decide) hj, htj]; simp only [inR_nI (show c < 2 ^ 31 by omega) hac, cl_nI (show a < 2 ^ 31 by omega)]; rfl
      exact ⟨_, rfl, FrC.rf.up (by decide), by rw [hS], by rw [hS]; exact by rw [hv]; exact hA.told⟩
    · exact absurd rfl c8
theorem pc_tear {rw tx : Tab} {P : Pce} {ds : List Deed} {sh : Shf} {tl : Int32} {ch : Int64 × Int64} {fn : Fnd} {r : Int32} (hA : AbsC rw tx P ds sh tl ch fn I J) (hO : StOK rw tx P ds sh) : Ct X (d + 4) 66 M_X10_tear 66 [.ref 0, .int r] (I, J, rf0) (RI (fun x m => ∃ I', m = (I', J, rf0) ∧ FrC I I' ∧ x = (S_tear rw fn r).1 ∧ AbsC (S_tear rw fn r).2.1 tx P ds sh tl ch (S_tear rw fn r).2.2 I' J)) := by
  show Go _ _ _ _ _ _ [_, _, _] _ _ _
  refine g_aload_n dX10_tear_0 rfl ?_
  refine g_iload_n dX10_tear_1 rfl ?_
  refine g_callVi dX10_tear_2 ln_X10_119 ⟨_, rfl⟩ rfl (by decide) ⟨_, _, rfl⟩ rfl (Nat.le_of_ble_eq_true rfl) (Nat.le_of_ble_eq_true rfl) (ct_ref_R hA.1 hO.1) rfl (fun r2 m2 h2 => ?_)
  rcases h2 with ⟨rfl, rfl, hb⟩ | ⟨j, hj, rfl, htj, rfl, rfl⟩ | ⟨j, c, hj, rfl, htj, rfl, rfl⟩
  · skip
    refine g_istore_n dX10_tear_5 (by decide) ?_
    show Go _ _ _ _ _ _ [_, _, _] _ _ _
    refine g_iload_n dX10_tear_6 rfl ?_
    refine g_if_eq (tgt := 12) dX10_tear_7 (by decide) (fun c7 => ?_) (fun c7 => ?_)
    · exact absurd c7 (by decide)
    · skip
      refine g_iload_n dX10_tear_10 rfl ?_
      refine g_iret dX10_tear_11 (fun ty h => by cases h; rfl) ?_
      have hS : S_tear rw fn r = (-1, rw, fn) := by unfold S_tear; rw [look_bad hb]
      exact ⟨_, rfl, FrC.rf, by rw [hS], by rw [hS]; exact hA⟩
  · skip
    refine g_istore_n dX10_tear_5 (by decide) ?_
    show Go _ _ _ _ _ _ [_, _, _] _ _ _
    refine g_iload_n dX10_tear_6 rfl ?_
    refine g_if_eq (tgt := 12) dX10_tear_7 (by decide) (fun c7 => ?_) (fun c7 => ?_)
    · exact absurd c7 (by decide)
    · skip
      refine g_iload_n dX10_tear_10 rfl ?_
      refine g_iret dX10_tear_11 (fun ty h => by cases h; rfl) ?_
      have hS : S_tear rw fn (nI j) = (-3, rw, fndS 1 fn) := by unfold S_tear; rw [look_nI (by decide) hj, htj]
      exact ⟨_, rfl, FrC.find, by rw [hS], by rw [hS]; exact hA.find (by decide)⟩
  · skip
    refine g_istore_n dX10_tear_5 (by decide) ?_
    show Go _ _ _ _ _ _ [_, _, _] _ _ _
    refine g_iload_n dX10_tear_6 rfl ?_
    refine g_if_eq (tgt := 12) dX10_tear_7 (by decide) (fun c7 => ?_) (fun c7 => ?_)
    · skip
      refine g_aload_n dX10_tear_12 rfl ?_
      refine t_getR dX10_tear_13 fl_X10_10 rfl (by decide) rfl (by decide) rfl ?_
      refine t_getR dX10_tear_16 fl_X10_86 rfl (by decide) rfl (by decide) rfl ?_
      refine g_iload_n dX10_tear_19 rfl ?_
      refine g_callVv dX10_tear_20 ln_X10_122 rfl rfl (by decide) ⟨_, _, rfl⟩ rfl (Nat.le_of_ble_eq_true rfl) (Nat.le_of_ble_eq_true rfl) (ct_drop sz_rows) rfl (fun m20 h20 => ?_)
      subst h20
      rw [bec_nI (by decide) hj]
      refine g_iconst (v := 1) dX10_tear_23 (by decide) ?_
      refine g_iret dX10_tear_24 (fun ty h => by cases h; rfl) ?_
      have hS : S_tear rw fn (nI j) = (1, tabDrop rw j, fn) := by unfold S_tear; rw [look_nI (by decide) hj, htj]
      exact ⟨_, rfl, FrC.rf.up (by decide), by rw [hS], by rw [hS]; exact hA.upRw (Fr.rf.up (by decide)) (RwC.drop hA.1 hj)⟩
    · exact absurd rfl c7
theorem foldN_congr {σ : Type} {f g : Nat → σ → σ} {s : σ} : ∀ {n : Nat}, (∀ i, i < n → ∀ a, f i a = g i a) → foldN f s n = foldN g s n
  | 0, _ => rfl
  | n + 1, h => by
    show f n (foldN f s n) = g n (foldN g s n)
    rw [foldN_congr (n := n) (fun i hi a => h i (by omega) a), h n (by omega)]
theorem sumL_congr {f g : Nat → Int32} {n : Nat} (h : ∀ i, i < n → f i = g i) : sumL f n = sumL g n := foldN_congr (fun i hi a => by rw [h i hi])
theorem lN_ne0 {c : Nat} (h0 : 0 < c) (h : c < 2 ^ 31) : ¬ lN c = 0 := fun q => by
  have := (lN_eq h (by omega : (0 : Nat) < 2 ^ 31)).mp q
  omega
theorem pc_copy {rw tx : Tab} {P : Pce} {ds : List Deed} {sh : Shf} {tl : Int32} {ch : Int64 × Int64} {fn : Fnd} {r i to j n : Int32} (hA : AbsC rw tx P ds sh tl ch fn I J) (hO : StOK rw tx P ds sh) : Ct X (d + 4) 66 M_X10_copy 66 [.ref 0, .int r, .int i, .int to, .int j, .int n] (I, J, rf0) (RI (fun x m => ∃ I', m = (I', J, rf0) ∧ FrC I I' ∧ x = (S_copy rw fn r i to j n).1 ∧ AbsC (S_copy rw fn r i to j n).2.1 tx P ds sh tl ch (S_copy rw fn r i to j n).2.2 I' J)) := by
  show Go _ _ _ _ _ _ [_, _, _, _, _, _] _ _ _
  refine g_aload_n dX10_copy_0 rfl ?_
  refine t_getR dX10_copy_1 fl_X10_10 rfl (by decide) rfl (by decide) rfl ?_
  refine t_getR dX10_copy_4 fl_X10_86 rfl (by decide) rfl (by decide) rfl ?_
  refine g_iload_n dX10_copy_7 rfl ?_
  refine g_callVi dX10_copy_8 ln_X10_90 ⟨_, rfl⟩ rfl (by decide) ⟨_, _, rfl⟩ rfl (Nat.le_of_ble_eq_true rfl) (Nat.le_of_ble_eq_true rfl) (ct_isNumber sz_rows) rfl (fun r8 m8 h8 => ?_)
  obtain ⟨rfl, rfl⟩ := h8
  refine g_if_eq (tgt := 28) dX10_copy_11 (by decide) (fun c11 => ?_) (fun c11 => ?_)
  · skip
    refine g_iconst (v := -1) dX10_copy_28 (by decide) ?_
    refine g_iret dX10_copy_29 (fun ty h => by cases h; rfl) ?_
    first
      | (have hS : S_copy rw fn r i to j n = (-1, rw, fn) := by
           unfold S_copy; rw [look_bad (bI_eq c11)]
         exact ⟨_, rfl, FrC.rf, by rw [hS], by rw [hS]; exact hA⟩)
      | (have hS : S_copy rw fn (nI x) i to j n = (-1, rw, fn) := by
           unfold S_copy; rw [look_nI (by decide) hx, look_bad (bI_eq c25)]
         exact ⟨_, rfl, FrC.rf, by rw [hS], by rw [hS]; exact hA⟩)
  · skip
    obtain ⟨x, hx, rfl⟩ := inR_ix (by decide) (bI_ne c11)
    refine g_aload_n dX10_copy_14 rfl ?_
    refine t_getR dX10_copy_15 fl_X10_10 rfl (by decide) rfl (by decide) rfl ?_
    refine t_getR dX10_copy_18 fl_X10_86 rfl (by decide) rfl (by decide) rfl ?_
    refine g_iload_n dX10_copy_21 rfl ?_
    refine g_callVi dX10_copy_22 ln_X10_90 ⟨_, rfl⟩ rfl (by decide) ⟨_, _, rfl⟩ rfl (Nat.le_of_ble_eq_true rfl) (Nat.le_of_ble_eq_true rfl) (ct_isNumber sz_rows) rfl (fun r22 m22 h22 => ?_)
    obtain ⟨rfl, rfl⟩ := h22
    refine g_if_ne (tgt := 30) dX10_copy_25 (by decide) (fun c25 => ?_) (fun c25 => ?_)
    · skip
      obtain ⟨y, hy, rfl⟩ := inR_ix (by decide) (bI_ne c25)
      refine g_iload dX10_copy_30 rfl ?_
      refine g_if_ge (tgt := 41) dX10_copy_32 (by decide) (fun c32 => ?_) (fun c32 => ?_)
      · skip
        refine g_aload_n dX10_copy_41 rfl ?_
        refine t_getR dX10_copy_42 fl_X10_10 rfl (by decide) rfl (by decide) rfl ?_
        refine t_getR dX10_copy_45 fl_X10_86 rfl (by decide) rfl (by decide) rfl ?_
        refine g_iload_n dX10_copy_48 rfl ?_
        refine g_callVi dX10_copy_49 ln_X10_126 ⟨_, rfl⟩ rfl (by decide) ⟨_, _, rfl⟩ rfl (Nat.le_of_ble_eq_true rfl) (Nat.le_of_ble_eq_true rfl) (ct_isThere sz_rows) rfl (fun r49 m49 h49 => ?_)
        obtain ⟨rfl, rfl⟩ := h49
        rw [ofV_nI (by decide) hx, (hA.1 x hx).1]
        refine g_if_eq (tgt := 69) dX10_copy_52 (by decide) (fun c52 => ?_) (fun c52 => ?_)
        · skip
          refine g_aload_n dX10_copy_69 rfl ?_
          refine g_iconst (v := 1) dX10_copy_70 (by decide) ?_
          refine g_callVi dX10_copy_71 ln_X10_96 ⟨_, rfl⟩ rfl (by decide) ⟨_, _, rfl⟩ rfl (Nat.le_of_ble_eq_true rfl) (Nat.le_of_ble_eq_true rfl) (ct_find (w := 1) (by decide)) rfl (fun r71 m71 h71 => ?_)
          obtain ⟨rfl, rfl⟩ := h71
          refine g_iret dX10_copy_74 (fun ty h => by cases h; rfl) ?_
          have hS : S_copy rw fn (nI x) i (nI y) j n = (-3, rw, fndS 1 fn) := by
            unfold S_copy; rw [look_nI (by decide) hx, look_nI (by decide) hy]; simp only [if_neg (Int32.not_lt.mpr c32)]
            cases hox : rw.1 x with
            | none => rfl
            | some cx =>
              cases hoy : rw.1 y with
              | none => rfl
              | some cy =>
                exfalso
                have k1 := hO.1 x hx cx hox
                have k2 := hO.1 y hy cy hoy
                first
                  | (have h9 := of_decide_eq_false (bI_eq c52); rw [hox] at h9; exact h9 (szI_ne (by omega)))
                  | (have h9 := of_decide_eq_false (bI_eq c66); rw [hoy] at h9; exact h9 (szI_ne (by omega)))
          exact ⟨_, rfl, FrC.find, by rw [hS], by rw [hS]; exact hA.find (by decide)⟩
        · skip
          refine g_aload_n dX10_copy_55 rfl ?_
          refine t_getR dX10_copy_56 fl_X10_10 rfl (by decide) rfl (by decide) rfl ?_
          refine t_getR dX10_copy_59 fl_X10_86 rfl (by decide) rfl (by decide) rfl ?_
          refine g_iload_n dX10_copy_62 rfl ?_
          refine g_callVi dX10_copy_63 ln_X10_126 ⟨_, rfl⟩ rfl (by decide) ⟨_, _, rfl⟩ rfl (Nat.le_of_ble_eq_true rfl) (Nat.le_of_ble_eq_true rfl) (ct_isThere sz_rows) rfl (fun r63 m63 h63 => ?_)
          obtain ⟨rfl, rfl⟩ := h63
          rw [ofV_nI (by decide) hy, (hA.1 y hy).1]
          refine g_if_ne (tgt := 75) dX10_copy_66 (by decide) (fun c66 => ?_) (fun c66 => ?_)
          · skip
            skip
            have h9x := of_decide_eq_true (bI_ne c52)
            have h9y := of_decide_eq_true (bI_ne c66)
            obtain ⟨cx, htx⟩ : ∃ cx, rw.1 x = some cx := by
              cases hh : rw.1 x with
              | none => rw [hh] at h9x; exact absurd rfl h9x
              | some q => exact ⟨q, rfl⟩
            obtain ⟨cy, hty⟩ : ∃ cy, rw.1 y = some cy := by
              cases hh : rw.1 y with
              | none => rw [hh] at h9y; exact absurd rfl h9y
              | some q => exact ⟨q, rfl⟩
            have hcx := hO.1 x hx cx htx
            have hcy := hO.1 y hy cy hty
            have hsx : I 3 x = nI cx := by have := (hA.1 x hx).1; rw [htx] at this; exact this
            have hsy : I 3 y = nI cy := by have := (hA.1 y hy).1; rw [hty] at this; exact this
            refine g_aload_n dX10_copy_75 rfl ?_
            refine t_getR dX10_copy_76 fl_X10_10 rfl (by decide) rfl (by decide) rfl ?_
            refine t_getR dX10_copy_79 fl_X10_86 rfl (by decide) rfl (by decide) rfl ?_
            refine g_iload_n dX10_copy_82 rfl ?_
            refine g_iload_n dX10_copy_83 rfl ?_
            refine g_iload dX10_copy_84 rfl ?_
            refine g_callVi dX10_copy_86 ln_X10_129 ⟨_, rfl⟩ rfl (by decide) ⟨_, _, rfl⟩ rfl (Nat.le_of_ble_eq_true rfl) (Nat.le_of_ble_eq_true rfl) (ct_holds sz_rows) rfl (fun r86 m86 h86 => ?_)
            obtain ⟨rfl, rfl⟩ := h86
            rw [hasN_hld (by decide) hx hsx (by omega)]
            refine g_if_eq (tgt := 110) dX10_copy_89 (by decide) (fun c89 => ?_) (fun c89 => ?_)
            · skip
              refine g_aload_n dX10_copy_110 rfl ?_
              refine g_iconst (v := 2) dX10_copy_111 (by decide) ?_
              refine g_callVi dX10_copy_112 ln_X10_96 ⟨_, rfl⟩ rfl (by decide) ⟨_, _, rfl⟩ rfl (Nat.le_of_ble_eq_true rfl) (Nat.le_of_ble_eq_true rfl) (ct_find (w := 2) (by decide)) rfl (fun r112 m112 h112 => ?_)
              obtain ⟨rfl, rfl⟩ := h112
              refine g_iret dX10_copy_115 (fun ty h => by cases h; rfl) ?_
              have hS : S_copy rw fn (nI x) i (nI y) j n = (-3, rw, fndS 2 fn) := by
                unfold S_copy; rw [look_nI (by decide) hx, look_nI (by decide) hy, htx, hty]; simp only [if_neg (Int32.not_lt.mpr c32)]
                first
                  | rw [bI_eq c89]; rfl
                  | rw [bI_eq c107, Bool.and_false]; rfl
              exact ⟨_, rfl, FrC.find, by rw [hS], by rw [hS]; exact hA.find (by decide)⟩
            · skip
              refine g_aload_n dX10_copy_92 rfl ?_
              refine t_getR dX10_copy_93 fl_X10_10 rfl (by decide) rfl (by decide) rfl ?_
              refine t_getR dX10_copy_96 fl_X10_86 rfl (by decide) rfl (by decide) rfl ?_
              refine g_iload_n dX10_copy_99 rfl ?_
              refine g_iload dX10_copy_100 rfl ?_
              refine g_iload dX10_copy_102 rfl ?_
              refine g_callVi dX10_copy_104 ln_X10_129 ⟨_, rfl⟩ rfl (by decide) ⟨_, _, rfl⟩ rfl (Nat.le_of_ble_eq_true rfl) (Nat.le_of_ble_eq_true rfl) (ct_holds sz_rows) rfl (fun r104 m104 h104 => ?_)
              obtain ⟨rfl, rfl⟩ := h104
              rw [hasN_hld (by decide) hy hsy (by omega)]
              refine g_if_ne (tgt := 116) dX10_copy_107 (by decide) (fun c107 => ?_) (fun c107 => ?_)
              · skip
                have q1 := bI_ne c89
                have q2 := bI_ne c107
                obtain ⟨a, c, rfl, rfl, hax⟩ := hasN_get q1
                obtain ⟨b, c', rfl, hcc, hby⟩ := hasN_get q2
                have hcc' : c = c' := by
                  have h1 := of_decide_eq_true q1
                  have h2 := of_decide_eq_true q2
                  have e1 : (nI c).toInt = (nI c').toInt := by rw [hcc]
                  rw [nI_toInt (by omega), nI_toInt (by omega)] at e1
                  omega
                subst hcc'
                refine g_aload_n dX10_copy_116 rfl ?_
                refine t_getR dX10_copy_117 fl_X10_10 rfl (by decide) rfl (by decide) rfl ?_
                refine g_iload_n dX10_copy_120 rfl ?_
                refine g_iload_n dX10_copy_121 rfl ?_
                refine g_iload_n dX10_copy_122 rfl ?_
                refine g_iload dX10_copy_123 rfl ?_
                refine g_iload dX10_copy_125 rfl ?_
                refine g_callVv dX10_copy_127 ln_X10_133 rfl rfl (by decide) ⟨_, _, rfl⟩ rfl (Nat.le_of_ble_eq_true rfl) (Nat.le_of_ble_eq_true rfl) (ct_move_R hx hsx hcx hax hy hsy hcy hby) rfl (fun m127 h127 => ?_)
                subst h127
                refine g_iconst (v := 1) dX10_copy_130 (by decide) ?_
                refine g_iret dX10_copy_131 (fun ty h => by cases h; rfl) ?_
                have hS : S_copy rw fn (nI x) (nI a) (nI y) (nI b) (nI c) = (1, tabCopy rw x a y b c, fn) := by
                  unfold S_copy; rw [look_nI (by decide) hx, look_nI (by decide) hy, htx, hty]; simp only [if_neg (Int32.not_lt.mpr c32), q1, q2, cl_nI (show a < 2 ^ 31 by omega), cl_nI (show b < 2 ^ 31 by omega), cl_nI (show c < 2 ^ 31 by omega)]; rfl
                exact ⟨_, rfl, FrC.rf.up (by omega), by rw [hS], by rw [hS]; exact hA.upRw (Fr.rf.up (by simp; omega)) (RwC.copy hA.1 hx hy htx hty hax hby)⟩
              · skip
                refine g_aload_n dX10_copy_110 rfl ?_
                refine g_iconst (v := 2) dX10_copy_111 (by decide) ?_
                refine g_callVi dX10_copy_112 ln_X10_96 ⟨_, rfl⟩ rfl (by decide) ⟨_, _, rfl⟩ rfl (Nat.le_of_ble_eq_true rfl) (Nat.le_of_ble_eq_true rfl) (ct_find (w := 2) (by decide)) rfl (fun r112 m112 h112 => ?_)
                obtain ⟨rfl, rfl⟩ := h112
                refine g_iret dX10_copy_115 (fun ty h => by cases h; rfl) ?_
                have hS : S_copy rw fn (nI x) i (nI y) j n = (-3, rw, fndS 2 fn) := by
                  unfold S_copy; rw [look_nI (by decide) hx, look_nI (by decide) hy, htx, hty]; simp only [if_neg (Int32.not_lt.mpr c32)]
                  first
                    | rw [bI_eq c89]; rfl
                    | rw [bI_eq c107, Bool.and_false]; rfl
                exact ⟨_, rfl, FrC.find, by rw [hS], by rw [hS]; exact hA.find (by decide)⟩
          · skip
            refine g_aload_n dX10_copy_69 rfl ?_
            refine g_iconst (v := 1) dX10_copy_70 (by decide) ?_
            refine g_callVi dX10_copy_71 ln_X10_96 ⟨_, rfl⟩ rfl (by decide) ⟨_, _, rfl⟩ rfl (Nat.le_of_ble_eq_true rfl) (Nat.le_of_ble_eq_true rfl) (ct_find (w := 1) (by decide)) rfl (fun r71 m71 h71 => ?_)
            obtain ⟨rfl, rfl⟩ := h71
            refine g_iret dX10_copy_74 (fun ty h => by cases h; rfl) ?_
            have hS : S_copy rw fn (nI x) i (nI y) j n = (-3, rw, fndS 1 fn) := by
              unfold S_copy; rw [look_nI (by decide) hx, look_nI (by decide) hy]; simp only [if_neg (Int32.not_lt.mpr c32)]
              cases hox : rw.1 x with
              | none => rfl
              | some cx =>
                cases hoy : rw.1 y with
                | none => rfl
                | some cy =>
                  exfalso
                  have k1 := hO.1 x hx cx hox
                  have k2 := hO.1 y hy cy hoy
                  first
                    | (have h9 := of_decide_eq_false (bI_eq c52); rw [hox] at h9; exact h9 (szI_ne (by omega)))
                    | (have h9 := of_decide_eq_false (bI_eq c66); rw [hoy] at h9; exact h9 (szI_ne (by omega)))
            exact ⟨_, rfl, FrC.find, by rw [hS], by rw [hS]; exact hA.find (by decide)⟩
      · skip
        refine g_aload_n dX10_copy_35 rfl ?_
        refine g_iconst (v := 5) dX10_copy_36 (by decide) ?_
        refine g_callVi dX10_copy_37 ln_X10_96 ⟨_, rfl⟩ rfl (by decide) ⟨_, _, rfl⟩ rfl (Nat.le_of_ble_eq_true rfl) (Nat.le_of_ble_eq_true rfl) (ct_find (w := 5) (by decide)) rfl (fun r37 m37 h37 => ?_)
        obtain ⟨rfl, rfl⟩ := h37
        refine g_iret dX10_copy_40 (fun ty h => by cases h; rfl) ?_
        have hS : S_copy rw fn (nI x) i (nI y) j n = (-3, rw, fndS 5 fn) := by
          unfold S_copy; rw [look_nI (by decide) hx, look_nI (by decide) hy]; simp only [if_pos (Int32.not_le.mp c32)]
        exact ⟨_, rfl, FrC.find, by rw [hS], by rw [hS]; exact hA.find (by decide)⟩
    · skip
      refine g_iconst (v := -1) dX10_copy_28 (by decide) ?_
      refine g_iret dX10_copy_29 (fun ty h => by cases h; rfl) ?_
      first
        | (have hS : S_copy rw fn r i to j n = (-1, rw, fn) := by
             unfold S_copy; rw [look_bad (bI_eq c11)]
           exact ⟨_, rfl, FrC.rf, by rw [hS], by rw [hS]; exact hA⟩)
        | (have hS : S_copy rw fn (nI x) i to j n = (-1, rw, fn) := by
             unfold S_copy; rw [look_nI (by decide) hx, look_bad (bI_eq c25)]
           exact ⟨_, rfl, FrC.rf, by rw [hS], by rw [hS]; exact hA⟩)
theorem pc_mean {rw tx : Tab} {P : Pce} {ds : List Deed} {sh : Shf} {tl : Int32} {ch : Int64 × Int64} {fn : Fnd} {r : Int32} (hA : AbsC rw tx P ds sh tl ch fn I J) (hO : StOK rw tx P ds sh) : Ct X (d + 5) 66 M_X10_mean 66 [.ref 0, .int r] (I, J, rf0) (RI (fun x m => ∃ I', m = (I', J, rf0) ∧ FrC I I' ∧ x = (S_mean rw fn tl r).1 ∧ AbsC rw tx P ds sh (S_mean rw fn tl r).2.1 ch (S_mean rw fn tl r).2.2 I' J)) := by
  show Go _ _ _ _ _ _ [_, _, _, _] _ _ _
  refine g_aload_n dX10_mean_0 rfl ?_
  refine g_iload_n dX10_mean_1 rfl ?_
  refine g_callVi dX10_mean_2 ln_X10_119 ⟨_, rfl⟩ rfl (by decide) ⟨_, _, rfl⟩ rfl (Nat.le_of_ble_eq_true rfl) (Nat.le_of_ble_eq_true rfl) (ct_ref_R hA.1 hO.1) rfl (fun r2 m2 h2 => ?_)
  rcases h2 with ⟨rfl, rfl, hb⟩ | ⟨j, hj, rfl, htj, rfl, rfl⟩ | ⟨j, c, hj, rfl, htj, rfl, rfl⟩
  · skip
    refine g_istore_n dX10_mean_5 (by decide) ?_
    show Go _ _ _ _ _ _ [_, _, _, _] _ _ _
    refine g_iload_n dX10_mean_6 rfl ?_
    refine g_if_eq (tgt := 12) dX10_mean_7 (by decide) (fun c7 => ?_) (fun c7 => ?_)
    · exact absurd c7 (by decide)
    · skip
      refine g_iload_n dX10_mean_10 rfl ?_
      refine g_iret dX10_mean_11 (fun ty h => by cases h; rfl) ?_
      have hS : S_mean rw fn tl r = (-1, tl, fn) := by unfold S_mean; rw [look_bad hb]
      exact ⟨_, rfl, FrC.rf, by rw [hS], by rw [hS]; exact hA⟩
  · skip
    refine g_istore_n dX10_mean_5 (by decide) ?_
    show Go _ _ _ _ _ _ [_, _, _, _] _ _ _
    refine g_iload_n dX10_mean_6 rfl ?_
    refine g_if_eq (tgt := 12) dX10_mean_7 (by decide) (fun c7 => ?_) (fun c7 => ?_)
    · exact absurd c7 (by decide)
    · skip
      refine g_iload_n dX10_mean_10 rfl ?_
      refine g_iret dX10_mean_11 (fun ty h => by cases h; rfl) ?_
      have hS : S_mean rw fn tl (nI j) = (-3, tl, fndS 1 fn) := by unfold S_mean; rw [look_nI (by decide) hj, htj]
      exact ⟨_, rfl, FrC.find, by rw [hS], by rw [hS]; exact hA.find (by decide)⟩
  · skip
    have hc := hO.1 j hj c htj
    have hs : I 3 j = nI c := by have := (hA.1 j hj).1; rw [htj] at this; exact this
    have hv : ∀ i, i < c → I (5 + j) i = rw.2 j i := fun i hi => by have := (hA.1 j hj).2 c htj i hi; rwa [Nat.zero_add] at this
    refine g_istore_n dX10_mean_5 (by decide) ?_
    show Go _ _ _ _ _ _ [_, _, _, _] _ _ _
    refine g_iload_n dX10_mean_6 rfl ?_
    refine g_if_eq (tgt := 12) dX10_mean_7 (by decide) (fun c7 => ?_) (fun c7 => ?_)
    · skip
      refine g_aload_n dX10_mean_12 rfl ?_
      refine t_getR dX10_mean_13 fl_X10_10 rfl (by decide) rfl (by decide) rfl ?_
      refine t_getR dX10_mean_16 fl_X10_86 rfl (by decide) rfl (by decide) rfl ?_
      refine g_iload_n dX10_mean_19 rfl ?_
      refine g_callVi dX10_mean_20 ln_X10_137 ⟨_, rfl⟩ rfl (by decide) ⟨_, _, rfl⟩ rfl (Nat.le_of_ble_eq_true rfl) (Nat.le_of_ble_eq_true rfl) (ct_of sz_rows) rfl (fun r20 m20 h20 => ?_)
      obtain ⟨rfl, rfl⟩ := h20
      rw [ofV_nI (by decide) hj, hs]
      refine g_istore_n dX10_mean_23 (by decide) ?_
      show Go _ _ _ _ _ _ [_, _, _, _] _ _ _
      refine g_iload_n dX10_mean_24 rfl ?_
      refine g_if_gt (tgt := 34) dX10_mean_25 (by decide) (fun c25 => ?_) (fun c25 => ?_)
      · skip
        refine g_aload_n dX10_mean_34 rfl ?_
        refine g_aload_n dX10_mean_35 rfl ?_
        refine t_getR dX10_mean_36 fl_X10_10 rfl (by decide) rfl (by decide) rfl ?_
        refine g_iload_n dX10_mean_39 rfl ?_
        refine g_callVl dX10_mean_40 ln_X10_140 rfl rfl (by decide) ⟨_, _, rfl⟩ rfl (Nat.le_of_ble_eq_true rfl) (Nat.le_of_ble_eq_true rfl) (ct_sum_R hj hs hc) rfl (fun r40 m40 h40 => ?_)
        obtain ⟨rfl, rfl⟩ := h40
        refine g_iload_n dX10_mean_43 rfl ?_
        refine g_i2l dX10_mean_44 ?_
        refine g_ldiv dX10_mean_45 (by rw [nI_l (by omega)]; exact lN_ne0 (by have := c25; rcases Nat.eq_zero_or_pos c with q | q; (subst q; exact absurd this (by decide)); exact q) (by omega)) ?_
        refine g_l2i dX10_mean_46 ?_
        refine t_putI dX10_mean_47 fl_X10_111 rfl (by decide) rfl (by decide) ?_
        refine g_iconst (v := 1) dX10_mean_50 (by decide) ?_
        refine g_iret dX10_mean_51 (fun ty h => by cases h; rfl) ?_
        have hc0 : ¬ c = 0 := fun q => by subst q; exact absurd c25 (by decide)
        have hS : S_mean rw fn tl (nI j) = (1, (sumL (rw.2 j) c / lN c).toInt32, fn) := by unfold S_mean; rw [look_nI (by decide) hj, htj]; simp only [if_neg hc0]
        rw [nI_l (by omega), sumL_congr hv]
        exact ⟨_, rfl, FrC.rf.up (by decide), by rw [hS], by rw [hS]; exact hA.told⟩
      · skip
        refine g_aload_n dX10_mean_28 rfl ?_
        refine g_iconst (v := 4) dX10_mean_29 (by decide) ?_
        refine g_callVi dX10_mean_30 ln_X10_96 ⟨_, rfl⟩ rfl (by decide) ⟨_, _, rfl⟩ rfl (Nat.le_of_ble_eq_true rfl) (Nat.le_of_ble_eq_true rfl) (ct_find (w := 4) (by decide)) rfl (fun r30 m30 h30 => ?_)
        obtain ⟨rfl, rfl⟩ := h30
        refine g_iret dX10_mean_33 (fun ty h => by cases h; rfl) ?_
        have hc0 : c = 0 := by
          rcases Nat.eq_zero_or_pos c with q | q
          · exact q
          · exact absurd (show (0 : Int32) < nI c from nI_lt q (by omega)) c25
        have hS : S_mean rw fn tl (nI j) = (-3, tl, fndS 4 fn) := by unfold S_mean; rw [look_nI (by decide) hj, htj]; simp only [if_pos hc0]
        exact ⟨_, rfl, FrC.find, by rw [hS], by rw [hS]; exact hA.find (by decide)⟩
    · exact absurd rfl c7
theorem pc_put {rw tx : Tab} {P : Pce} {ds : List Deed} {sh : Shf} {tl : Int32} {ch : Int64 × Int64} {fn : Fnd} {r i v : Int32} (hA : AbsC rw tx P ds sh tl ch fn I J) (hO : StOK rw tx P ds sh) : Ct X (d + 4) 66 M_X10_put 66 [.ref 0, .int r, .int i, .int v] (I, J, rf0) (RI (fun x m => ∃ I', m = (I', J, rf0) ∧ FrC I I' ∧ x = (S_put tx fn r i v).1 ∧ AbsC rw (S_put tx fn r i v).2.1 P ds sh tl ch (S_put tx fn r i v).2.2 I' J)) := by
  show Go _ _ _ _ _ _ [_, _, _, _, _, _] _ _ _
  refine g_aload_n dX10_put_0 rfl ?_
  refine g_iload_n dX10_put_1 rfl ?_
  refine g_callVi dX10_put_2 ln_X10_146 ⟨_, rfl⟩ rfl (by decide) ⟨_, _, rfl⟩ rfl (Nat.le_of_ble_eq_true rfl) (Nat.le_of_ble_eq_true rfl) (ct_ref_T hA.2.1 hO.2.1) rfl (fun r2 m2 h2 => ?_)
  rcases h2 with ⟨rfl, rfl, hb⟩ | ⟨j, hj, rfl, htj, rfl, rfl⟩ | ⟨j, c, hj, rfl, htj, rfl, rfl⟩
  · skip
    refine g_istore dX10_put_5 (by decide) ?_
    show Go _ _ _ _ _ _ [_, _, _, _, _, _] _ _ _
    refine g_iload dX10_put_7 rfl ?_
    refine g_if_eq (tgt := 15) dX10_put_9 (by decide) (fun c9 => ?_) (fun c9 => ?_)
    · exact absurd c9 (by decide)
    · skip
      refine g_iload dX10_put_12 rfl ?_
      refine g_iret dX10_put_14 (fun ty h => by cases h; rfl) ?_
      have hS : S_put tx fn r i v = (-1, tx, fn) := by unfold S_put; rw [look_bad hb]
      exact ⟨_, rfl, FrC.rf, by rw [hS], by rw [hS]; exact hA⟩
  · skip
    refine g_istore dX10_put_5 (by decide) ?_
    show Go _ _ _ _ _ _ [_, _, _, _, _, _] _ _ _
    refine g_iload dX10_put_7 rfl ?_
    refine g_if_eq (tgt := 15) dX10_put_9 (by decide) (fun c9 => ?_) (fun c9 => ?_)
    · exact absurd c9 (by decide)
    · skip
      refine g_iload dX10_put_12 rfl ?_
      refine g_iret dX10_put_14 (fun ty h => by cases h; rfl) ?_
      have hS : S_put tx fn (nI j) i v = (-3, tx, fndS 1 fn) := by unfold S_put; rw [look_nI (by decide) hj, htj]
      exact ⟨_, rfl, FrC.find, by rw [hS], by rw [hS]; exact hA.find (by decide)⟩
  · skip
    have hc := hO.2.1 j hj c htj
    have hs : I 13 j = nI c := by have := (hA.2.1 j hj).1; rw [htj] at this; exact this
    refine g_istore dX10_put_5 (by decide) ?_
    show Go _ _ _ _ _ _ [_, _, _, _, _, _] _ _ _
    refine g_iload dX10_put_7 rfl ?_
    refine g_if_eq (tgt := 15) dX10_put_9 (by decide) (fun c9 => ?_) (fun c9 => ?_)
    · skip
      refine g_aload_n dX10_put_15 rfl ?_
      refine t_getR dX10_put_16 fl_X10_19 rfl (by decide) rfl (by decide) rfl ?_
      refine t_getR dX10_put_19 fl_X10_144 rfl (by decide) rfl (by decide) rfl ?_
      refine g_iload_n dX10_put_22 rfl ?_
      refine g_iload_n dX10_put_23 rfl ?_
      refine g_iconst (v := 1) dX10_put_24 (by decide) ?_
      refine g_callVi dX10_put_25 ln_X10_129 ⟨_, rfl⟩ rfl (by decide) ⟨_, _, rfl⟩ rfl (Nat.le_of_ble_eq_true rfl) (Nat.le_of_ble_eq_true rfl) (ct_holds sz_texts) rfl (fun r25 m25 h25 => ?_)
      obtain ⟨rfl, rfl⟩ := h25
      rw [inR_hld (by decide) hj hs (by omega)]
      refine g_if_ne (tgt := 37) dX10_put_28 (by decide) (fun c28 => ?_) (fun c28 => ?_)
      · skip
        have q1 := bI_ne c28
        obtain ⟨a, ha, rfl⟩ := inR_ix (by omega) q1
        have hv : I (15 + j) a = tx.2 j a := by have := (hA.2.1 j hj).2 c htj a ha; rwa [Nat.zero_add] at this
        refine g_aload_n dX10_put_37 rfl ?_
        refine t_getR dX10_put_38 fl_X10_19 rfl (by decide) rfl (by decide) rfl ?_
        refine g_iload_n dX10_put_41 rfl ?_
        refine g_iload_n dX10_put_42 rfl ?_
        refine g_callVi dX10_put_43 ln_X10_149 ⟨_, rfl⟩ rfl (by decide) ⟨_, _, rfl⟩ rfl (Nat.le_of_ble_eq_true rfl) (Nat.le_of_ble_eq_true rfl) (ct_get_T hj (by omega)) rfl (fun r43 m43 h43 => ?_)
        obtain ⟨rfl, rfl⟩ := h43
        refine g_istore dX10_put_46 (by decide) ?_
        show Go _ _ _ _ _ _ [_, _, _, _, _, _] _ _ _
        refine g_aload_n dX10_put_48 rfl ?_
        refine t_getR dX10_put_49 fl_X10_19 rfl (by decide) rfl (by decide) rfl ?_
        refine g_iload_n dX10_put_52 rfl ?_
        refine g_iload_n dX10_put_53 rfl ?_
        refine g_iload_n dX10_put_54 rfl ?_
        refine g_callVv dX10_put_55 ln_X10_150 rfl rfl (by decide) ⟨_, _, rfl⟩ rfl (Nat.le_of_ble_eq_true rfl) (Nat.le_of_ble_eq_true rfl) (ct_set_T hj hs hc ha) rfl (fun m55 h55 => ?_)
        subst h55
        refine g_iload dX10_put_58 rfl ?_
        refine g_sipush (v := 1000) dX10_put_60 (by decide) ?_
        refine g_iadd dX10_put_63 ?_
        refine g_iret dX10_put_64 (fun ty h => by cases h; rfl) ?_
        have hS : S_put tx fn (nI j) (nI a) v = (tx.2 j a + 1000, tabSet tx j a v.toInt8.toInt32, fn) := by unfold S_put; rw [look_nI (by decide) hj, htj]; simp only [q1, cl_nI (show a < 2 ^ 31 by omega)]; rfl
        exact ⟨_, rfl, FrC.rf.up (by omega), by rw [hS, hv], by rw [hS]; exact hA.upTx (Fr.rf.up (by simp; omega)) (TxC.set hA.2.1 hj)⟩
      · skip
        refine g_aload_n dX10_put_31 rfl ?_
        refine g_iconst (v := 2) dX10_put_32 (by decide) ?_
        refine g_callVi dX10_put_33 ln_X10_96 ⟨_, rfl⟩ rfl (by decide) ⟨_, _, rfl⟩ rfl (Nat.le_of_ble_eq_true rfl) (Nat.le_of_ble_eq_true rfl) (ct_find (w := 2) (by decide)) rfl (fun r33 m33 h33 => ?_)
        obtain ⟨rfl, rfl⟩ := h33
        refine g_iret dX10_put_36 (fun ty h => by cases h; rfl) ?_
        have hS : S_put tx fn (nI j) i v = (-3, tx, fndS 2 fn) := by unfold S_put; rw [look_nI (by decide) hj, htj]; simp only [bI_eq c28]; rfl
        exact ⟨_, rfl, FrC.find, by rw [hS], by rw [hS]; exact hA.find (by decide)⟩
    · exact absurd rfl c9
end
