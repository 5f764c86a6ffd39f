section
variable {X : Nat × (Nat → Int32)} {d : Nat} {I : Nat → Nat → Int32} {J : Nat → Nat → Int64}
theorem lc_gt {x y : Int64} (h : 0 < lg_cmp x y) : ¬ x ≤ y := Int64.not_le.mpr ((lg_cmp_gt x y).mp h)
theorem lc_le {x y : Int64} (h : ¬ 0 < lg_cmp x y) : x ≤ y := Int64.not_lt.mp (fun q => h ((lg_cmp_gt x y).mpr q))
/-- one of the three rows of sizes: object b, its array a of n places -/
def SzO (b a n : Nat) : Prop := shp b = (0, 7, 1) ∧ shp a = (1, 0, n) ∧ rf0 b 0 = some a ∧ b < 66 ∧ a < 66 ∧ n < 100
theorem sz_rows : SzO 2 3 6 := ⟨rfl, rfl, rfl, by decide, by decide, by decide⟩
theorem sz_texts : SzO 12 13 4 := ⟨rfl, rfl, rfl, by decide, by decide, by decide⟩
theorem sz_shelf : SzO 30 31 3 := ⟨rfl, rfl, rfl, by decide, by decide, by decide⟩
/-- a number of one of n things -/
def inR (k : Int32) (n : Nat) : Bool := decide (0 ≤ k ∧ k < nI n)
theorem inR_t {k : Int32} {n : Nat} (h0 : ¬ k < 0) (h1 : ¬ nI n ≤ k) : inR k n = true := decide_eq_true ⟨Int32.not_lt.mp h0, Int32.not_le.mp h1⟩
theorem inR_f0 {k : Int32} {n : Nat} (h0 : k < 0) : inR k n = false := decide_eq_false (fun q => absurd h0 (Int32.not_lt.mpr q.1))
theorem inR_f1 {k : Int32} {n : Nat} (h0 : nI n ≤ k) : inR k n = false := decide_eq_false (fun q => absurd q.2 (Int32.not_lt.mpr h0))
theorem inR_ix {k : Int32} {n : Nat} (hn : n < 2 ^ 31) (h : inR k n = true) : ∃ j, j < n ∧ k = nI j := ix_of hn (Int32.not_lt.mpr (of_decide_eq_true h).1) (of_decide_eq_true h).2
theorem inR_nI {j n : Nat} (hn : n < 2 ^ 31) (h : j < n) : inR (nI j) n = true := decide_eq_true ⟨nI_pos' (by omega), nI_lt h hn⟩
theorem inR_vp {k : Int32} {n : Nat} (hn : n < 2 ^ 31) (h : inR k n = true) : vp_in k n := by
  obtain ⟨j, hj, rfl⟩ := inR_ix hn h
  exact in_nI hj hn
def ofV (f : Nat → Int32) (n : Nat) (k : Int32) : Int32 := if inR k n then f k.toNatClampNeg else -1
def bec (I : Nat → Nat → Int32) (a n : Nat) (k s : Int32) : Nat → Nat → Int32 := if inR k n then upR I a (upd (I a) k.toNatClampNeg s) else I
/-- how many places below n have p -/
def cntP (p : Nat → Bool) (n : Nat) : Nat := foldN (fun i c => if p i then c + 1 else c) 0 n
theorem cntP_le (p : Nat → Bool) : ∀ n, cntP p n ≤ n
  | 0 => Nat.le_refl _
  | n + 1 => by
    have := cntP_le p n
    show (if p n then cntP p n + 1 else cntP p n) ≤ n + 1
    split <;> omega
theorem ct_isNumber {b a n : Nat} (hz : SzO b a n) {k : Int32} : Ct X d 66 M_X7_isNumber 66 [.ref b, .int k] (I, J, rf0) (RI (fun x m => x = bI (inR k n) ∧ m = (I, J, rf0))) := by
  show Go _ _ _ _ _ _ [_, _] _ _ _
  refine g_iload_n dX7_isNumber_0 rfl ?_
  refine g_if_lt (tgt := 17) dX7_isNumber_1 (by decide) (fun c1 => ?_) (fun c1 => ?_)
  · skip
    refine g_iconst (v := 0) dX7_isNumber_17 (by decide) ?_
    refine g_iret dX7_isNumber_18 (fun ty h => by cases h; rfl) ?_
    refine ⟨?_, rfl⟩
    first
      | rw [inR_t (by assumption) (by assumption)]; rfl
      | rw [inR_f0 (by assumption)]; rfl
      | rw [inR_f1 (by assumption)]; rfl
  · skip
    refine g_iload_n dX7_isNumber_4 rfl ?_
    refine g_aload_n dX7_isNumber_5 rfl ?_
    refine t_getR dX7_isNumber_6 fl_X7_13 hz.1 (by decide) rfl hz.2.2.2.1 hz.2.2.1 ?_
    refine t_alen dX7_isNumber_9 hz.2.1 hz.2.2.2.2.1 ?_
    refine g_icmp_ge (tgt := 17) dX7_isNumber_10 (by decide) (fun c10 => ?_) (fun c10 => ?_)
    · skip
      refine g_iconst (v := 0) dX7_isNumber_17 (by decide) ?_
      refine g_iret dX7_isNumber_18 (fun ty h => by cases h; rfl) ?_
      refine ⟨?_, rfl⟩
      first
        | rw [inR_t (by assumption) (by assumption)]; rfl
        | rw [inR_f0 (by assumption)]; rfl
        | rw [inR_f1 (by assumption)]; rfl
    · skip
      refine g_iconst (v := 1) dX7_isNumber_13 (by decide) ?_
      refine g_goto (tgt := 18) dX7_isNumber_14 (by decide) ?_
      refine g_iret dX7_isNumber_18 (fun ty h => by cases h; rfl) ?_
      refine ⟨?_, rfl⟩
      first
        | rw [inR_t (by assumption) (by assumption)]; rfl
        | rw [inR_f0 (by assumption)]; rfl
        | rw [inR_f1 (by assumption)]; rfl
theorem ct_of {b a n : Nat} (hz : SzO b a n) {k : Int32} : Ct X (d + 1) 66 M_X7_of 66 [.ref b, .int k] (I, J, rf0) (RI (fun x m => x = ofV (I a) n k ∧ m = (I, J, rf0))) := by
  show Go _ _ _ _ _ _ [_, _] _ _ _
  refine g_aload_n dX7_of_0 rfl ?_
  refine g_iload_n dX7_of_1 rfl ?_
  refine g_callVi dX7_of_2 ln_X7_29 ⟨_, rfl⟩ hz.1 hz.2.2.2.1 ⟨_, _, rfl⟩ rfl (Nat.le_of_ble_eq_true rfl) (Nat.le_of_ble_eq_true rfl) (ct_isNumber hz) rfl (fun r2 m2 h2 => ?_)
  obtain ⟨rfl, rfl⟩ := h2
  refine g_if_eq (tgt := 17) dX7_of_5 (by decide) (fun c5 => ?_) (fun c5 => ?_)
  · skip
    refine g_iconst (v := -1) dX7_of_17 (by decide) ?_
    refine g_iret dX7_of_18 (fun ty h => by cases h; rfl) ?_
    refine ⟨?_, rfl⟩
    unfold ofV
    first
      | (rw [bI_ne c5]; rfl)
      | (rw [bI_eq c5]; rfl)
  · skip
    refine g_aload_n dX7_of_8 rfl ?_
    refine t_getR dX7_of_9 fl_X7_13 hz.1 (by decide) rfl hz.2.2.2.1 hz.2.2.1 ?_
    refine g_iload_n dX7_of_12 rfl ?_
    refine t_iald dX7_of_13 hz.2.1 hz.2.2.2.2.1 (inR_vp (by have := hz.2.2.2.2.2; omega) (bI_ne c5)) ?_
    refine g_goto (tgt := 18) dX7_of_14 (by decide) ?_
    refine g_iret dX7_of_18 (fun ty h => by cases h; rfl) ?_
    refine ⟨?_, rfl⟩
    unfold ofV
    first
      | (rw [bI_ne c5]; rfl)
      | (rw [bI_eq c5]; rfl)
theorem ct_isThere {b a n : Nat} (hz : SzO b a n) {k : Int32} : Ct X (d + 2) 66 M_X7_isThere 66 [.ref b, .int k] (I, J, rf0) (RI (fun x m => x = bI (decide (¬ ofV (I a) n k = -1)) ∧ m = (I, J, rf0))) := by
  show Go _ _ _ _ _ _ [_, _] _ _ _
  refine g_aload_n dX7_isThere_0 rfl ?_
  refine g_iload_n dX7_isThere_1 rfl ?_
  refine g_callVi dX7_isThere_2 ln_X7_25 ⟨_, rfl⟩ hz.1 hz.2.2.2.1 ⟨_, _, rfl⟩ rfl (Nat.le_of_ble_eq_true rfl) (Nat.le_of_ble_eq_true rfl) (ct_of hz) rfl (fun r2 m2 h2 => ?_)
  obtain ⟨rfl, rfl⟩ := h2
  refine g_iconst (v := -1) dX7_isThere_5 (by decide) ?_
  refine g_icmp_eq (tgt := 13) dX7_isThere_6 (by decide) (fun c6 => ?_) (fun c6 => ?_)
  · skip
    refine g_iconst (v := 0) dX7_isThere_13 (by decide) ?_
    refine g_iret dX7_isThere_14 (fun ty h => by cases h; rfl) ?_
    refine ⟨?_, rfl⟩
    first
      | rw [decide_eq_true (by assumption)]; rfl
      | rw [decide_eq_false (not_not_intro (by assumption))]; rfl
  · skip
    refine g_iconst (v := 1) dX7_isThere_9 (by decide) ?_
    refine g_goto (tgt := 14) dX7_isThere_10 (by decide) ?_
    refine g_iret dX7_isThere_14 (fun ty h => by cases h; rfl) ?_
    refine ⟨?_, rfl⟩
    first
      | rw [decide_eq_true (by assumption)]; rfl
      | rw [decide_eq_false (not_not_intro (by assumption))]; rfl
def hldB (f : Nat → Int32) (n : Nat) (k i c : Int32) : Bool := decide (0 ≤ i ∧ 0 ≤ c ∧ i.toInt64 + c.toInt64 ≤ (ofV f n k).toInt64)
theorem ct_holds {b a n : Nat} (hz : SzO b a n) {k i c : Int32} : Ct X (d + 2) 66 M_X7_holds 66 [.ref b, .int k, .int i, .int c] (I, J, rf0) (RI (fun x m => x = bI (hldB (I a) n k i c) ∧ m = (I, J, rf0))) := by
  show Go _ _ _ _ _ _ [_, _, _, _] _ _ _
  refine g_iload_n dX7_holds_0 rfl ?_
  refine g_if_lt (tgt := 27) dX7_holds_1 (by decide) (fun c1 => ?_) (fun c1 => ?_)
  · skip
    refine g_iconst (v := 0) dX7_holds_27 (by decide) ?_
    refine g_iret dX7_holds_28 (fun ty h => by cases h; rfl) ?_
    refine ⟨?_, rfl⟩
    unfold hldB
    first
      | (rw [decide_eq_false (fun q => absurd q.1 (Int32.not_le.mpr c1))]; rfl)
      | (rw [decide_eq_false (fun q => absurd q.2.1 (Int32.not_le.mpr c5))]; rfl)
      | (rw [decide_eq_false (fun q => absurd q.2.2 (lc_gt c20))]; rfl)
      | (rw [decide_eq_true ⟨Int32.not_lt.mp c1, Int32.not_lt.mp c5, lc_le c20⟩]; rfl)
  · skip
    refine g_iload_n dX7_holds_4 rfl ?_
    refine g_if_lt (tgt := 27) dX7_holds_5 (by decide) (fun c5 => ?_) (fun c5 => ?_)
    · skip
      refine g_iconst (v := 0) dX7_holds_27 (by decide) ?_
      refine g_iret dX7_holds_28 (fun ty h => by cases h; rfl) ?_
      refine ⟨?_, rfl⟩
      unfold hldB
      first
        | (rw [decide_eq_false (fun q => absurd q.1 (Int32.not_le.mpr c1))]; rfl)
        | (rw [decide_eq_false (fun q => absurd q.2.1 (Int32.not_le.mpr c5))]; rfl)
        | (rw [decide_eq_false (fun q => absurd q.2.2 (lc_gt c20))]; rfl)
        | (rw [decide_eq_true ⟨Int32.not_lt.mp c1, Int32.not_lt.mp c5, lc_le c20⟩]; rfl)
    · skip
      refine g_iload_n dX7_holds_8 rfl ?_
      refine g_i2l dX7_holds_9 ?_
      refine g_iload_n dX7_holds_10 rfl ?_
      refine g_i2l dX7_holds_11 ?_
      refine g_ladd dX7_holds_12 ?_
      refine g_aload_n dX7_holds_13 rfl ?_
      refine g_iload_n dX7_holds_14 rfl ?_
      refine g_callVi dX7_holds_15 ln_X7_25 ⟨_, rfl⟩ hz.1 hz.2.2.2.1 ⟨_, _, rfl⟩ rfl (Nat.le_of_ble_eq_true rfl) (Nat.le_of_ble_eq_true rfl) (ct_of hz) rfl (fun r15 m15 h15 => ?_)
      obtain ⟨rfl, rfl⟩ := h15
      refine g_i2l dX7_holds_18 ?_
      refine g_lcmp dX7_holds_19 ?_
      refine g_if_gt (tgt := 27) dX7_holds_20 (by decide) (fun c20 => ?_) (fun c20 => ?_)
      · skip
        refine g_iconst (v := 0) dX7_holds_27 (by decide) ?_
        refine g_iret dX7_holds_28 (fun ty h => by cases h; rfl) ?_
        refine ⟨?_, rfl⟩
        unfold hldB
        first
          | (rw [decide_eq_false (fun q => absurd q.1 (Int32.not_le.mpr c1))]; rfl)
          | (rw [decide_eq_false (fun q => absurd q.2.1 (Int32.not_le.mpr c5))]; rfl)
          | (rw [decide_eq_false (fun q => absurd q.2.2 (lc_gt c20))]; rfl)
          | (rw [decide_eq_true ⟨Int32.not_lt.mp c1, Int32.not_lt.mp c5, lc_le c20⟩]; rfl)
      · skip
        refine g_iconst (v := 1) dX7_holds_23 (by decide) ?_
        refine g_goto (tgt := 28) dX7_holds_24 (by decide) ?_
        refine g_iret dX7_holds_28 (fun ty h => by cases h; rfl) ?_
        refine ⟨?_, rfl⟩
        unfold hldB
        first
          | (rw [decide_eq_false (fun q => absurd q.1 (Int32.not_le.mpr c1))]; rfl)
          | (rw [decide_eq_false (fun q => absurd q.2.1 (Int32.not_le.mpr c5))]; rfl)
          | (rw [decide_eq_false (fun q => absurd q.2.2 (lc_gt c20))]; rfl)
          | (rw [decide_eq_true ⟨Int32.not_lt.mp c1, Int32.not_lt.mp c5, lc_le c20⟩]; rfl)
theorem ct_become {b a n : Nat} (hz : SzO b a n) {k v : Int32} : Ct X (d + 1) 66 M_X7_become 66 [.ref b, .int k, .int v] (I, J, rf0) (RV (fun m => m = (bec I a n k v, J, rf0))) := by
  show Go _ _ _ _ _ _ [_, _, _] _ _ _
  refine g_aload_n dX7_become_0 rfl ?_
  refine g_iload_n dX7_become_1 rfl ?_
  refine g_callVi dX7_become_2 ln_X7_29 ⟨_, rfl⟩ hz.1 hz.2.2.2.1 ⟨_, _, rfl⟩ rfl (Nat.le_of_ble_eq_true rfl) (Nat.le_of_ble_eq_true rfl) (ct_isNumber hz) rfl (fun r2 m2 h2 => ?_)
  obtain ⟨rfl, rfl⟩ := h2
  refine g_if_eq (tgt := 15) dX7_become_5 (by decide) (fun c5 => ?_) (fun c5 => ?_)
  · skip
    refine g_vret dX7_become_15 ?_
    unfold bec
    first
      | (rw [bI_ne c5]; rfl)
      | (rw [bI_eq c5]; rfl)
  · skip
    refine g_aload_n dX7_become_8 rfl ?_
    refine t_getR dX7_become_9 fl_X7_13 hz.1 (by decide) rfl hz.2.2.2.1 hz.2.2.1 ?_
    refine g_iload_n dX7_become_12 rfl ?_
    refine g_iload_n dX7_become_13 rfl ?_
    refine t_iast dX7_become_14 hz.2.1 hz.2.2.2.2.1 (inR_vp (by have := hz.2.2.2.2.2; omega) (bI_ne c5)) ?_
    refine g_vret dX7_become_15 ?_
    unfold bec
    first
      | (rw [bI_ne c5]; rfl)
      | (rw [bI_eq c5]; rfl)
theorem ct_drop {b a n : Nat} (hz : SzO b a n) {k : Int32} : Ct X (d + 2) 66 M_X7_drop 66 [.ref b, .int k] (I, J, rf0) (RV (fun m => m = (bec I a n k (-1), J, rf0))) := by
  show Go _ _ _ _ _ _ [_, _] _ _ _
  refine g_aload_n dX7_drop_0 rfl ?_
  refine g_iload_n dX7_drop_1 rfl ?_
  refine g_iconst (v := -1) dX7_drop_2 (by decide) ?_
  refine g_callVv dX7_drop_3 ln_X7_33 rfl hz.1 hz.2.2.2.1 ⟨_, _, rfl⟩ rfl (Nat.le_of_ble_eq_true rfl) (Nat.le_of_ble_eq_true rfl) (ct_become hz) rfl (fun m3 h3 => ?_)
  subst h3
  refine g_vret dX7_drop_6 ?_
  rfl
theorem ct_dropAll {b a n : Nat} (hz : SzO b a n) : Ct X (d + 1) 66 M_X7_dropAll 66 [.ref b] (I, J, rf0) (RV (fun m => ∃ g, m = (upR I a g, J, rf0) ∧ ∀ j, j < n → g j = -1)) := by
  show Go _ _ _ _ _ _ [_] _ _ _
  refine g_aload_n dX7_dropAll_0 rfl ?_
  refine t_getR dX7_dropAll_1 fl_X7_13 hz.1 (by decide) rfl hz.2.2.2.1 hz.2.2.1 ?_
  refine g_iconst (v := -1) dX7_dropAll_4 (by decide) ?_
  refine g_callSv dX7_dropAll_5 ln_X7_19 rfl rfl (Nat.le_of_ble_eq_true rfl) (Nat.le_of_ble_eq_true rfl) (ct_fill0 hz.2.1 hz.2.2.2.2.1 (by have := hz.2.2.2.2.2; omega)) rfl (fun m5 h5 => ?_)
  obtain ⟨g, rfl, hg, -⟩ := h5
  refine g_vret dX7_dropAll_8 ?_
  exact ⟨g, rfl, hg⟩
end
