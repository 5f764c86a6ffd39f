section
variable {X : Nat × (Nat → Int32)} {d : Nat} {I : Nat → Nat → Int32} {J : Nat → Nat → Int64}
/-! ===== the abstract state, its views on the class's cells and on the model's ===== -/
def szI (o : Option Nat) : Int32 := match o with
  | none => -1
  | some n => nI n
theorem szI_ne {c : Nat} (h : c < 2 ^ 31) : ¬ szI (some c) = -1 := by
  intro q
  have h1 : (nI c).toInt = (-1 : Int32).toInt := congrArg Int32.toInt q
  rw [nI_toInt h] at h1
  have h2 : (-1 : Int32).toInt = -1 := by decide
  omega
theorem ofV_nI {f : Nat → Int32} {n j : Nat} (hn : n < 2 ^ 31) (h : j < n) : ofV f n (nI j) = f j := by
  unfold ofV
  rw [inR_nI hn h, cl_nI (by omega)]
  rfl
theorem bec_nI {n a j : Nat} {s : Int32} (hn : n < 2 ^ 31) (h : j < n) : bec I a n (nI j) s = upR I a (upd (I a) j s) := by
  unfold bec
  rw [inR_nI hn h, cl_nI (by omega)]
  rfl
theorem hld_iff {f : Nat → Int32} {n : Nat} {k i c : Int32} : hldB f n k i c = true ↔ 0 ≤ i.toInt ∧ 0 ≤ c.toInt ∧ i.toInt + c.toInt ≤ (ofV f n k).toInt := by
  unfold hldB
  rw [decide_eq_true_iff, Int32.le_iff_toInt_le, Int32.le_iff_toInt_le, Int64.le_iff_toInt_le, Int64.toInt_add, Int32.toInt_toInt64, Int32.toInt_toInt64, Int32.toInt_toInt64]
  have a1 := Int32.le_toInt i
  have a2 := Int32.toInt_lt i
  have b1 := Int32.le_toInt c
  have b2 := Int32.toInt_lt c
  have e : (i.toInt + c.toInt).bmod (2 ^ 64) = i.toInt + c.toInt := by
    apply Int.bmod_eq_of_le <;> omega
  rw [e]
  have z : (0 : Int32).toInt = 0 := by decide
  rw [z]
theorem hld_nI {f : Nat → Int32} {n j s i c : Nat} (hn : n < 2 ^ 31) (h : j < n) (hs : f j = nI s) (hs2 : s < 2 ^ 31) (hi : i + c ≤ s) : hldB f n (nI j) (nI i) (nI c) = true := by
  rw [hld_iff, ofV_nI hn h, hs, nI_toInt hs2, nI_toInt (by omega), nI_toInt (by omega)]
  omega
theorem hld_get {f : Nat → Int32} {n j s : Nat} {i c : Int32} (hn : n < 2 ^ 31) (h : j < n) (hs : f j = nI s) (hs2 : s < 2 ^ 31) (hh : hldB f n (nI j) i c = true) : ∃ a b, i = nI a ∧ c = nI b ∧ a + b ≤ s := by
  rw [hld_iff, ofV_nI hn h, hs, nI_toInt hs2] at hh
  obtain ⟨a, ha, rfl⟩ := nI_of (x := i) (by rw [Int32.lt_iff_toInt_lt]; have z : (0 : Int32).toInt = 0 := by decide
                                            rw [z]; omega)
  obtain ⟨b, hb, rfl⟩ := nI_of (x := c) (by rw [Int32.lt_iff_toInt_lt]; have z : (0 : Int32).toInt = 0 := by decide
                                            rw [z]; omega)
  rw [nI_toInt ha, nI_toInt hb] at hh
  exact ⟨a, b, rfl, rfl, by omega⟩
abbrev Tab : Type := (Nat → Option Nat) × (Nat → Nat → Int32)
def TabOK (n mx : Nat) (t : Tab) : Prop := ∀ r, r < n → ∀ c, t.1 r = some c → c ≤ mx
/-- a table of rows: sizes at the cell s, contents at cell q r, from place o r on -/
def TabV (n s : Nat) (q o : Nat → Nat) (t : Tab) (I : Nat → Nat → Int32) : Prop := ∀ r, r < n → I s r = szI (t.1 r) ∧ ∀ c, t.1 r = some c → ∀ i, i < c → I (q r) (o r + i) = t.2 r i
abbrev RwC : Tab → (Nat → Nat → Int32) → Prop := TabV 6 3 (fun r => 5 + r) (fun _ => 0)
abbrev TxC : Tab → (Nat → Nat → Int32) → Prop := TabV 4 13 (fun r => 15 + r) (fun _ => 0)
abbrev RwM : Tab → (Nat → Nat → Int32) → Prop := TabV 6 49 (fun _ => 50) (fun r => 40 * r)
abbrev TxM : Tab → (Nat → Nat → Int32) → Prop := TabV 4 51 (fun _ => 52) (fun r => 80 * r)
/-- a row anew, all places v -/
def tabNew (t : Tab) (r n : Nat) (v : Int32) : Tab := (upR t.1 r (some n), upR t.2 r (fun _ => v))
def tabSet (t : Tab) (r i : Nat) (v : Int32) : Tab := (t.1, upR t.2 r (upd (t.2 r) i v))
def tabDrop (t : Tab) (r : Nat) : Tab := (upR t.1 r none, t.2)
abbrev Fnd : Type := Int32 × (Nat → Int32)
def FnC (f : Fnd) (I : Nat → Nat → Int32) : Prop := I 0 11 = f.1 ∧ ∀ j, j < 6 → I 47 j = f.2 j
def FnM (f : Fnd) (I : Nat → Nat → Int32) : Prop := I 48 23 = f.1 ∧ ∀ j, j < 6 → I 62 j = f.2 j
def fndS (w : Nat) (f : Fnd) : Fnd := (nI w, upd f.2 w (f.2 w + 1))
theorem shp_row {j : Nat} (h : j < 6) : shp (5 + j) = (1, 0, 40) := by
  match j, h with
  | 0, _ => rfl
  | 1, _ => rfl
  | 2, _ => rfl
  | 3, _ => rfl
  | 4, _ => rfl
  | 5, _ => rfl
theorem shp_txt {j : Nat} (h : j < 4) : shp (15 + j) = (1, 1, 80) := by
  match j, h with
  | 0, _ => rfl
  | 1, _ => rfl
  | 2, _ => rfl
  | 3, _ => rfl
theorem shp_kept {j : Nat} (h : j < 3) : shp (33 + j) = (1, 0, 40) := by
  match j, h with
  | 0, _ => rfl
  | 1, _ => rfl
  | 2, _ => rfl
theorem rf_row {j : Nat} (h : j < 6) : rf0 4 (nI j).toNatClampNeg = some (5 + j) := by rw [cl_nI (by omega)]; exact if_pos h
theorem rf_txt {j : Nat} (h : j < 4) : rf0 14 (nI j).toNatClampNeg = some (15 + j) := by rw [cl_nI (by omega)]; exact if_pos h
theorem rf_kept {j : Nat} (h : j < 3) : rf0 32 (nI j).toNatClampNeg = some (33 + j) := by rw [cl_nI (by omega)]; exact if_pos h
/-- nothing changes but the cells listed -/
def Fr (l : List Nat) (I I' : Nat → Nat → Int32) : Prop := ∀ k, k ∉ l → I' k = I k
theorem Fr.rf {l : List Nat} : Fr l I I := fun _ _ => rfl
theorem Fr.up {l : List Nat} {I' : Nat → Nat → Int32} {k : Nat} {g : Nat → Int32} (h : Fr l I I') (hk : k ∈ l) : Fr l I (upR I' k g) := fun a ha => (upR_n (k := k) (a := a) (fun e => ha (by rw [e]; exact hk))).trans (h a ha)
theorem Fr.mono {l l' : List Nat} {I' : Nat → Nat → Int32} (h : Fr l I I') (hl : ∀ k ∈ l, k ∈ l') : Fr l' I I' := fun k hk => h k (fun q => hk (hl k q))
theorem Fr.trans {l : List Nat} {I' I'' : Nat → Nat → Int32} (h : Fr l I I') (h2 : Fr l I' I'') : Fr l I I'' := fun k hk => (h2 k hk).trans (h k hk)
theorem TabV.keep {n s : Nat} {q o : Nat → Nat} {t : Tab} {I' : Nat → Nat → Int32} (h : TabV n s q o t I) (h1 : I' s = I s) (h2 : ∀ r, r < n → I' (q r) = I (q r)) : TabV n s q o t I' := fun r hr => ⟨by rw [h1]; exact (h r hr).1, fun c hc i hi => by rw [h2 r hr]; exact (h r hr).2 c hc i hi⟩

theorem ct_countThere {b a n : Nat} (hz : SzO b a n) : Ct X d 66 M_X7_countThere 66 [.ref b] (I, J, rf0) (RI (fun x m => x = nI (cntP (fun j => decide (¬ I a j = -1)) n) ∧ m = (I, J, rf0))) := by
  have hn : n < 2 ^ 31 := by have := hz.2.2.2.2.2; omega
  show Go _ _ _ _ _ _ [_, _, _, _, _, _] _ _ _
  refine g_iconst (v := 0) dX7_countThere_0 (by decide) ?_
  refine g_istore_n dX7_countThere_1 (by decide) ?_
  show Go _ _ _ _ _ _ [_, _, _, _, _, _] _ _ _
  refine g_aload_n dX7_countThere_2 rfl ?_
  refine t_getR dX7_countThere_3 fl_X7_13 hz.1 (by decide) rfl hz.2.2.2.1 hz.2.2.1 ?_
  refine g_astore_n dX7_countThere_6 (by decide) ?_
  show Go _ _ _ _ _ _ [_, _, _, _, _, _] _ _ _
  refine g_aload_n dX7_countThere_7 rfl ?_
  refine t_alen dX7_countThere_8 hz.2.1 hz.2.2.2.2.1 ?_
  refine g_istore_n dX7_countThere_9 (by decide) ?_
  show Go _ _ _ _ _ _ [_, _, _, _, _, _] _ _ _
  refine g_iconst (v := 0) dX7_countThere_10 (by decide) ?_
  refine g_istore dX7_countThere_11 (by decide) ?_
  show Go _ _ _ _ _ _ [_, _, _, _, _, _] _ _ _
  refine go_for (fun (i : Nat) (c : Nat) => if decide (¬ I a i = -1) then c + 1 else c) 0 n (fun i c => Go X d 66 M_X7_countThere 66 13 [.ref b, .int (nI c), .ref a, .int (nI n), .int (nI i), .null] [] (I, J, rf0) (RI (fun x m => x = nI (cntP (fun j => decide (¬ I a j = -1)) n) ∧ m = (I, J, rf0)))) (fun i hi kk => ?_) ?_
  · skip
    refine g_iload dX7_countThere_13 rfl ?_
    refine g_iload_n dX7_countThere_15 rfl ?_
    refine g_icmp_ge (tgt := 40) dX7_countThere_16 (by decide) (fun c16 => ?_) (fun c16 => ?_)
    · exact absurd (nI_lt hi hn) (Int32.not_lt.mpr c16)
    · skip
      refine g_aload_n dX7_countThere_19 rfl ?_
      refine g_iload dX7_countThere_20 rfl ?_
      refine t_iald dX7_countThere_22 hz.2.1 hz.2.2.2.2.1 (in_nI hi hn) ?_
      refine g_istore dX7_countThere_23 (by decide) ?_
      show Go _ _ _ _ _ _ [_, _, _, _, _, _] _ _ _
      refine g_iload dX7_countThere_25 rfl ?_
      refine g_iconst (v := -1) dX7_countThere_27 (by decide) ?_
      refine g_icmp_eq (tgt := 34) dX7_countThere_28 (by decide) (fun c28 => ?_) (fun c28 => ?_)
      · skip
        refine g_iinc dX7_countThere_34 rfl (by decide) ?_
        show Go _ _ _ _ _ _ [_, _, _, _, _, _] _ _ _
        refine g_goto (tgt := 13) dX7_countThere_37 (by decide) ?_
        refine g_forget 5 ?_
        show Go _ _ _ _ _ _ [_, _, _, _, _, _] _ _ _
        rw [cl_nI (by omega)] at c28
        try rw [nI_inc]
        try rw [nI_inc]
        have e9 : foldN (fun (i : Nat) (c : Nat) => if decide (¬ I a i = -1) then c + 1 else c) 0 (i + 1) = if decide (¬ I a i = -1) then foldN (fun (i : Nat) (c : Nat) => if decide (¬ I a i = -1) then c + 1 else c) 0 i + 1 else foldN (fun (i : Nat) (c : Nat) => if decide (¬ I a i = -1) then c + 1 else c) 0 i := rfl
        first
          | (rw [decide_eq_true c28] at e9; rw [e9] at kk; exact kk)
          | (rw [decide_eq_false (not_not_intro c28)] at e9; rw [e9] at kk; exact kk)
      · skip
        refine g_iinc dX7_countThere_31 rfl (by decide) ?_
        show Go _ _ _ _ _ _ [_, _, _, _, _, _] _ _ _
        refine g_iinc dX7_countThere_34 rfl (by decide) ?_
        show Go _ _ _ _ _ _ [_, _, _, _, _, _] _ _ _
        refine g_goto (tgt := 13) dX7_countThere_37 (by decide) ?_
        refine g_forget 5 ?_
        show Go _ _ _ _ _ _ [_, _, _, _, _, _] _ _ _
        rw [cl_nI (by omega)] at c28
        try rw [nI_inc]
        try rw [nI_inc]
        have e9 : foldN (fun (i : Nat) (c : Nat) => if decide (¬ I a i = -1) then c + 1 else c) 0 (i + 1) = if decide (¬ I a i = -1) then foldN (fun (i : Nat) (c : Nat) => if decide (¬ I a i = -1) then c + 1 else c) 0 i + 1 else foldN (fun (i : Nat) (c : Nat) => if decide (¬ I a i = -1) then c + 1 else c) 0 i := rfl
        first
          | (rw [decide_eq_true c28] at e9; rw [e9] at kk; exact kk)
          | (rw [decide_eq_false (not_not_intro c28)] at e9; rw [e9] at kk; exact kk)
  · skip
    refine g_iload dX7_countThere_13 rfl ?_
    refine g_iload_n dX7_countThere_15 rfl ?_
    refine g_icmp_ge (tgt := 40) dX7_countThere_16 (by decide) (fun c16 => ?_) (fun c16 => ?_)
    · skip
      refine g_iload_n dX7_countThere_40 rfl ?_
      refine g_iret dX7_countThere_41 (fun ty h => by cases h; rfl) ?_
      exact ⟨rfl, rfl⟩
    · exact absurd (Int32.le_refl _) c16
end
