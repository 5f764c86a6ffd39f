/-! the memory picture: cells by number; ints, longs and references by cell and slot -/
abbrev Mth : Type := MethodName × ByteArray × Nat × Option FieldType
abbrev Mem : Type := (Nat → Nat → Int32) × (Nat → Nat → Int64) × (Nat → Nat → Option Nat)
def cv (α : Nat → Nat) (v : Value) : Value := match v with
  | .ref k => .ref (α k)
  | u => u
def upR {β : Type} (f : Nat → β) (k : Nat) (g : β) : Nat → β := fun a => if a = k then g else f a
theorem upR_s {β : Type} {f : Nat → β} {k : Nat} {g : β} : upR f k g k = g := if_pos rfl
theorem upR_n {β : Type} {f : Nat → β} {k a : Nat} {g : β} (h : a ≠ k) : upR f k g a = f a := if_neg h
/-- the shape of each cell: (0, class, fields) or (1, element type, length) -/
def shp (k : Nat) : Nat × Nat × Nat := match k with
  | 0 => (0, 10, 14)
  | 1 => (0, 5, 2)
  | 2 => (0, 7, 1)
  | 3 => (1, 0, 6)
  | 4 => (1, 3, 6)
  | 5 => (1, 0, 40)
  | 6 => (1, 0, 40)
  | 7 => (1, 0, 40)
  | 8 => (1, 0, 40)
  | 9 => (1, 0, 40)
  | 10 => (1, 0, 40)
  | 11 => (0, 9, 2)
  | 12 => (0, 7, 1)
  | 13 => (1, 0, 4)
  | 14 => (1, 4, 4)
  | 15 => (1, 1, 80)
  | 16 => (1, 1, 80)
  | 17 => (1, 1, 80)
  | 18 => (1, 1, 80)
  | 19 => (0, 4, 8)
  | 20 => (1, 0, 14)
  | 21 => (1, 0, 56)
  | 22 => (0, 3, 4)
  | 23 => (1, 0, 14)
  | 24 => (1, 0, 56)
  | 25 => (0, 1, 7)
  | 26 => (1, 0, 14)
  | 27 => (1, 0, 40)
  | 28 => (1, 0, 4)
  | 29 => (0, 6, 2)
  | 30 => (0, 7, 1)
  | 31 => (1, 0, 3)
  | 32 => (1, 3, 3)
  | 33 => (1, 0, 40)
  | 34 => (1, 0, 40)
  | 35 => (1, 0, 40)
  | 36 => (0, 0, 12)
  | 37 => (1, 0, 4)
  | 38 => (1, 0, 20)
  | 39 => (1, 0, 4)
  | 40 => (0, 8, 3)
  | 41 => (1, 0, 4)
  | 42 => (1, 0, 8)
  | 43 => (0, 2, 4)
  | 44 => (1, 0, 4)
  | 45 => (1, 0, 4)
  | 46 => (1, 0, 4)
  | 47 => (1, 0, 6)
  | 48 => (0, 11, 28)
  | 49 => (1, 0, 6)
  | 50 => (1, 0, 240)
  | 51 => (1, 0, 4)
  | 52 => (1, 1, 320)
  | 53 => (1, 0, 40)
  | 54 => (1, 0, 14)
  | 55 => (1, 0, 56)
  | 56 => (1, 0, 14)
  | 57 => (1, 0, 56)
  | 58 => (1, 0, 4)
  | 59 => (1, 0, 480)
  | 60 => (1, 0, 4)
  | 61 => (1, 0, 40)
  | 62 => (1, 0, 6)
  | 63 => (1, 0, 4)
  | 64 => (1, 0, 4)
  | 65 => (1, 2, 5)
  | _ => (1, 0, 0)
def ks : Nat → Nat
  | 0 => 0
  | n + 1 => ks n + (shp n).2.2
theorem ks_le {a b : Nat} (h : a ≤ b) : ks a ≤ ks b := by
  induction b with
  | zero => have : a = 0 := by omega
            subst this; exact Nat.le_refl _
  | succ n ih =>
    rcases Nat.lt_or_ge n a with q | q
    · have : a = n + 1 := by omega
      subst this; exact Nat.le_refl _
    · exact Nat.le_trans (ih q) (Nat.le_add_right _ _)
def tyOf (ci : Nat) : Nat → FieldType := match ci with
  | 0 => tyX0
  | 1 => tyX1
  | 2 => tyX2
  | 3 => tyX3
  | 4 => tyX4
  | 5 => tyX5
  | 6 => tyX6
  | 7 => tyX7
  | 8 => tyX8
  | 9 => tyX9
  | 10 => tyX10
  | _ => tyX11
def fval (α : Nat → Nat) (μ : Mem) (ci k j : Nat) : Value := match tyOf ci j with
  | .int => .int (μ.1 k j)
  | .long => .long (μ.2.1 k j)
  | _ => va_rf ((μ.2.2 k j).map α)
def arrE (α : Nat → Nat) (μ : Mem) (k t : Nat) : (Nat → Int32) ⊕ (Nat → Int64) ⊕ (Nat → UInt32) ⊕ (Nat → UInt64) ⊕ (Nat → Option Nat) := match t with
  | 0 => .inl (μ.1 k)
  | 1 => .inl (μ.1 k)
  | 2 => .inr (.inl (μ.2.1 k))
  | _ => .inr (.inr (.inr (.inr (fun j => (μ.2.2 k j).map α))))
def arrT (t : Nat) : FieldType := match t with
  | 0 => .int
  | 1 => .byte
  | 2 => .long
  | 3 => .array .int
  | _ => .array .byte
def cellE (cA : Nat → ClassId) (α : Nat → Nat) (μ : Mem) (k : Nat) : va_E := if (shp k).1 = 0 then .inr ((shp k).2.1, (List.range (shp k).2.2).map (fval α μ (shp k).2.1 k)) else .inl (cA (shp k).2.1, (shp k).2.2, arrE α μ k (shp k).2.1)
def wl (cA : Nat → ClassId) (N : Nat) (α : Nat → Nat) (μ : Mem) : va_W := (List.range N).map (fun k => (α k, cellE cA α μ k))
theorem wl_get {cA : Nat → ClassId} {N : Nat} {α : Nat → Nat} {μ : Mem} {k : Nat} (h : k < N) : (wl cA N α μ)[k]? = some (α k, cellE cA α μ k) := by simp [wl, h]
theorem wl_inv {cA : Nat → ClassId} {N : Nat} {α : Nat → Nat} {μ : Mem} {k : Nat} {q : Nat × va_E} (h : (wl cA N α μ)[k]? = some q) : k < N ∧ q = (α k, cellE cA α μ k) := by
  have hk : k < N := by
    have := (List.getElem?_eq_some_iff.mp h).1
    simpa [wl] using this
  exact ⟨hk, Option.some.inj (h.symm.trans (wl_get hk))⟩
theorem cell_o {cA : Nat → ClassId} {α : Nat → Nat} {μ : Mem} {k ci n : Nat} (hs : shp k = (0, ci, n)) : cellE cA α μ k = .inr (ci, (List.range n).map (fval α μ ci k)) := by simp [cellE, hs]
theorem cell_a {cA : Nat → ClassId} {α : Nat → Nat} {μ : Mem} {k t n : Nat} (hs : shp k = (1, t, n)) : cellE cA α μ k = .inl (cA t, n, arrE α μ k t) := by simp [cellE, hs]
theorem wl_set {cA : Nat → ClassId} {N : Nat} {α : Nat → Nat} {μ μ' : Mem} {k : Nat} {e' : va_E} (hk : k < N) (h : cellE cA α μ' k = e') (ho : ∀ a, a ≠ k → cellE cA α μ' a = cellE cA α μ a) : (wl cA N α μ).set k (α k, e') = wl cA N α μ' := by
  apply List.ext_getElem?
  intro i
  by_cases hi : i = k
  · subst hi
    rw [wl_get hk, h, List.getElem?_set_self (by simpa [wl] using hk)]
  · rw [List.getElem?_set_ne (fun q => hi q.symm)]
    by_cases hN : i < N
    · rw [wl_get hN, wl_get hN, ho i hi]
    · have e1 : N ≤ i := Nat.le_of_not_lt hN
      rw [List.getElem?_eq_none (by simpa [wl] using e1), List.getElem?_eq_none (by simpa [wl] using e1)]
theorem cell_n1 {cA : Nat → ClassId} {α : Nat → Nat} {μ : Mem} {k : Nat} {g : Nat → Int32} (a : Nat) (h : a ≠ k) : cellE cA α (upR μ.1 k g, μ.2) a = cellE cA α μ a := by
  have e : (upR μ.1 k g) a = μ.1 a := upR_n h
  unfold cellE
  split
  · refine congrArg (fun z => Sum.inr (_, z)) (List.map_congr_left fun j _ => ?_)
    unfold fval
    dsimp only
    rw [e]
  · have h2 : ∀ t, arrE α (upR μ.1 k g, μ.2) a t = arrE α μ a t := by
      intro t
      unfold arrE
      dsimp only
      rw [e]
    rw [h2]
theorem cell_n2 {cA : Nat → ClassId} {α : Nat → Nat} {μ : Mem} {k : Nat} {g : Nat → Int64} (a : Nat) (h : a ≠ k) : cellE cA α (μ.1, upR μ.2.1 k g, μ.2.2) a = cellE cA α μ a := by
  have e : (upR μ.2.1 k g) a = μ.2.1 a := upR_n h
  unfold cellE
  split
  · refine congrArg (fun z => Sum.inr (_, z)) (List.map_congr_left fun j _ => ?_)
    unfold fval
    dsimp only
    rw [e]
  · have h2 : ∀ t, arrE α (μ.1, upR μ.2.1 k g, μ.2.2) a t = arrE α μ a t := by
      intro t
      unfold arrE
      dsimp only
      rw [e]
    rw [h2]
theorem cell_n3 {cA : Nat → ClassId} {α : Nat → Nat} {μ : Mem} {k : Nat} {g : Nat → Option Nat} (a : Nat) (h : a ≠ k) : cellE cA α (μ.1, μ.2.1, upR μ.2.2 k g) a = cellE cA α μ a := by
  have e : (upR μ.2.2 k g) a = μ.2.2 a := upR_n h
  unfold cellE
  split
  · refine congrArg (fun z => Sum.inr (_, z)) (List.map_congr_left fun j _ => ?_)
    unfold fval
    dsimp only
    rw [e]
  · have h2 : ∀ t, arrE α (μ.1, μ.2.1, upR μ.2.2 k g) a t = arrE α μ a t := by
      intro t
      unfold arrE
      dsimp only
      rw [e]
    rw [h2]
def WF (N : Nat) (μ : Mem) : Prop := ∀ k, k < N → ∀ j t, μ.2.2 k j = some t → t < N
def DA (A : Nat → Prop) (N : Nat) (α : Nat → Nat) : Prop := (∀ i j, i < N → j < N → α i = α j → i = j) ∧ ∀ i, i < N → A (α i)
theorem DA.to {A : Nat → Prop} {N : Nat} {α : Nat → Nat} (h : DA A N α) (cA : Nat → ClassId) (μ : Mem) : va_D A (wl cA N α μ) := by
  refine ⟨fun i j p q hi hj e => ?_, fun k q hk => ?_⟩
  · obtain ⟨i1, rfl⟩ := wl_inv hi
    obtain ⟨j1, rfl⟩ := wl_inv hj
    exact h.1 i j i1 j1 e
  · obtain ⟨k1, rfl⟩ := wl_inv hk
    exact h.2 k k1
theorem DA.of {A : Nat → Prop} {N : Nat} {α : Nat → Nat} {cA : Nat → ClassId} {μ : Mem} (h : va_D A (wl cA N α μ)) : DA A N α :=
  ⟨fun i j hi hj e => h.1 i j _ _ (wl_get hi) (wl_get hj) e, fun i hi => h.2 i _ (wl_get hi)⟩
def Wd (D : va_G) (cA : Nat → ClassId) (A : Nat → Prop) (H0 : Heap) (N : Nat) (α : Nat → Nat) (μ : Mem) (H : Heap) (locs : List Loc) : Prop :=
  va_P D classes (wl cA N α μ) H ∧ DA A N α ∧ va_S A H0 H locs ∧ WF N μ ∧ N ≤ 66
def LV (ls : Array Slot) (nL : Nat) (α : Nat → Nat) (L : List Value) : Prop := ls.size = nL ∧ lv_wf ls ∧ ∀ (i : Nat) (v : Value), L[i]? = some v → v ≠ Value.null → ls[i]? = some (Slot.val (cv α v))
def lvl (α : Nat → Nat) (L : List Value) : List (Nat × Value) := (List.range L.length).filterMap (fun i => match (L[i]? : Option Value) with
  | some Value.null => none
  | some v => some (i, cv α v)
  | none => none)
theorem lvl_mem {α : Nat → Nat} {L : List Value} {i : Nat} {v : Value} (h : L[i]? = some v) (hv : v ≠ .null) : (i, cv α v) ∈ lvl α L := by
  refine List.mem_filterMap.mpr ⟨i, List.mem_range.mpr (List.getElem?_eq_some_iff.mp h).1, ?_⟩
  rw [h]
  cases v <;> first | rfl | exact absurd rfl hv
theorem LV.has {ls : Array Slot} {nL : Nat} {α : Nat → Nat} {L : List Value} (h : LV ls nL α L) : lv_has ls nL (lvl α L) := by
  refine ⟨h.1, h.2.1, fun q hq => ?_⟩
  obtain ⟨i, -, hi⟩ := List.mem_filterMap.mp hq
  cases hL : L[i]? with
  | none => rw [hL] at hi; cases hi
  | some v =>
    rw [hL] at hi
    cases v <;> first | (cases hi; exact h.2.2 i _ hL (by intro q; cases q)) | cases hi
/-- a store of a word, of two words -/
def clr (L : List Value) (i : Nat) : List Value := match i with
  | 0 => L
  | j + 1 => if (L.getD j .null).category = 2 then L.set j .null else L
def st1 (L : List Value) (i : Nat) (v : Value) : List Value := (clr L i).set i v
def st2 (L : List Value) (i : Nat) (v : Value) : List Value := ((clr L i).set i v).set (i + 1) .null
theorem cv_cat (α : Nat → Nat) (v : Value) : (cv α v).category = v.category := by cases v <;> rfl
theorem clr_of {L : List Value} {i j : Nat} {w : Value} (h : (clr L i)[j]? = some w) (hw : w ≠ .null) : L[j]? = some w ∧ ¬ (j + 1 = i ∧ w.category = 2) := by
  cases i with
  | zero => exact ⟨h, by omega⟩
  | succ k =>
    unfold clr at h
    dsimp only at h
    by_cases hc : (L.getD k .null).category = 2
    · rw [if_pos hc] at h
      by_cases hj : j = k
      · subst hj
        by_cases hl : j < L.length
        · rw [List.getElem?_set_self hl] at h
          exact absurd (Option.some.inj h).symm hw
        · rw [List.getElem?_eq_none (by simp; omega)] at h
          cases h
      · rw [List.getElem?_set_ne (fun q => hj q.symm)] at h
        exact ⟨h, by omega⟩
    · rw [if_neg hc] at h
      refine ⟨h, fun ⟨e, c2⟩ => hc ?_⟩
      have : j = k := by omega
      subst this
      rw [List.getD_eq_getElem?_getD, h]
      exact c2
theorem lvst1 {ls' : Array Slot} {nL : Nat} {α : Nat → Nat} {L : List Value} {i : Nat} {v : Value} (h : lv_has ls' nL ((i, cv α v) :: (lvl α L).filter (fun q => !(q.1 == i) && !(q.1 + 1 == i && q.2.category == 2)))) : LV ls' nL α (st1 L i v) := by
  refine ⟨h.1, h.2.1, fun j w hj hw => ?_⟩
  by_cases hi : j = i
  · subst hi
    by_cases hl : j < (clr L j).length
    · have e : w = v := by
        unfold st1 at hj
        rw [List.getElem?_set_self hl] at hj
        exact (Option.some.inj hj).symm
      subst e
      exact h.2.2 (j, cv α w) List.mem_cons_self
    · unfold st1 at hj
      rw [List.getElem?_eq_none (by simp; omega)] at hj
      cases hj
  · unfold st1 at hj
    rw [List.getElem?_set_ne (fun q => hi q.symm)] at hj
    obtain ⟨h1, h2⟩ := clr_of hj hw
    refine h.2.2 (j, cv α w) (List.mem_cons_of_mem _ (List.mem_filter.mpr ⟨lvl_mem h1 hw, ?_⟩))
    simp only [Bool.and_eq_true, Bool.not_eq_true', beq_eq_false_iff_ne, ne_eq, Bool.and_eq_false_iff, cv_cat]
    exact ⟨hi, by by_cases q : j + 1 = i
                  · exact Or.inr (fun c => h2 ⟨q, c⟩)
                  · exact Or.inl q⟩
theorem lvst2 {ls' : Array Slot} {nL : Nat} {α : Nat → Nat} {L : List Value} {i : Nat} {v : Value} (h : lv_has ls' nL ((i, cv α v) :: (lvl α L).filter (fun q => !(q.1 == i) && (!(q.1 == i + 1) && !(q.1 + 1 == i && q.2.category == 2))))) : LV ls' nL α (st2 L i v) := by
  refine ⟨h.1, h.2.1, fun j w hj hw => ?_⟩
  unfold st2 at hj
  by_cases h9 : j = i + 1
  · subst h9
    by_cases hl : i + 1 < ((clr L i).set i v).length
    · rw [List.getElem?_set_self hl] at hj
      exact absurd (Option.some.inj hj).symm hw
    · rw [List.getElem?_eq_none (by simp at hl ⊢; omega)] at hj
      cases hj
  rw [List.getElem?_set_ne (fun q => h9 q.symm)] at hj
  by_cases hi : j = i
  · subst hi
    by_cases hl : j < (clr L j).length
    · have e : w = v := by
        rw [List.getElem?_set_self hl] at hj
        exact (Option.some.inj hj).symm
      subst e
      exact h.2.2 (j, cv α w) List.mem_cons_self
    · rw [List.getElem?_eq_none (by simp; omega)] at hj
      cases hj
  · rw [List.getElem?_set_ne (fun q => hi q.symm)] at hj
    obtain ⟨h1, h2⟩ := clr_of hj hw
    refine h.2.2 (j, cv α w) (List.mem_cons_of_mem _ (List.mem_filter.mpr ⟨lvl_mem h1 hw, ?_⟩))
    simp only [Bool.and_eq_true, Bool.not_eq_true', beq_eq_false_iff_ne, ne_eq, Bool.and_eq_false_iff, cv_cat]
    exact ⟨hi, h9, by by_cases q : j + 1 = i
                      · exact Or.inr (fun c => h2 ⟨q, c⟩)
                      · exact Or.inl q⟩
def kLet (j : Nat) : Int32 := match j with
  | 0 => 98
  | 1 => 117
  | 2 => 108
  | 3 => 103
  | 4 => 116
  | _ => 99
def kAbo (j : Nat) : Int32 := match j with
  | 0 => -9
  | 1 => 0
  | 2 => 0
  | 3 => 1
  | 4 => 2
  | _ => 0
/-- what is only read: the three constant rows, the script -/
def rol (X : Nat × (Nat → Int32)) (k : Nat) : Nat × (Nat → Int32) := match k with
  | 100 => (6, kLet)
  | 101 => (6, kAbo)
  | 102 => (4, fun _ => 0)
  | _ => X
def RO (X : Nat × (Nat → Int32)) (A : Nat → Prop) (α : Nat → Nat) (s : State) (H : Heap) : Prop :=
  (∀ k, 100 ≤ k → k < 104 → va_X (α k) (rol X k).1 (rol X k).2 s H ∧ α k < H.size ∧ ¬ A (α k)) ∧ va_Z RX4 "KIND_LETTERS" "[I" (.ref (α 100)) A s H ∧ va_Z RX3 "KINDS_ABOVE" "[I" (.ref (α 101)) A s H ∧ va_Z RX3 "NOBODY_OUT" "[I" (.ref (α 102)) A s H
/-- links to private members of nest mates; arrays of rows -/
def NX (U : State) : Prop := ∀ (a : String) (i : Nat) (x : MethodName) (h : String), Cond.methodLinkNest a i x h ∈ lw_tbl → va_Nw (.methodLinkNest a i x h) U
def AX (U : State) : Prop := (Cond.arrayOver (.array .int)).before #[] U = true ∧ (Cond.arrayOver (.array .byte)).before #[] U = true
def tyL (cA : Nat → ClassId) : List (ClassId × FieldType) := [(cA 0, arrT 0), (cA 1, arrT 1), (cA 2, arrT 2), (cA 3, arrT 3), (cA 4, arrT 4)]
def CX (X : Nat × (Nat → Int32)) (d N1 : Nat) (M : Mth) (N0 : Nat) (p : Program) (R : Room) (s : State) (m : MethodId) (args : Array Value) (meth : Method) (c : Code) (D : va_G) (cA : Nat → ClassId) (A : Nat → Prop) (α : Nat → Nat) : Prop :=
  p.tables.exec = Jvm.exec ∧ c.code = M.2.1 ∧ c.maxLocals = M.2.2.1 ∧ s.vm.findClass M.1.cls = some m.cls ∧ (∀ w ∈ gw_tbl, w.before args s = true) ∧ (d ≤ R.frames ∧ 40 * d ≤ R.locals ∧ N1 - N0 ≤ R.cells ∧ ks N1 - ks N0 ≤ R.slots) ∧ va_K D classes (tyL cA) s ∧ (∀ q, s.heap.size ≤ q → A q) ∧ RO X A α s s.heap ∧ meth.name = M.1.name ∧ NX s ∧ AX s
def retI (v : Option Value) : Instr := match v with
  | none => .return_
  | some (.long _) => .lreturn
  | _ => .ireturn
def En (N1 : Nat) (M : Mth) (N0 : Nat) (p : Program) (l : Launch) (e : Env) (R : Room) (s : State) (m : MethodId) (args : Array Value) (below : List Frame) (meth : Method) (c : Code) (D : va_G) (cA : Nat → ClassId) (A : Nat → Prop) (Q : State → Prop) (α : Nat → Nat) (N : Nat) (Φ : Option Value → Mem → Prop) : Prop :=
  ∀ (v : Option Value) (μ' : Mem) (α' : Nat → Nat) (H' : Heap) (locs' : List Loc) (pc' : Nat) (ls' : Array Slot), Φ v μ' → Wd D cA A s.heap N1 α' μ' H' locs' → (∀ k, ¬ (N ≤ k ∧ k < N1) → α' k = α k) → decode M.2.1 pc' = .ok (retI v, 1) → (∀ ty x, M.2.2.2 = some ty → v = some x → narrow ty x = x) →
    W p l e R s m args below meth c H' locs' (N1 - N0) (ks N1 - ks N0) Q (F0 m pc' ls' (v.toList.map (cv α')))
/-- THE JUDGEMENT: method M, at pc with locals L, stack S and memory μ, comes to its end with Φ; d: frames that it may need; N cells are there now, N1 at its end -/
def Go (X : Nat × (Nat → Int32)) (d N1 : Nat) (M : Mth) (N pc : Nat) (L S : List Value) (μ : Mem) (Φ : Option Value → Mem → Prop) : Prop :=
  ∀ (p : Program) (l : Launch) (e : Env) (R : Room) (s : State) (m : MethodId) (args : Array Value) (below : List Frame) (meth : Method) (c : Code) (D : va_G) (cA : Nat → ClassId) (A : Nat → Prop) (N0 : Nat) (Q : State → Prop) (α : Nat → Nat) (H : Heap) (locs : List Loc) (ls : Array Slot),
    CX X d N1 M N0 p R s m args meth c D cA A α → Wd D cA A s.heap N α μ H locs → N0 ≤ N → N ≤ N1 → LV ls M.2.2.1 α L →
    En N1 M N0 p l e R s m args below meth c D cA A Q α N Φ →
    W p l e R s m args below meth c H locs (N - N0) (ks N - ks N0) Q (F0 m pc ls (S.map (cv α)))
section GoRules
variable {X : Nat × (Nat → Int32)} {d N1 : Nat} {M : Mth} {N pc : Nat} {L S : List Value} {μ : Mem} {Φ : Option Value → Mem → Prop}

theorem g_iload_n {k : Fin 4} {x : Int32} (hd : decode M.2.1 pc = .ok (.iload_n k, 1)) (hv : L[(k : Nat)]? = some (.int x)) (kk : Go X d N1 M N (pc + 1) L (.int x :: S) μ Φ) : Go X d N1 M N pc L S μ Φ := by
  intro p l e R s m args below meth c D cA A N0 Q α H locs ls cx w h0 h1 hl en
  exact lv_iload_n cx.1 cx.2.1 hd rfl (hl.2.2 _ _ hv (by intro q; cases q)) (kk p l e R s m args below meth c D cA A N0 Q α H locs ls cx w h0 h1 hl en)
theorem g_iload {k : Nat} {x : Int32} (hd : decode M.2.1 pc = .ok (.iload k, 2)) (hv : L[k]? = some (.int x)) (kk : Go X d N1 M N (pc + 2) L (.int x :: S) μ Φ) : Go X d N1 M N pc L S μ Φ := by
  intro p l e R s m args below meth c D cA A N0 Q α H locs ls cx w h0 h1 hl en
  exact lv_iload cx.1 cx.2.1 hd (hl.2.2 _ _ hv (by intro q; cases q)) (kk p l e R s m args below meth c D cA A N0 Q α H locs ls cx w h0 h1 hl en)
theorem g_lload_n {k : Fin 4} {x : Int64} (hd : decode M.2.1 pc = .ok (.lload_n k, 1)) (hv : L[(k : Nat)]? = some (.long x)) (kk : Go X d N1 M N (pc + 1) L (.long x :: S) μ Φ) : Go X d N1 M N pc L S μ Φ := by
  intro p l e R s m args below meth c D cA A N0 Q α H locs ls cx w h0 h1 hl en
  exact lv_lload_n cx.1 cx.2.1 hd rfl (hl.2.2 _ _ hv (by intro q; cases q)) (kk p l e R s m args below meth c D cA A N0 Q α H locs ls cx w h0 h1 hl en)
theorem g_lload {k : Nat} {x : Int64} (hd : decode M.2.1 pc = .ok (.lload k, 2)) (hv : L[k]? = some (.long x)) (kk : Go X d N1 M N (pc + 2) L (.long x :: S) μ Φ) : Go X d N1 M N pc L S μ Φ := by
  intro p l e R s m args below meth c D cA A N0 Q α H locs ls cx w h0 h1 hl en
  exact lv_lload cx.1 cx.2.1 hd (hl.2.2 _ _ hv (by intro q; cases q)) (kk p l e R s m args below meth c D cA A N0 Q α H locs ls cx w h0 h1 hl en)
theorem g_aload_n {k : Fin 4} {x : Nat} (hd : decode M.2.1 pc = .ok (.aload_n k, 1)) (hv : L[(k : Nat)]? = some (.ref x)) (kk : Go X d N1 M N (pc + 1) L (.ref x :: S) μ Φ) : Go X d N1 M N pc L S μ Φ := by
  intro p l e R s m args below meth c D cA A N0 Q α H locs ls cx w h0 h1 hl en
  exact lv_aload_n cx.1 cx.2.1 hd rfl (hl.2.2 _ _ hv (by intro q; cases q)) (kk p l e R s m args below meth c D cA A N0 Q α H locs ls cx w h0 h1 hl en)
theorem g_aload {k : Nat} {x : Nat} (hd : decode M.2.1 pc = .ok (.aload k, 2)) (hv : L[k]? = some (.ref x)) (kk : Go X d N1 M N (pc + 2) L (.ref x :: S) μ Φ) : Go X d N1 M N pc L S μ Φ := by
  intro p l e R s m args below meth c D cA A N0 Q α H locs ls cx w h0 h1 hl en
  exact lv_aload cx.1 cx.2.1 hd (hl.2.2 _ _ hv (by intro q; cases q)) (kk p l e R s m args below meth c D cA A N0 Q α H locs ls cx w h0 h1 hl en)
theorem g_istore_n {k : Fin 4} {x : Int32} (hd : decode M.2.1 pc = .ok (.istore_n k, 1)) (hn : (k : Nat) < M.2.2.1) (kk : Go X d N1 M N (pc + 1) (st1 L k (.int x)) S μ Φ) : Go X d N1 M N pc L (.int x :: S) μ Φ := by
  intro p l e R s m args below meth c D cA A N0 Q α H locs ls cx w h0 h1 hl en
  exact lv_istore_n cx.1 cx.2.1 hd rfl hl.has hn rfl (fun ls2 h2 => kk p l e R s m args below meth c D cA A N0 Q α H locs ls2 cx w h0 h1 (lvst1 (v := .int x) h2) en)
theorem g_istore {k : Nat} {x : Int32} (hd : decode M.2.1 pc = .ok (.istore k, 2)) (hn : (k : Nat) < M.2.2.1) (kk : Go X d N1 M N (pc + 2) (st1 L k (.int x)) S μ Φ) : Go X d N1 M N pc L (.int x :: S) μ Φ := by
  intro p l e R s m args below meth c D cA A N0 Q α H locs ls cx w h0 h1 hl en
  exact lv_istore cx.1 cx.2.1 hd hl.has hn rfl (fun ls2 h2 => kk p l e R s m args below meth c D cA A N0 Q α H locs ls2 cx w h0 h1 (lvst1 (v := .int x) h2) en)
theorem g_astore_n {k : Fin 4} {x : Nat} (hd : decode M.2.1 pc = .ok (.astore_n k, 1)) (hn : (k : Nat) < M.2.2.1) (kk : Go X d N1 M N (pc + 1) (st1 L k (.ref x)) S μ Φ) : Go X d N1 M N pc L (.ref x :: S) μ Φ := by
  intro p l e R s m args below meth c D cA A N0 Q α H locs ls cx w h0 h1 hl en
  exact lv_astore_n cx.1 cx.2.1 hd rfl hl.has hn rfl (fun ls2 h2 => kk p l e R s m args below meth c D cA A N0 Q α H locs ls2 cx w h0 h1 (lvst1 (v := .ref x) h2) en)
theorem g_astore {k : Nat} {x : Nat} (hd : decode M.2.1 pc = .ok (.astore k, 2)) (hn : (k : Nat) < M.2.2.1) (kk : Go X d N1 M N (pc + 2) (st1 L k (.ref x)) S μ Φ) : Go X d N1 M N pc L (.ref x :: S) μ Φ := by
  intro p l e R s m args below meth c D cA A N0 Q α H locs ls cx w h0 h1 hl en
  exact lv_astore cx.1 cx.2.1 hd hl.has hn rfl (fun ls2 h2 => kk p l e R s m args below meth c D cA A N0 Q α H locs ls2 cx w h0 h1 (lvst1 (v := .ref x) h2) en)
theorem g_lstore_n {k : Fin 4} {x : Int64} (hd : decode M.2.1 pc = .ok (.lstore_n k, 1)) (hn : (k : Nat) + 1 < M.2.2.1) (kk : Go X d N1 M N (pc + 1) (st2 L k (.long x)) S μ Φ) : Go X d N1 M N pc L (.long x :: S) μ Φ := by
  intro p l e R s m args below meth c D cA A N0 Q α H locs ls cx w h0 h1 hl en
  exact lv_lstore_n cx.1 cx.2.1 hd rfl hl.has hn rfl (fun ls2 h2 => kk p l e R s m args below meth c D cA A N0 Q α H locs ls2 cx w h0 h1 (lvst2 (v := .long x) h2) en)
theorem g_lstore {k : Nat} {x : Int64} (hd : decode M.2.1 pc = .ok (.lstore k, 2)) (hn : (k : Nat) + 1 < M.2.2.1) (kk : Go X d N1 M N (pc + 2) (st2 L k (.long x)) S μ Φ) : Go X d N1 M N pc L (.long x :: S) μ Φ := by
  intro p l e R s m args below meth c D cA A N0 Q α H locs ls cx w h0 h1 hl en
  exact lv_lstore cx.1 cx.2.1 hd hl.has hn rfl (fun ls2 h2 => kk p l e R s m args below meth c D cA A N0 Q α H locs ls2 cx w h0 h1 (lvst2 (v := .long x) h2) en)
theorem g_iinc {k : Nat} {n : Int} {x : Int32} (hd : decode M.2.1 pc = .ok (.iinc k n, 3)) (hv : L[k]? = some (.int x)) (hn : k < M.2.2.1) (kk : Go X d N1 M N (pc + 3) (st1 L k (.int (x + Int32.ofInt n))) S μ Φ) : Go X d N1 M N pc L S μ Φ := by
  intro p l e R s m args below meth c D cA A N0 Q α H locs ls cx w h0 h1 hl en
  obtain ⟨j, hj⟩ := List.getElem?_of_mem (lvl_mem (α := α) hv (by intro q; cases q))
  exact lv_iinc cx.1 cx.2.1 hd hl.has hj rfl hn rfl (fun ls2 h2 => kk p l e R s m args below meth c D cA A N0 Q α H locs ls2 cx w h0 h1 (lvst1 (v := .int (x + Int32.ofInt n)) h2) en)
theorem g_iconst {n : Int} {v : Int32} (hd : decode M.2.1 pc = .ok (.iconst n, 1)) (hv : Int32.ofInt n = v) (kk : Go X d N1 M N (pc + 1) L (.int v :: S) μ Φ) : Go X d N1 M N pc L S μ Φ := by
  intro p l e R s m args below meth c D cA A N0 Q α H locs ls cx w h0 h1 hl en
  exact lv_iconst cx.1 cx.2.1 hd hv (kk p l e R s m args below meth c D cA A N0 Q α H locs ls cx w h0 h1 hl en)
theorem g_bipush {n : Int} {v : Int32} (hd : decode M.2.1 pc = .ok (.bipush n, 2)) (hv : (Int8.ofInt n).toInt32 = v) (kk : Go X d N1 M N (pc + 2) L (.int v :: S) μ Φ) : Go X d N1 M N pc L S μ Φ := by
  intro p l e R s m args below meth c D cA A N0 Q α H locs ls cx w h0 h1 hl en
  exact lv_bipush cx.1 cx.2.1 hd hv (kk p l e R s m args below meth c D cA A N0 Q α H locs ls cx w h0 h1 hl en)
theorem g_sipush {n : Int} {v : Int32} (hd : decode M.2.1 pc = .ok (.sipush n, 3)) (hv : (Int16.ofInt n).toInt32 = v) (kk : Go X d N1 M N (pc + 3) L (.int v :: S) μ Φ) : Go X d N1 M N pc L S μ Φ := by
  intro p l e R s m args below meth c D cA A N0 Q α H locs ls cx w h0 h1 hl en
  exact lv_sipush cx.1 cx.2.1 hd hv (kk p l e R s m args below meth c D cA A N0 Q α H locs ls cx w h0 h1 hl en)
theorem g_lconst {n : Fin 2} {v : Int64} (hd : decode M.2.1 pc = .ok (.lconst n, 1)) (hv : Int64.ofNat (n : Nat) = v) (kk : Go X d N1 M N (pc + 1) L (.long v :: S) μ Φ) : Go X d N1 M N pc L S μ Φ := by
  intro p l e R s m args below meth c D cA A N0 Q α H locs ls cx w h0 h1 hl en
  exact lv_lconst cx.1 cx.2.1 hd hv (kk p l e R s m args below meth c D cA A N0 Q α H locs ls cx w h0 h1 hl en)
theorem g_ldc {i : Nat} {v : Int32} (hd : decode M.2.1 pc = .ok (.ldc i, 2)) (hc : Cond.constant M.1.cls i v ∈ gw_tbl) (kk : Go X d N1 M N (pc + 2) L (.int v :: S) μ Φ) : Go X d N1 M N pc L S μ Φ := by
  intro p l e R s m args below meth c D cA A N0 Q α H locs ls cx w h0 h1 hl en
  exact lv_ldc cx.1 cx.2.1 cx.2.2.2.1 (cx.2.2.2.2.1 _ hc) hd (kk p l e R s m args below meth c D cA A N0 Q α H locs ls cx w h0 h1 hl en)
theorem g_ldcw {i : Nat} {v : Int32} (hd : decode M.2.1 pc = .ok (.ldc_w i, 3)) (hc : Cond.constant M.1.cls i v ∈ gw_tbl) (kk : Go X d N1 M N (pc + 3) L (.int v :: S) μ Φ) : Go X d N1 M N pc L S μ Φ := by
  intro p l e R s m args below meth c D cA A N0 Q α H locs ls cx w h0 h1 hl en
  exact lv_ldcw cx.1 cx.2.1 cx.2.2.2.1 (cx.2.2.2.2.1 _ hc) hd (kk p l e R s m args below meth c D cA A N0 Q α H locs ls cx w h0 h1 hl en)
theorem g_ldc2 {i : Nat} {v : Int64} (hd : decode M.2.1 pc = .ok (.ldc2_w i, 3)) (hc : Cond.constantLong M.1.cls i v ∈ gw_tbl) (kk : Go X d N1 M N (pc + 3) L (.long v :: S) μ Φ) : Go X d N1 M N pc L S μ Φ := by
  intro p l e R s m args below meth c D cA A N0 Q α H locs ls cx w h0 h1 hl en
  exact lv_ldc2 cx.1 cx.2.1 cx.2.2.2.1 (cx.2.2.2.2.1 _ hc) hd (kk p l e R s m args below meth c D cA A N0 Q α H locs ls cx w h0 h1 hl en)
theorem g_iadd {x y : Int32} (hd : decode M.2.1 pc = .ok (.iadd, 1)) (kk : Go X d N1 M N (pc + 1) L (.int (x + y) :: S) μ Φ) : Go X d N1 M N pc L (.int y :: .int x :: S) μ Φ := by
  intro p l e R s m args below meth c D cA A N0 Q α H locs ls cx w h0 h1 hl en
  exact lv_iadd cx.1 cx.2.1 hd (kk p l e R s m args below meth c D cA A N0 Q α H locs ls cx w h0 h1 hl en)
theorem g_isub {x y : Int32} (hd : decode M.2.1 pc = .ok (.isub, 1)) (kk : Go X d N1 M N (pc + 1) L (.int (x - y) :: S) μ Φ) : Go X d N1 M N pc L (.int y :: .int x :: S) μ Φ := by
  intro p l e R s m args below meth c D cA A N0 Q α H locs ls cx w h0 h1 hl en
  exact lv_isub cx.1 cx.2.1 hd (kk p l e R s m args below meth c D cA A N0 Q α H locs ls cx w h0 h1 hl en)
theorem g_imul {x y : Int32} (hd : decode M.2.1 pc = .ok (.imul, 1)) (kk : Go X d N1 M N (pc + 1) L (.int (x * y) :: S) μ Φ) : Go X d N1 M N pc L (.int y :: .int x :: S) μ Φ := by
  intro p l e R s m args below meth c D cA A N0 Q α H locs ls cx w h0 h1 hl en
  exact lv_imul cx.1 cx.2.1 hd (kk p l e R s m args below meth c D cA A N0 Q α H locs ls cx w h0 h1 hl en)
theorem g_iand {x y : Int32} (hd : decode M.2.1 pc = .ok (.iand, 1)) (kk : Go X d N1 M N (pc + 1) L (.int (x &&& y) :: S) μ Φ) : Go X d N1 M N pc L (.int y :: .int x :: S) μ Φ := by
  intro p l e R s m args below meth c D cA A N0 Q α H locs ls cx w h0 h1 hl en
  exact lv_iand cx.1 cx.2.1 hd (kk p l e R s m args below meth c D cA A N0 Q α H locs ls cx w h0 h1 hl en)
theorem g_ior {x y : Int32} (hd : decode M.2.1 pc = .ok (.ior, 1)) (kk : Go X d N1 M N (pc + 1) L (.int (x ||| y) :: S) μ Φ) : Go X d N1 M N pc L (.int y :: .int x :: S) μ Φ := by
  intro p l e R s m args below meth c D cA A N0 Q α H locs ls cx w h0 h1 hl en
  exact lv_ior cx.1 cx.2.1 hd (kk p l e R s m args below meth c D cA A N0 Q α H locs ls cx w h0 h1 hl en)
theorem g_ixor {x y : Int32} (hd : decode M.2.1 pc = .ok (.ixor, 1)) (kk : Go X d N1 M N (pc + 1) L (.int (x ^^^ y) :: S) μ Φ) : Go X d N1 M N pc L (.int y :: .int x :: S) μ Φ := by
  intro p l e R s m args below meth c D cA A N0 Q α H locs ls cx w h0 h1 hl en
  exact lv_ixor cx.1 cx.2.1 hd (kk p l e R s m args below meth c D cA A N0 Q α H locs ls cx w h0 h1 hl en)
theorem g_ishl {x y : Int32} (hd : decode M.2.1 pc = .ok (.ishl, 1)) (kk : Go X d N1 M N (pc + 1) L (.int (x <<< (y &&& 31)) :: S) μ Φ) : Go X d N1 M N pc L (.int y :: .int x :: S) μ Φ := by
  intro p l e R s m args below meth c D cA A N0 Q α H locs ls cx w h0 h1 hl en
  exact lv_ishl cx.1 cx.2.1 hd (kk p l e R s m args below meth c D cA A N0 Q α H locs ls cx w h0 h1 hl en)
theorem g_ishr {x y : Int32} (hd : decode M.2.1 pc = .ok (.ishr, 1)) (kk : Go X d N1 M N (pc + 1) L (.int (x >>> (y &&& 31)) :: S) μ Φ) : Go X d N1 M N pc L (.int y :: .int x :: S) μ Φ := by
  intro p l e R s m args below meth c D cA A N0 Q α H locs ls cx w h0 h1 hl en
  exact lv_ishr cx.1 cx.2.1 hd (kk p l e R s m args below meth c D cA A N0 Q α H locs ls cx w h0 h1 hl en)
theorem g_iushr {x y : Int32} (hd : decode M.2.1 pc = .ok (.iushr, 1)) (kk : Go X d N1 M N (pc + 1) L (.int (x.toUInt32 >>> (y.toUInt32 &&& Int32.toUInt32 31)).toInt32 :: S) μ Φ) : Go X d N1 M N pc L (.int y :: .int x :: S) μ Φ := by
  intro p l e R s m args below meth c D cA A N0 Q α H locs ls cx w h0 h1 hl en
  exact lv_iushr cx.1 cx.2.1 hd rfl (kk p l e R s m args below meth c D cA A N0 Q α H locs ls cx w h0 h1 hl en)
theorem g_ineg {x : Int32} (hd : decode M.2.1 pc = .ok (.ineg, 1)) (kk : Go X d N1 M N (pc + 1) L (.int (-x) :: S) μ Φ) : Go X d N1 M N pc L (.int x :: S) μ Φ := by
  intro p l e R s m args below meth c D cA A N0 Q α H locs ls cx w h0 h1 hl en
  exact lv_ineg cx.1 cx.2.1 hd (kk p l e R s m args below meth c D cA A N0 Q α H locs ls cx w h0 h1 hl en)
theorem g_idiv {x y : Int32} (hd : decode M.2.1 pc = .ok (.idiv, 1)) (hne : ¬ y = 0) (kk : Go X d N1 M N (pc + 1) L (.int (x / y) :: S) μ Φ) : Go X d N1 M N pc L (.int y :: .int x :: S) μ Φ := by
  intro p l e R s m args below meth c D cA A N0 Q α H locs ls cx w h0 h1 hl en
  exact lv_idiv cx.1 cx.2.1 hd hne (kk p l e R s m args below meth c D cA A N0 Q α H locs ls cx w h0 h1 hl en)
theorem g_irem {x y : Int32} (hd : decode M.2.1 pc = .ok (.irem, 1)) (hne : ¬ y = 0) (kk : Go X d N1 M N (pc + 1) L (.int (x - x / y * y) :: S) μ Φ) : Go X d N1 M N pc L (.int y :: .int x :: S) μ Φ := by
  intro p l e R s m args below meth c D cA A N0 Q α H locs ls cx w h0 h1 hl en
  exact lv_irem cx.1 cx.2.1 hd hne (kk p l e R s m args below meth c D cA A N0 Q α H locs ls cx w h0 h1 hl en)
theorem g_ladd {x y : Int64} (hd : decode M.2.1 pc = .ok (.ladd, 1)) (kk : Go X d N1 M N (pc + 1) L (.long (x + y) :: S) μ Φ) : Go X d N1 M N pc L (.long y :: .long x :: S) μ Φ := by
  intro p l e R s m args below meth c D cA A N0 Q α H locs ls cx w h0 h1 hl en
  exact lv_ladd cx.1 cx.2.1 hd (kk p l e R s m args below meth c D cA A N0 Q α H locs ls cx w h0 h1 hl en)
theorem g_lsub {x y : Int64} (hd : decode M.2.1 pc = .ok (.lsub, 1)) (kk : Go X d N1 M N (pc + 1) L (.long (x - y) :: S) μ Φ) : Go X d N1 M N pc L (.long y :: .long x :: S) μ Φ := by
  intro p l e R s m args below meth c D cA A N0 Q α H locs ls cx w h0 h1 hl en
  exact lv_lsub cx.1 cx.2.1 hd (kk p l e R s m args below meth c D cA A N0 Q α H locs ls cx w h0 h1 hl en)
theorem g_lmul {x y : Int64} (hd : decode M.2.1 pc = .ok (.lmul, 1)) (kk : Go X d N1 M N (pc + 1) L (.long (x * y) :: S) μ Φ) : Go X d N1 M N pc L (.long y :: .long x :: S) μ Φ := by
  intro p l e R s m args below meth c D cA A N0 Q α H locs ls cx w h0 h1 hl en
  exact lv_lmul cx.1 cx.2.1 hd (kk p l e R s m args below meth c D cA A N0 Q α H locs ls cx w h0 h1 hl en)
theorem g_land {x y : Int64} (hd : decode M.2.1 pc = .ok (.land, 1)) (kk : Go X d N1 M N (pc + 1) L (.long (x &&& y) :: S) μ Φ) : Go X d N1 M N pc L (.long y :: .long x :: S) μ Φ := by
  intro p l e R s m args below meth c D cA A N0 Q α H locs ls cx w h0 h1 hl en
  exact lv_land cx.1 cx.2.1 hd (kk p l e R s m args below meth c D cA A N0 Q α H locs ls cx w h0 h1 hl en)
theorem g_lor {x y : Int64} (hd : decode M.2.1 pc = .ok (.lor, 1)) (kk : Go X d N1 M N (pc + 1) L (.long (x ||| y) :: S) μ Φ) : Go X d N1 M N pc L (.long y :: .long x :: S) μ Φ := by
  intro p l e R s m args below meth c D cA A N0 Q α H locs ls cx w h0 h1 hl en
  exact lv_lor cx.1 cx.2.1 hd (kk p l e R s m args below meth c D cA A N0 Q α H locs ls cx w h0 h1 hl en)
theorem g_ldiv {x y : Int64} (hd : decode M.2.1 pc = .ok (.ldiv, 1)) (hne : ¬ y = 0) (kk : Go X d N1 M N (pc + 1) L (.long (x / y) :: S) μ Φ) : Go X d N1 M N pc L (.long y :: .long x :: S) μ Φ := by
  intro p l e R s m args below meth c D cA A N0 Q α H locs ls cx w h0 h1 hl en
  exact lv_ldiv cx.1 cx.2.1 hd hne (kk p l e R s m args below meth c D cA A N0 Q α H locs ls cx w h0 h1 hl en)
theorem g_lrem {x y : Int64} (hd : decode M.2.1 pc = .ok (.lrem, 1)) (hne : ¬ y = 0) (kk : Go X d N1 M N (pc + 1) L (.long (x - x / y * y) :: S) μ Φ) : Go X d N1 M N pc L (.long y :: .long x :: S) μ Φ := by
  intro p l e R s m args below meth c D cA A N0 Q α H locs ls cx w h0 h1 hl en
  exact lv_lrem cx.1 cx.2.1 hd hne (kk p l e R s m args below meth c D cA A N0 Q α H locs ls cx w h0 h1 hl en)
theorem g_lshl {x : Int64} {y : Int32} (hd : decode M.2.1 pc = .ok (.lshl, 1)) (kk : Go X d N1 M N (pc + 1) L (.long (x <<< (y.toInt64 &&& 63)) :: S) μ Φ) : Go X d N1 M N pc L (.int y :: .long x :: S) μ Φ := by
  intro p l e R s m args below meth c D cA A N0 Q α H locs ls cx w h0 h1 hl en
  exact lv_lshl cx.1 cx.2.1 hd rfl (kk p l e R s m args below meth c D cA A N0 Q α H locs ls cx w h0 h1 hl en)
theorem g_lshr {x : Int64} {y : Int32} (hd : decode M.2.1 pc = .ok (.lshr, 1)) (kk : Go X d N1 M N (pc + 1) L (.long (x >>> (y.toInt64 &&& 63)) :: S) μ Φ) : Go X d N1 M N pc L (.int y :: .long x :: S) μ Φ := by
  intro p l e R s m args below meth c D cA A N0 Q α H locs ls cx w h0 h1 hl en
  exact lv_lshr cx.1 cx.2.1 hd rfl (kk p l e R s m args below meth c D cA A N0 Q α H locs ls cx w h0 h1 hl en)
theorem g_lushr {x : Int64} {y : Int32} (hd : decode M.2.1 pc = .ok (.lushr, 1)) (kk : Go X d N1 M N (pc + 1) L (.long ((x.toUInt64 >>> (y.toInt64.toUInt64 &&& Int64.toUInt64 63)).toInt64) :: S) μ Φ) : Go X d N1 M N pc L (.int y :: .long x :: S) μ Φ := by
  intro p l e R s m args below meth c D cA A N0 Q α H locs ls cx w h0 h1 hl en
  exact lv_lushr cx.1 cx.2.1 hd rfl (kk p l e R s m args below meth c D cA A N0 Q α H locs ls cx w h0 h1 hl en)
theorem g_i2l {x : Int32} (hd : decode M.2.1 pc = .ok (.i2l, 1)) (kk : Go X d N1 M N (pc + 1) L (.long x.toInt64 :: S) μ Φ) : Go X d N1 M N pc L (.int x :: S) μ Φ := by
  intro p l e R s m args below meth c D cA A N0 Q α H locs ls cx w h0 h1 hl en
  exact lv_i2l cx.1 cx.2.1 hd rfl (kk p l e R s m args below meth c D cA A N0 Q α H locs ls cx w h0 h1 hl en)
theorem g_l2i {x : Int64} (hd : decode M.2.1 pc = .ok (.l2i, 1)) (kk : Go X d N1 M N (pc + 1) L (.int x.toInt32 :: S) μ Φ) : Go X d N1 M N pc L (.long x :: S) μ Φ := by
  intro p l e R s m args below meth c D cA A N0 Q α H locs ls cx w h0 h1 hl en
  exact lv_l2i cx.1 cx.2.1 hd rfl (kk p l e R s m args below meth c D cA A N0 Q α H locs ls cx w h0 h1 hl en)
theorem g_i2b {x : Int32} (hd : decode M.2.1 pc = .ok (.i2b, 1)) (kk : Go X d N1 M N (pc + 1) L (.int x.toInt8.toInt32 :: S) μ Φ) : Go X d N1 M N pc L (.int x :: S) μ Φ := by
  intro p l e R s m args below meth c D cA A N0 Q α H locs ls cx w h0 h1 hl en
  exact lv_i2b cx.1 cx.2.1 hd rfl (kk p l e R s m args below meth c D cA A N0 Q α H locs ls cx w h0 h1 hl en)
theorem g_lcmp {x y : Int64} (hd : decode M.2.1 pc = .ok (.lcmp, 1)) (kk : Go X d N1 M N (pc + 1) L (.int (lg_cmp x y) :: S) μ Φ) : Go X d N1 M N pc L (.long y :: .long x :: S) μ Φ := by
  intro p l e R s m args below meth c D cA A N0 Q α H locs ls cx w h0 h1 hl en
  exact W.lcmp cx.1 cx.2.1 hd (kk p l e R s m args below meth c D cA A N0 Q α H locs ls cx w h0 h1 hl en)
theorem g_dup {v : Value} (hd : decode M.2.1 pc = .ok (.dup, 1)) (hv : v.category = 1) (kk : Go X d N1 M N (pc + 1) L (v :: v :: S) μ Φ) : Go X d N1 M N pc L (v :: S) μ Φ := by
  intro p l e R s m args below meth c D cA A N0 Q α H locs ls cx w h0 h1 hl en
  exact lv_dup cx.1 cx.2.1 hd ((cv_cat α v).trans hv) (kk p l e R s m args below meth c D cA A N0 Q α H locs ls cx w h0 h1 hl en)
theorem g_pop {v : Value} (hd : decode M.2.1 pc = .ok (.pop, 1)) (hv : v.category = 1) (kk : Go X d N1 M N (pc + 1) L S μ Φ) : Go X d N1 M N pc L (v :: S) μ Φ := by
  intro p l e R s m args below meth c D cA A N0 Q α H locs ls cx w h0 h1 hl en
  exact lv_pop cx.1 cx.2.1 hd ((cv_cat α v).trans hv) (kk p l e R s m args below meth c D cA A N0 Q α H locs ls cx w h0 h1 hl en)
theorem g_dup2 {v u : Value} (hd : decode M.2.1 pc = .ok (.dup2, 1)) (hv : v.category = 1) (hu : u.category = 1) (kk : Go X d N1 M N (pc + 1) L (v :: u :: v :: u :: S) μ Φ) : Go X d N1 M N pc L (v :: u :: S) μ Φ := by
  intro p l e R s m args below meth c D cA A N0 Q α H locs ls cx w h0 h1 hl en
  exact lv_dup2_11 cx.1 cx.2.1 hd ((cv_cat α v).trans hv) ((cv_cat α u).trans hu) (kk p l e R s m args below meth c D cA A N0 Q α H locs ls cx w h0 h1 hl en)
theorem g_goto {off : Int} {tgt : Nat} (hd : decode M.2.1 pc = .ok (.goto off, 3)) (ht : (pc : Int) + off = (tgt : Int)) (kk : Go X d N1 M N tgt L S μ Φ) : Go X d N1 M N pc L S μ Φ := by
  intro p l e R s m args below meth c D cA A N0 Q α H locs ls cx w h0 h1 hl en
  exact lv_goto cx.1 cx.2.1 hd ht (kk p l e R s m args below meth c D cA A N0 Q α H locs ls cx w h0 h1 hl en)
theorem g_icmp_eq {x y : Int32} {off : Int} {tgt : Nat} (hd : decode M.2.1 pc = .ok (.if_icmp .eq off, 3)) (ht : (pc : Int) + off = (tgt : Int)) (kt : x = y → Go X d N1 M N tgt L S μ Φ) (kf : ¬ (x = y) → Go X d N1 M N (pc + 3) L S μ Φ) : Go X d N1 M N pc L (.int y :: .int x :: S) μ Φ := by
  intro p l e R s m args below meth c D cA A N0 Q α H locs ls cx w h0 h1 hl en
  exact lv_icmp_eq cx.1 cx.2.1 hd ht (fun q => kt q p l e R s m args below meth c D cA A N0 Q α H locs ls cx w h0 h1 hl en) (fun q => kf q p l e R s m args below meth c D cA A N0 Q α H locs ls cx w h0 h1 hl en)
theorem g_icmp_ne {x y : Int32} {off : Int} {tgt : Nat} (hd : decode M.2.1 pc = .ok (.if_icmp .ne off, 3)) (ht : (pc : Int) + off = (tgt : Int)) (kt : ¬ x = y → Go X d N1 M N tgt L S μ Φ) (kf : x = y → Go X d N1 M N (pc + 3) L S μ Φ) : Go X d N1 M N pc L (.int y :: .int x :: S) μ Φ := by
  intro p l e R s m args below meth c D cA A N0 Q α H locs ls cx w h0 h1 hl en
  exact lv_icmp_ne cx.1 cx.2.1 hd ht (fun q => kt q p l e R s m args below meth c D cA A N0 Q α H locs ls cx w h0 h1 hl en) (fun q => kf q p l e R s m args below meth c D cA A N0 Q α H locs ls cx w h0 h1 hl en)
theorem g_icmp_lt {x y : Int32} {off : Int} {tgt : Nat} (hd : decode M.2.1 pc = .ok (.if_icmp .lt off, 3)) (ht : (pc : Int) + off = (tgt : Int)) (kt : x < y → Go X d N1 M N tgt L S μ Φ) (kf : ¬ (x < y) → Go X d N1 M N (pc + 3) L S μ Φ) : Go X d N1 M N pc L (.int y :: .int x :: S) μ Φ := by
  intro p l e R s m args below meth c D cA A N0 Q α H locs ls cx w h0 h1 hl en
  exact lv_icmp_lt cx.1 cx.2.1 hd ht (fun q => kt q p l e R s m args below meth c D cA A N0 Q α H locs ls cx w h0 h1 hl en) (fun q => kf q p l e R s m args below meth c D cA A N0 Q α H locs ls cx w h0 h1 hl en)
theorem g_icmp_ge {x y : Int32} {off : Int} {tgt : Nat} (hd : decode M.2.1 pc = .ok (.if_icmp .ge off, 3)) (ht : (pc : Int) + off = (tgt : Int)) (kt : y ≤ x → Go X d N1 M N tgt L S μ Φ) (kf : ¬ (y ≤ x) → Go X d N1 M N (pc + 3) L S μ Φ) : Go X d N1 M N pc L (.int y :: .int x :: S) μ Φ := by
  intro p l e R s m args below meth c D cA A N0 Q α H locs ls cx w h0 h1 hl en
  exact lv_icmp_ge cx.1 cx.2.1 hd ht (fun q => kt q p l e R s m args below meth c D cA A N0 Q α H locs ls cx w h0 h1 hl en) (fun q => kf q p l e R s m args below meth c D cA A N0 Q α H locs ls cx w h0 h1 hl en)
theorem g_icmp_gt {x y : Int32} {off : Int} {tgt : Nat} (hd : decode M.2.1 pc = .ok (.if_icmp .gt off, 3)) (ht : (pc : Int) + off = (tgt : Int)) (kt : y < x → Go X d N1 M N tgt L S μ Φ) (kf : ¬ (y < x) → Go X d N1 M N (pc + 3) L S μ Φ) : Go X d N1 M N pc L (.int y :: .int x :: S) μ Φ := by
  intro p l e R s m args below meth c D cA A N0 Q α H locs ls cx w h0 h1 hl en
  exact lv_icmp_gt cx.1 cx.2.1 hd ht (fun q => kt q p l e R s m args below meth c D cA A N0 Q α H locs ls cx w h0 h1 hl en) (fun q => kf q p l e R s m args below meth c D cA A N0 Q α H locs ls cx w h0 h1 hl en)
theorem g_icmp_le {x y : Int32} {off : Int} {tgt : Nat} (hd : decode M.2.1 pc = .ok (.if_icmp .le off, 3)) (ht : (pc : Int) + off = (tgt : Int)) (kt : x ≤ y → Go X d N1 M N tgt L S μ Φ) (kf : ¬ (x ≤ y) → Go X d N1 M N (pc + 3) L S μ Φ) : Go X d N1 M N pc L (.int y :: .int x :: S) μ Φ := by
  intro p l e R s m args below meth c D cA A N0 Q α H locs ls cx w h0 h1 hl en
  exact lv_icmp_le cx.1 cx.2.1 hd ht (fun q => kt q p l e R s m args below meth c D cA A N0 Q α H locs ls cx w h0 h1 hl en) (fun q => kf q p l e R s m args below meth c D cA A N0 Q α H locs ls cx w h0 h1 hl en)
theorem g_if_eq {x : Int32} {off : Int} {tgt : Nat} (hd : decode M.2.1 pc = .ok (.ifCond .eq off, 3)) (ht : (pc : Int) + off = (tgt : Int)) (kt : x = 0 → Go X d N1 M N tgt L S μ Φ) (kf : ¬ (x = 0) → Go X d N1 M N (pc + 3) L S μ Φ) : Go X d N1 M N pc L (.int x :: S) μ Φ := by
  intro p l e R s m args below meth c D cA A N0 Q α H locs ls cx w h0 h1 hl en
  exact lv_if_eq cx.1 cx.2.1 hd ht (fun q => kt q p l e R s m args below meth c D cA A N0 Q α H locs ls cx w h0 h1 hl en) (fun q => kf q p l e R s m args below meth c D cA A N0 Q α H locs ls cx w h0 h1 hl en)
theorem g_if_ne {x : Int32} {off : Int} {tgt : Nat} (hd : decode M.2.1 pc = .ok (.ifCond .ne off, 3)) (ht : (pc : Int) + off = (tgt : Int)) (kt : ¬ x = 0 → Go X d N1 M N tgt L S μ Φ) (kf : x = 0 → Go X d N1 M N (pc + 3) L S μ Φ) : Go X d N1 M N pc L (.int x :: S) μ Φ := by
  intro p l e R s m args below meth c D cA A N0 Q α H locs ls cx w h0 h1 hl en
  exact lv_if_ne cx.1 cx.2.1 hd ht (fun q => kt q p l e R s m args below meth c D cA A N0 Q α H locs ls cx w h0 h1 hl en) (fun q => kf q p l e R s m args below meth c D cA A N0 Q α H locs ls cx w h0 h1 hl en)
theorem g_if_lt {x : Int32} {off : Int} {tgt : Nat} (hd : decode M.2.1 pc = .ok (.ifCond .lt off, 3)) (ht : (pc : Int) + off = (tgt : Int)) (kt : x < 0 → Go X d N1 M N tgt L S μ Φ) (kf : ¬ (x < 0) → Go X d N1 M N (pc + 3) L S μ Φ) : Go X d N1 M N pc L (.int x :: S) μ Φ := by
  intro p l e R s m args below meth c D cA A N0 Q α H locs ls cx w h0 h1 hl en
  exact lv_if_lt cx.1 cx.2.1 hd ht (fun q => kt q p l e R s m args below meth c D cA A N0 Q α H locs ls cx w h0 h1 hl en) (fun q => kf q p l e R s m args below meth c D cA A N0 Q α H locs ls cx w h0 h1 hl en)
theorem g_if_ge {x : Int32} {off : Int} {tgt : Nat} (hd : decode M.2.1 pc = .ok (.ifCond .ge off, 3)) (ht : (pc : Int) + off = (tgt : Int)) (kt : 0 ≤ x → Go X d N1 M N tgt L S μ Φ) (kf : ¬ (0 ≤ x) → Go X d N1 M N (pc + 3) L S μ Φ) : Go X d N1 M N pc L (.int x :: S) μ Φ := by
  intro p l e R s m args below meth c D cA A N0 Q α H locs ls cx w h0 h1 hl en
  exact lv_if_ge cx.1 cx.2.1 hd ht (fun q => kt q p l e R s m args below meth c D cA A N0 Q α H locs ls cx w h0 h1 hl en) (fun q => kf q p l e R s m args below meth c D cA A N0 Q α H locs ls cx w h0 h1 hl en)
theorem g_if_gt {x : Int32} {off : Int} {tgt : Nat} (hd : decode M.2.1 pc = .ok (.ifCond .gt off, 3)) (ht : (pc : Int) + off = (tgt : Int)) (kt : 0 < x → Go X d N1 M N tgt L S μ Φ) (kf : ¬ (0 < x) → Go X d N1 M N (pc + 3) L S μ Φ) : Go X d N1 M N pc L (.int x :: S) μ Φ := by
  intro p l e R s m args below meth c D cA A N0 Q α H locs ls cx w h0 h1 hl en
  exact lv_if_gt cx.1 cx.2.1 hd ht (fun q => kt q p l e R s m args below meth c D cA A N0 Q α H locs ls cx w h0 h1 hl en) (fun q => kf q p l e R s m args below meth c D cA A N0 Q α H locs ls cx w h0 h1 hl en)
theorem g_if_le {x : Int32} {off : Int} {tgt : Nat} (hd : decode M.2.1 pc = .ok (.ifCond .le off, 3)) (ht : (pc : Int) + off = (tgt : Int)) (kt : x ≤ 0 → Go X d N1 M N tgt L S μ Φ) (kf : ¬ (x ≤ 0) → Go X d N1 M N (pc + 3) L S μ Φ) : Go X d N1 M N pc L (.int x :: S) μ Φ := by
  intro p l e R s m args below meth c D cA A N0 Q α H locs ls cx w h0 h1 hl en
  exact lv_if_le cx.1 cx.2.1 hd ht (fun q => kt q p l e R s m args below meth c D cA A N0 Q α H locs ls cx w h0 h1 hl en) (fun q => kf q p l e R s m args below meth c D cA A N0 Q α H locs ls cx w h0 h1 hl en)
theorem g_tabIn {dflt lo hi : Int} {offs : Array Int} {len : Nat} {x : Int32} {off : Int} {tgt : Nat} (hd : decode M.2.1 pc = .ok (.tableswitch dflt lo hi offs, len)) (h1 : ¬ x.toInt < lo) (h2 : ¬ hi < x.toInt) (ho : offs[(x.toInt - lo).toNat]? = some off) (ht : (pc : Int) + off = (tgt : Int)) (kk : Go X d N1 M N tgt L S μ Φ) : Go X d N1 M N pc L (.int x :: S) μ Φ := by
  intro p l e R s m args below meth c D cA A N0 Q α H locs ls cx w h0 hq1 hl en
  exact lv_tableIn cx.1 cx.2.1 hd h1 h2 ho ht (kk p l e R s m args below meth c D cA A N0 Q α H locs ls cx w h0 hq1 hl en)
theorem g_tabOut {dflt lo hi : Int} {offs : Array Int} {len : Nat} {x : Int32} {tgt : Nat} (hd : decode M.2.1 pc = .ok (.tableswitch dflt lo hi offs, len)) (h : x.toInt < lo ∨ hi < x.toInt) (ht : (pc : Int) + dflt = (tgt : Int)) (kk : Go X d N1 M N tgt L S μ Φ) : Go X d N1 M N pc L (.int x :: S) μ Φ := by
  intro p l e R s m args below meth c D cA A N0 Q α H locs ls cx w h0 h1 hl en
  exact lv_tableOut cx.1 cx.2.1 hd h ht (kk p l e R s m args below meth c D cA A N0 Q α H locs ls cx w h0 h1 hl en)
theorem g_look {dflt : Int} {ps : Array (Int × Int)} {len : Nat} {x : Int32} {off : Int} {tgt : Nat} (hd : decode M.2.1 pc = .ok (.lookupswitch dflt ps, len)) (hp : (ps.toList.zip (ps.toList.drop 1)).all (fun (a, next) => a.1 < next.1) = true) (ho : Op.lookupswitch.offset ps.toList dflt x.toInt = off) (ht : (pc : Int) + off = (tgt : Int)) (kk : Go X d N1 M N tgt L S μ Φ) : Go X d N1 M N pc L (.int x :: S) μ Φ := by
  intro p l e R s m args below meth c D cA A N0 Q α H locs ls cx w h0 h1 hl en
  exact lv_lookup cx.1 cx.2.1 hd hp ho ht (kk p l e R s m args below meth c D cA A N0 Q α H locs ls cx w h0 h1 hl en)
end GoRules
