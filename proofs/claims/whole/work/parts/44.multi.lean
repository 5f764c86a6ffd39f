section
variable {X : Nat × (Nat → Int32)} {d : Nat} {I : Nat → Nat → Int32} {J : Nat → Nat → Int64}
/-! ===== a table of rows, made at once (multianewarray of two lengths): the heap in closed form ===== -/
def mxA (c : ClassId) (n h i : Nat) : Cell := arrV c n (fun j => va_rf (if j < i then some (h + 1 + j) else none))
def mxB (b : ClassId) (m : Nat) (x : Value) : Cell := arrV b m (fun _ => x)
def mxH (H : Heap) (c b : ClassId) (n m : Nat) (x : Value) (i : Nat) : Heap := H.push (mxA c n H.size i) ++ Array.replicate i (mxB b m x)
def mxT (T : State) (c b : ClassId) (n m : Nat) (x : Value) (i : Nat) : State := { T with heap := mxH T.heap c b n m x i, slotsUsed := T.slotsUsed + n + i * m }
theorem mxA_z (c : ClassId) (n h : Nat) : mxA c n h 0 = arrV c n (fun _ => .null) := by
  unfold mxA
  congr 1
theorem mxA_st (c : ClassId) (n h i : Nat) : (mxA c n h i).setSlot i (.ref (h + 1 + i)) = mxA c n h (i + 1) := by
  unfold mxA
  rw [arrV_store]
  congr 1
  funext j
  show (if j = i then Value.ref (h + 1 + i) else va_rf (if j < i then some (h + 1 + j) else none)) = va_rf (if j < i + 1 then some (h + 1 + j) else none)
  by_cases e : j = i
  · subst e; rw [if_pos rfl, if_pos (Nat.lt_succ_self j)]; rfl
  · rw [if_neg e]
    by_cases q : j < i
    · rw [if_pos q, if_pos (by omega)]
    · rw [if_neg q, if_neg (by omega)]
theorem mxA_n (c : ClassId) (n h i : Nat) : (mxA c n h i).slots.size = n := arrV_size c n _
theorem mxB_n (b : ClassId) (m : Nat) (x : Value) : (mxB b m x).slots.size = m := arrV_size b m _
theorem mxH_n (H : Heap) (c b : ClassId) (n m : Nat) (x : Value) (i : Nat) : (mxH H c b n m x i).size = H.size + 1 + i := by
  unfold mxH
  rw [Array.size_append, Array.size_push, Array.size_replicate]
theorem mxH_lo (H : Heap) (c b : ClassId) (n m : Nat) (x : Value) (i : Nat) {a : Nat} (h : a < H.size) : (mxH H c b n m x i)[a]? = H[a]? := by
  unfold mxH
  rw [Array.getElem?_append_left (by rw [Array.size_push]; omega), Array.getElem?_push, if_neg (by omega)]
theorem mxH_at (H : Heap) (c b : ClassId) (n m : Nat) (x : Value) (i : Nat) : (mxH H c b n m x i)[H.size]? = some (mxA c n H.size i) := by
  unfold mxH
  rw [Array.getElem?_append_left (by rw [Array.size_push]; omega), Array.getElem?_push, if_pos rfl]
theorem mxH_in (H : Heap) (c b : ClassId) (n m : Nat) (x : Value) {i j : Nat} (h : j < i) : (mxH H c b n m x i)[H.size + 1 + j]? = some (mxB b m x) := by
  unfold mxH
  rw [Array.getElem?_append_right (by rw [Array.size_push]; omega), Array.size_push, Array.getElem?_replicate, if_pos (by omega)]
theorem mxH_out (H : Heap) (c b : ClassId) (n m : Nat) (x : Value) (i : Nat) {a : Nat} (h : H.size + 1 + i ≤ a) : (mxH H c b n m x i)[a]? = none := Array.getElem?_eq_none (by rw [mxH_n]; exact h)
/-- a row more -/
theorem mxH_s (H : Heap) (c b : ClassId) (n m : Nat) (x : Value) (i : Nat) : ((mxH H c b n m x i).push (mxB b m x)).setIfInBounds H.size (mxA c n H.size (i + 1)) = mxH H c b n m x (i + 1) := by
  apply Array.ext_getElem?
  intro a
  rw [Array.getElem?_setIfInBounds, Array.getElem?_push, Array.size_push, mxH_n]
  rcases Nat.lt_trichotomy a H.size with q | q | q
  · rw [if_neg (by omega), if_neg (by omega), mxH_lo _ _ _ _ _ _ _ q, mxH_lo _ _ _ _ _ _ _ q]
  · subst q
    rw [if_pos rfl, if_pos (by omega), mxH_at]
  · rw [if_neg (by omega)]
    obtain ⟨j, rfl⟩ : ∃ j, a = H.size + 1 + j := ⟨a - (H.size + 1), by omega⟩
    rcases Nat.lt_trichotomy j i with r | r | r
    · rw [if_neg (by omega), mxH_in _ _ _ _ _ _ r, mxH_in _ _ _ _ _ _ (by omega)]
    · rw [if_pos (by omega), mxH_in _ _ _ _ _ _ (by omega)]
    · rw [if_neg (by omega), mxH_out _ _ _ _ _ _ _ (by omega), mxH_out _ _ _ _ _ _ _ (by omega)]
theorem mxT_z (T : State) (c b : ClassId) (n m : Nat) (x : Value) : T.pushCell (mxA c n T.heap.size 0) = mxT T c b n m x 0 := by
  unfold mxT State.pushCell mxH
  rw [mxA_n, Array.replicate_zero, Array.append_empty, Nat.zero_mul]
  rfl
theorem mxT_s (T : State) (c b : ClassId) (n m : Nat) (x : Value) (i : Nat) : ((mxT T c b n m x i).pushCell (mxB b m x)).setCell T.heap.size (mxA c n T.heap.size (i + 1)) = mxT T c b n m x (i + 1) := by
  have h1 := mxH_s T.heap c b n m x i
  have h2 : T.slotsUsed + n + i * m + m = T.slotsUsed + n + (i + 1) * m := by rw [Nat.succ_mul]; omega
  show ({ T with heap := ((mxH T.heap c b n m x i).push (mxB b m x)).setIfInBounds T.heap.size (mxA c n T.heap.size (i + 1)), slotsUsed := T.slotsUsed + n + i * m + (mxB b m x).slots.size } : State) = _
  rw [h1, mxB_n, h2]
  rfl
theorem mx_ref {t : FieldType} (h : t.isReference = true) (v : Value) (hv : v = .null ∨ ∃ a, v = .ref a) : fits t v = true := by
  cases t with
  | object _ => rcases hv with rfl | ⟨a, rfl⟩ <;> rfl
  | array _ => rcases hv with rfl | ⟨a, rfl⟩ <;> rfl
  | _ => cases h
section
variable {E : CtlPost} {e : Env} {T : State}
/-- a counted loop whose states are a row S 0, S 1, .. -/
theorem mx_for {n : Nat} {f : Nat → PUnit → Sem (ForInStep PUnit)} (S : Nat → State) (hf : ∀ i, i < n → ∀ (d : Bool) (acts : List Action) (Q' : ForInStep PUnit → Pre), (∀ d' acts', Q' (.yield PUnit.unit) d' acts' (S (i + 1))) → Sem.wp (f i PUnit.unit) Q' E e d acts (S i)) {Q : PUnit → Pre} (hq : ∀ d acts, Q PUnit.unit d acts (S n)) : ∀ (r i : Nat), i + r = n → ∀ (d : Bool) (acts : List Action), Sem.wp (forIn (List.range' i r 1) PUnit.unit f) Q E e d acts (S i)
  | 0, i, h, d, acts => by
    rw [show i = n by omega, List.range'_zero, List.forIn_nil, Sem.wp_pure']
    exact hq d acts
  | r + 1, i, h, d, acts => by
    rw [List.range'_succ, List.forIn_cons, Sem.wp_bind']
    exact hf i (by omega) d acts _ (fun d' acts' => mx_for S hf hq r (i + 1) (by omega) d' acts')
theorem mx_row {b b2 : ClassId} {kb : Class} {ty : FieldType} {m : Int32} {d : Bool} {acts : List Action} (hk : T.vm.classes[b]? = some kb) (hkind : kb.kind = .array b2 ty) (hm : ¬ m < 0) (hl : ¬ m.toNatClampNeg > e.platform.arrayLengthLimit) (hh : ¬ m.toNatClampNeg * componentBytes ty > e.platform.maxHeapBytes) (hf : fits ty (defaultValue ty) = true) (h1 : T.heap.size < e.platform.maxCells) (h2 : T.slotsUsed + m.toNatClampNeg ≤ e.platform.maxSlots)
    {Q : Addr → Pre} (hq : ∀ acts', Q T.heap.size d acts' (T.pushCell (mxB b m.toNatClampNeg (defaultValue ty)))) : Sem.wp (Op.multianewarray.make b [m]) Q E e d acts T := by
  rw [Op.multianewarray.make]
  simp only [Sem.wp_bind', Jvm.W.ite, if_neg hm, Sem.wp_pure', Jvm.W.theClass, hk, hkind, Option.some.injEq, exists_eq_left']
  refine Jvm.W.newArray_of hk hkind hl hh h1 h2 hf (fun acts' => ?_)
  have hb := hq acts'
  unfold mxB at hb
  rw [← arrV_new] at hb
  exact hb
theorem mx_tab {c b b2 : ClassId} {k kb : Class} {t0 ty : FieldType} {n m : Int32} {d : Bool} {acts : List Action} (hk : T.vm.classes[c]? = some k) (hkind : k.kind = .array b t0) (hr : t0.isReference = true) (hkb : T.vm.classes[b]? = some kb) (hkindb : kb.kind = .array b2 ty) (hn : ¬ n < 0) (hm : ¬ m < 0)
    (hl1 : ¬ n.toNatClampNeg > e.platform.arrayLengthLimit) (hh1 : ¬ n.toNatClampNeg * componentBytes t0 > e.platform.maxHeapBytes) (hl2 : ¬ m.toNatClampNeg > e.platform.arrayLengthLimit) (hh2 : ¬ m.toNatClampNeg * componentBytes ty > e.platform.maxHeapBytes)
    (hf : fits ty (defaultValue ty) = true) (hc : T.heap.size + 1 + n.toNatClampNeg ≤ e.platform.maxCells) (hs : T.slotsUsed + n.toNatClampNeg + n.toNatClampNeg * m.toNatClampNeg ≤ e.platform.maxSlots)
    {Q : Addr → Pre} (hq : ∀ d' acts', Q T.heap.size d' acts' (mxT T c b n.toNatClampNeg m.toNatClampNeg (defaultValue ty) n.toNatClampNeg)) : Sem.wp (Op.multianewarray.make c [n, m]) Q E e d acts T := by
  obtain ⟨S, hS⟩ : ∃ S : Nat → State, S = mxT T c b n.toNatClampNeg m.toNatClampNeg (defaultValue ty) := ⟨_, rfl⟩
  have hSz : ∀ i, (S i).heap.size = T.heap.size + 1 + i := fun i => by rw [hS]; exact mxH_n _ _ _ _ _ _ _
  have hSv : ∀ i, (S i).vm = T.vm := fun i => by rw [hS]; rfl
  have hSu : ∀ i, (S i).slotsUsed = T.slotsUsed + n.toNatClampNeg + i * m.toNatClampNeg := fun i => by rw [hS]; rfl
  have hno : [m].find? (· < 0) = none := List.find?_eq_none.mpr (fun v hv => by rw [List.mem_singleton.mp hv]; simpa using hm)
  rw [Op.multianewarray.make]
  simp only [Sem.wp_bind', Jvm.W.ite, if_neg hn, Sem.wp_pure', Jvm.W.theClass, hk, hkind, Option.some.injEq, exists_eq_left']
  refine Jvm.W.newArray_of hk hkind hl1 hh1 (by omega) (by omega) (mx_ref hr _ (Or.inl rfl)) (fun acts1 => ?_)
  rw [show T.pushCell { cls := c, slots := Array.replicate n.toNatClampNeg .null } = S 0 by rw [hS, ← mxT_z, mxA_z, ← arrV_new]]
  simp only [hno, ite_self, Sem.wp_bind', Std.Legacy.Range.forIn_eq_forIn_range']
  rw [show (([:n.toNatClampNeg] : Std.Legacy.Range).size) = n.toNatClampNeg by simp [Std.Legacy.Range.size]]
  refine mx_for S (fun i hi d2 acts2 Q' hnext => ?_) (fun d2 acts2 => ?_) n.toNatClampNeg 0 (Nat.zero_add _) d acts1
  · have hmul : i * m.toNatClampNeg + m.toNatClampNeg ≤ n.toNatClampNeg * m.toNatClampNeg := by
      rw [← Nat.succ_mul]; exact Nat.mul_le_mul_right _ hi
    rw [Sem.wp_bind']
    refine mx_row (by rw [hSv]; exact hkb) hkindb hm hl2 hh2 hf (by rw [hSz]; omega) (by rw [hSu]; omega) (fun acts3 => ?_)
    have hat : ((S i).pushCell (mxB b m.toNatClampNeg (defaultValue ty))).heap[T.heap.size]? = some (mxA c n.toNatClampNeg T.heap.size i) := by
      have hlt0 : T.heap.size < (S i).heap.size := by rw [hSz]; omega
      rw [State.heap_pushCell_of_lt (h := hlt0), hS]
      exact mxH_at _ _ _ _ _ _ _
    simp only [Sem.wp_bind', Jvm.W.writeLoc, Sem.wp_pure']
    refine ⟨_, hat, by simp [mxA, arrV], by rw [mxA_n]; exact hi, ?_, ?_⟩
    · show State.fitsSlot _ c .none i _ = true
      simp [State.fitsSlot, State.slotType?, hSv, hk, hkind, mx_ref hr _ (Or.inr ⟨_, rfl⟩)]
    · have hn2 : ((S i).pushCell (mxB b m.toNatClampNeg (defaultValue ty))).setCell T.heap.size ((mxA c n.toNatClampNeg T.heap.size i).setSlot i (.ref (S i).heap.size)) = S (i + 1) := by
        rw [hSz, mxA_st, hS]
        exact mxT_s _ _ _ _ _ _ _
      rw [hn2]
      exact hnext _ _
  · simp only [Sem.wp_pure']
    rw [hS]
    exact hq _ _
end
theorem over_spec {args : Array Value} {s : State} {t : FieldType} (h : (Cond.arrayOver (.array t)).before args s = true) : ∃ (b c : ClassId) (k : Class), s.vm.findClass (FieldType.array t).toString = some b ∧ s.vm.classes[c]? = some k ∧ k.kind = .array b (.array t) ∧ s.vm.findClass ("[" ++ (FieldType.array t).toString) = some c := by
  unfold Cond.before Cond.holds Cond.value at h
  rw [beq_iff_eq] at h
  dsimp only at h
  rcases hb : s.vm.findClass (FieldType.array t).toString with _ | b
  · rw [hb] at h; cases h
  · rw [hb, Option.bind_some, Option.bind_eq_some_iff] at h
    obtain ⟨c, hi, h⟩ := h
    obtain ⟨k, hk, hq⟩ := Option.map_eq_some_iff.mp h
    have hp := (Array.findIdx?_eq_some_iff_getElem.mp hi).2.1
    rw [(Array.getElem?_eq_some_iff.mp hk).2] at hp
    rcases hkind : k.kind with _ | _ | ⟨comp, ty⟩ <;> rw [hkind] at hq hp <;> simp at hq hp
    exact ⟨b, c, k, rfl, hk, by rw [hkind, hp, hq.1], hq.2⟩
section
variable {p : Program} {l : Launch} {e : Env} {R : Room} {s : State} {m : MethodId} {args : Array Value} {below : List Frame} {meth : Method} {c : Code} {T : State} {locs : List Loc} {cells slots : Nat}
theorem mx_stand (X : Stand p l e R s m args below meth c T locs cells slots) (ca cb : ClassId) (n k : Nat) (x : Value) : ∀ i, Stand p l e R s m args below meth c (mxT T ca cb n k x i) (locs ++ (List.range i).map fun j => ⟨T.heap.size, j⟩) (cells + 1 + i) (slots + n + i * k)
  | 0 => by
    have h := X.pushed (mxA ca n T.heap.size 0)
    rw [mxT_z T ca cb n k x, mxA_n] at h
    rw [Nat.zero_mul]
    exact (List.append_nil locs).symm ▸ h
  | i + 1 => by
    have hcell : ((mxT T ca cb n k x i).pushCell (mxB cb k x)).heap[T.heap.size]? = some (mxA ca n T.heap.size i) := (State.heap_pushCell_of_lt _ _ (show T.heap.size < (mxH T.heap ca cb n k x i).size by rw [mxH_n]; omega)).trans (mxH_at _ _ _ _ _ _ _)
    have h := ((mx_stand X ca cb n k x i).pushed (mxB cb k x)).stored hcell i (.ref (T.heap.size + 1 + i))
    rw [mxA_st, mxT_s, mxB_n, List.append_assoc] at h
    rw [List.range_succ, List.map_append, show slots + n + (i + 1) * k = slots + n + i * k + k by rw [Nat.succ_mul]; omega]
    exact h
/-- the instruction: one outer row, n inner rows behind it -/
theorem W.mnew {H : Heap} {Q : State → Prop} {cc : ByteArray} (hexec : p.tables.exec = Jvm.exec) (hb : c.code = cc) {own : String} {index : Nat} {ty : FieldType}
    (hown : s.vm.findClass own = some m.cls) (hlk : (Cond.classLink own index ("[" ++ (FieldType.array ty).toString)).before args s = true) (hov : (Cond.arrayOver (.array ty)).before args s = true) (har : (Cond.arrayClass ty).before args s = true)
    {pc : Nat} {ls : Array Slot} (hdg : decode cc pc = .ok (.multianewarray index 2, 4)) {n k : Nat} {ni ki : Int32} {rest : List Value} (hni : ni.toNatClampNeg = n) (hki : ki.toNatClampNeg = k)
    (hn : ¬ ni < 0) (hk : ¬ ki < 0) (hb1 : n * 4 ≤ 536870912) (hb2 : k * componentBytes ty ≤ 536870912) (hb3 : k ≤ 536870912) (hf : fits ty (defaultValue ty) = true)
    (hcells : cells + (1 + n) ≤ R.cells) (hslots : slots + (n + n * k) ≤ R.slots)
    (kk : ∀ (H1 : Heap) (ca cb : ClassId), s.vm.findClass ("[" ++ (FieldType.array ty).toString) = some ca → s.vm.findClass (FieldType.array ty).toString = some cb → H1.size = H.size + 1 + n → (∀ q, q < H.size → H1[q]? = H[q]?) → H1[H.size]? = some (arrV ca n (fun j => va_rf (if j < n then some (H.size + 1 + j) else none))) → (∀ j, j < n → H1[H.size + 1 + j]? = some (arrV cb k (fun _ => defaultValue ty))) →
      W p l e R s m args below meth c H1 (locs ++ (List.range n).map fun j => ⟨H.size, j⟩) (cells + 1 + n) (slots + n + n * k) Q (F0 m (pc + 4) ls (.ref H.size :: rest))) :
    W p l e R s m args below meth c H locs cells slots Q (F0 m pc ls (.int ki :: .int ni :: rest)) := by
  intro T hT X
  subst hT hb hni hki
  obtain ⟨cb, ca, kA, hcb, hkA, hkindA, hnA⟩ := over_spec hov
  obtain ⟨cb2, kB, cc, hcb2, hkB, hkindB⟩ := Cond.arrayClass_spec har
  obtain rfl : cb2 = cb := Option.some.inj (hcb2.symm.trans hcb)
  obtain ⟨c0, hfc, hcl⟩ := Cond.classLink_spec hown hlk e.platform (by rw [X.admits.platform])
  obtain rfl : ca = c0 := Option.some.inj (hnA.symm.trans hfc)
  obtain ⟨hg₁, hw₁, -⟩ := State.classEntry (e := e) X.warmed hcl
  obtain ⟨V, hV⟩ : ∃ V : Vm, V = T.vm.noted m.cls index (.cls ca) := ⟨_, rfl⟩
  rw [← hV] at hg₁ hw₁
  obtain ⟨kA₁, hkA₁, heA⟩ := hw₁.alike.2.2 _ _ hkA
  obtain ⟨kB₁, hkB₁, heB⟩ := hw₁.alike.2.2 _ _ hkB
  have XF := mx_stand (X.noted hw₁) ca cb2 ni.toNatClampNeg ki.toNatClampNeg (defaultValue ty) ni.toNatClampNeg
  obtain ⟨t, a1, b1⟩ := kk _ ca cb2 hnA hcb (mxH_n T.heap ca cb2 _ _ _ _) (fun q hq => mxH_lo _ _ _ _ _ _ _ hq) (mxH_at _ _ _ _ _ _ _) (fun j hj => mxH_in _ _ _ _ _ _ hj) _ rfl XF
  refine ⟨t, ?_, b1⟩
  obtain ⟨hr1, hr2⟩ := X.roomAbove hcells hslots
  have lim := Launch.admits_arrayLengthLimit X.admits
  have mem := Launch.admits_maxHeapBytes X.admits
  jvm_step X.here [hexec, hdg]
  simp only [Op.multianewarray.sem, Sem.wp_bind', Jvm.W.resolveClassAt_links (State.method?_setTop (F0 m pc ls (.int ki :: .int ni :: rest)) X.here.top) hg₁]
  rw [Jvm.W.popN, if_neg (by decide)]
  refine ⟨_, State.topJava?_setTop' (s := T.setVm V) (F0 m pc ls (.int ki :: .int ni :: rest)) X.here.top, [.int ni, .int ki], rest, rfl, rfl, ?_⟩
  simp only [List.mapM_cons, List.mapM_nil, Sem.wp_bind', Sem.wp_pure']
  refine mx_tab (t0 := .array ty) hkA₁ (by rw [heA]; exact hkindA) rfl hkB₁ (by rw [heB]; exact hkindB) hn hk (by omega) (by rw [mem]; show ¬ ni.toNatClampNeg * 4 > 536870912; omega) (by omega) (by omega) hf (by show T.heap.size + 1 + _ ≤ _; omega) (by show T.slotsUsed + _ + _ ≤ _; omega) (fun d' acts' => ?_)
  have eS : ∀ f1 f2 : JFrame, mxT (((T.setTop f1).setVm V).setTop f2) ca cb2 ni.toNatClampNeg ki.toNatClampNeg (defaultValue ty) ni.toNatClampNeg = (mxT (T.setVm V) ca cb2 ni.toNatClampNeg ki.toNatClampNeg (defaultValue ty) ni.toNatClampNeg).setTop f2 := fun f1 f2 => by
    rw [show ((T.setTop f1).setVm V).setTop f2 = ((T.setVm V).setTop f1).setTop f2 from rfl, State.setTop_setTop]
    rfl
  rw [eS]
  simp only [Sem.wp_bind', Jvm.W.mark, Jvm.W.pushRef, State.topJava?_setTop' _ XF.here.top, Option.some.injEq, exists_eq_left', State.setTop_setTop, State.heap_setTop]
  intro acts
  simp [jvm, XF.here.top]
  exact a1
end
end
