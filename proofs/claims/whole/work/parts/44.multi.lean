section
variable {X : Nat × (Nat → Int32)} {d : Nat} {I : Nat → Nat → Int32} {J : Nat → Nat → Int64}
/-! ===== a table of rows, made at once (multianewarray of two lengths) ===== -/
def mxA (c : ClassId) (n h i : Nat) : Cell := arrV c n (fun j => va_rf (if j < i then some (h + 1 + j) else none))
def mxS (T : State) (c b : ClassId) (n m : Nat) (x : Value) : Nat → State
  | 0 => T.pushCell (mxA c n T.heap.size 0)
  | i + 1 => ((mxS T c b n m x i).pushCell (arrV b m (fun _ => x))).setCell T.heap.size (mxA c n T.heap.size (i + 1))
theorem mxA_z (c : ClassId) (n h : Nat) : mxA c n h 0 = arrV c n (fun _ => .null) := by
  unfold mxA
  congr 1
theorem mxA_st (c : ClassId) (n h i : Nat) : (mxA c n h i).setSlot i (.ref (h + 1 + i)) = mxA c n h (i + 1) := by
  unfold mxA
  rw [arrV_store]
  congr 1
  funext j
  unfold updV
  by_cases e : j = i
  · subst e; rw [if_pos rfl, if_pos (Nat.lt_succ_self j)]; rfl
  · rw [if_neg e]
    show va_rf (if j < i then some (h + 1 + j) else none) = va_rf (if j < i + 1 then some (h + 1 + j) else none)
    by_cases q : j < i
    · rw [if_pos q, if_pos (by omega)]
    · rw [if_neg q, if_neg (by omega)]
theorem mxA_n (c : ClassId) (n h i : Nat) : (mxA c n h i).slots.size = n := arrV_size c n _
theorem mx_fact (T : State) (c b : ClassId) (n m : Nat) (x : Value) : ∀ i, (mxS T c b n m x i).heap.size = T.heap.size + 1 + i ∧ (mxS T c b n m x i).heap[T.heap.size]? = some (mxA c n T.heap.size i) ∧ (mxS T c b n m x i).vm = T.vm ∧ (mxS T c b n m x i).slotsUsed = T.slotsUsed + n + i * m
  | 0 => ⟨by simp [mxS], by simp [mxS], rfl, by simp [mxS, mxA_n]⟩
  | i + 1 => by
    obtain ⟨a1, a2, a3, a4⟩ := mx_fact T c b n m x i
    have hlt : T.heap.size < (mxS T c b n m x i).heap.size := by omega
    have h2 : ((mxS T c b n m x i).pushCell (arrV b m (fun _ => x))).heap[T.heap.size]? = some (mxA c n T.heap.size i) := by rw [State.heap_pushCell_of_lt (h := hlt)]; exact a2
    refine ⟨?_, State.heap_setCell_self h2, by simp [mxS, a3], ?_⟩
    · simp [mxS, State.setCell, a1]; omega
    · simp [mxS, a4, arrV_size, Nat.succ_mul]; omega
theorem mx_top (T : State) (f : JFrame) (c b : ClassId) (n m : Nat) (x : Value) : ∀ i, mxS (T.setTop f) c b n m x i = (mxS T c b n m x i).setTop f
  | 0 => rfl
  | i + 1 => by simp only [mxS, mx_top T f c b n m x i, State.heap_setTop, State.pushCell_setTop, State.setCell_setTop]
theorem mx_old (T : State) (c b : ClassId) (n m : Nat) (x : Value) {a : Addr} (ha : a < T.heap.size) : ∀ i, (mxS T c b n m x i).heap[a]? = T.heap[a]?
  | 0 => State.heap_pushCell_of_lt _ _ ha
  | i + 1 => by
    have f1 := (mx_fact T c b n m x i).1
    have hlt : a < (mxS T c b n m x i).heap.size := Nat.lt_of_lt_of_le ha (by rw [f1]; omega)
    show (((mxS T c b n m x i).pushCell (arrV b m (fun _ => x))).setCell T.heap.size _).heap[a]? = _
    rw [State.heap_setCell_other (Nat.ne_of_gt ha), State.heap_pushCell_of_lt (h := hlt)]
    exact mx_old T c b n m x ha i
theorem mx_in (T : State) (c b : ClassId) (n m : Nat) (x : Value) : ∀ i j, j < i → (mxS T c b n m x i).heap[T.heap.size + 1 + j]? = some (arrV b m (fun _ => x))
  | 0, _, h => absurd h (Nat.not_lt_zero _)
  | i + 1, j, h => by
    have f1 := (mx_fact T c b n m x i).1
    show (((mxS T c b n m x i).pushCell (arrV b m (fun _ => x))).setCell T.heap.size _).heap[T.heap.size + 1 + j]? = _
    rw [State.heap_setCell_other (show T.heap.size ≠ T.heap.size + 1 + j by omega)]
    rcases Nat.lt_or_ge j i with q | q
    · have hlt : T.heap.size + 1 + j < (mxS T c b n m x i).heap.size := by omega
      rw [State.heap_pushCell_of_lt (h := hlt)]
      exact mx_in T c b n m x i j q
    · have e : j = i := by omega
      subst e
      rw [← f1]
      exact State.heap_pushCell_size _ _
theorem mx_rf {t : FieldType} (h : t.isReference = true) (v : Value) (hv : v = .null ∨ ∃ a, v = .ref a) : fits t v = true := by
  rcases hv with rfl | ⟨a, rfl⟩ <;> cases t <;> simp [FieldType.isReference] at h <;> rfl
section
variable {E : CtlPost} {e : Env} {d : Bool} {acts : List Action} {T : State}
theorem mx_new {c comp : ClassId} {k : Class} {ty : FieldType} {n : Nat} {x : Value} (hk : T.vm.classes[c]? = some k) (hkind : k.kind = .array comp ty) (hl : ¬ n > e.platform.arrayLengthLimit) (hh : ¬ n * componentBytes ty > e.platform.maxHeapBytes) (hf : fits ty x = true) (hx : x.isDefault = true) {Q : Addr → Pre} (h1 : T.heap.size < e.platform.maxCells) (h2 : T.slotsUsed + n ≤ e.platform.maxSlots)
    (hq : Q T.heap.size d acts (T.pushCell (arrV c n (fun _ => x)))) : Sem.wp (Jvm.newArray c n x) Q E e d acts T := by
  rw [← arrV_new] at hq
  have hs : ∀ i v, (Array.replicate n x)[i]? = some v → T.fitsSlot c .none i v = true := by
    intro i v hv
    rw [Array.getElem?_replicate] at hv
    split at hv
    · cases hv; simp [State.fitsSlot, State.slotType?, hk, hkind, hf]
    · cases hv
  have ha : allocActs (Array.replicate n x) T.heap.size acts = acts := by
    unfold allocActs
    rw [if_pos (by rw [Array.all_replicate]; split <;> simp [hx])]
  simp only [Jvm.newArray, Jvm.arrayFits, Sem.wp_bind', Jvm.W.ask, Jvm.W.ite, hl, if_false, Sem.wp_pure', Jvm.W.theClass, hk, hkind, hh, Jvm.W.alloc, Jvm.W.stop, Option.some.injEq, exists_eq_left', Array.size_replicate, ha]
  rw [if_neg (by omega)]
  exact ⟨h1, h2, hs, hq⟩
theorem mx_row {b b2 : ClassId} {kb : Class} {ty : FieldType} {m : Int32} (hk : T.vm.classes[b]? = some kb) (hkind : kb.kind = .array b2 ty) (hm : ¬ m < 0) (hl : ¬ m.toNatClampNeg > e.platform.arrayLengthLimit) (hh : ¬ m.toNatClampNeg * componentBytes ty > e.platform.maxHeapBytes) (hf : fits ty (defaultValue ty) = true) (hx : (defaultValue ty).isDefault = true) (h1 : T.heap.size < e.platform.maxCells) (h2 : T.slotsUsed + m.toNatClampNeg ≤ e.platform.maxSlots)
    {Q : Addr → Pre} (hq : Q T.heap.size d acts (T.pushCell (arrV b m.toNatClampNeg (fun _ => defaultValue ty)))) : Sem.wp (Op.multianewarray.make b [m]) Q E e d acts T := by
  rw [Op.multianewarray.make]
  simp only [Sem.wp_bind', Jvm.W.ite, hm, if_false, Sem.wp_pure', Jvm.W.theClass, hk, hkind, Option.some.injEq, exists_eq_left']
  exact mx_new hk hkind hl hh hf hx h1 h2 hq
theorem mx_tab {c b b2 : ClassId} {k kb : Class} {t0 ty : FieldType} {n m : Int32} (hk : T.vm.classes[c]? = some k) (hkind : k.kind = .array b t0) (hr : t0.isReference = true) (hkb : T.vm.classes[b]? = some kb) (hkindb : kb.kind = .array b2 ty) (hn : ¬ n < 0) (hm : ¬ m < 0)
    (hl1 : ¬ n.toNatClampNeg > e.platform.arrayLengthLimit) (hh1 : ¬ n.toNatClampNeg * componentBytes t0 > e.platform.maxHeapBytes) (hl2 : ¬ m.toNatClampNeg > e.platform.arrayLengthLimit) (hh2 : ¬ m.toNatClampNeg * componentBytes ty > e.platform.maxHeapBytes)
    (hf : fits ty (defaultValue ty) = true) (hx : (defaultValue ty).isDefault = true) (hc : T.heap.size + 1 + n.toNatClampNeg ≤ e.platform.maxCells) (hs : T.slotsUsed + n.toNatClampNeg + n.toNatClampNeg * m.toNatClampNeg ≤ e.platform.maxSlots)
    {Q : Addr → Pre} (hq : ∀ d' acts', Q T.heap.size d' acts' (mxS T c b n.toNatClampNeg m.toNatClampNeg (defaultValue ty) n.toNatClampNeg)) : Sem.wp (Op.multianewarray.make c [n, m]) Q E e d acts T := by
  have hfind : ([m].find? (· < 0)) = none := by simp [hm]
  rw [Op.multianewarray.make]
  simp only [Sem.wp_bind', Jvm.W.ite, hn, if_false, Sem.wp_pure', Jvm.W.theClass, hk, hkind, Option.some.injEq, exists_eq_left']
  refine mx_new hk hkind hl1 hh1 (mx_rf hr _ (Or.inl rfl)) rfl (by omega) (by omega) ?_
  rw [← mxA_z c n.toNatClampNeg T.heap.size]
  simp only [hfind]
  rw [ite_self, Sem.wp_bind', Std.Legacy.Range.forIn_eq_forIn_range']
  have hsz : ([:n.toNatClampNeg] : Std.Legacy.Range).size = n.toNatClampNeg := by simp [Std.Legacy.Range.size]
  rw [hsz]
  show Sem.wp (forIn (List.range' 0 n.toNatClampNeg 1) PUnit.unit _) _ E e d acts _
  refine wp_forIn_inv (fun rest U => ∃ i, i ≤ n.toNatClampNeg ∧ rest = List.range' i (n.toNatClampNeg - i) ∧ U = mxS T c b n.toNatClampNeg m.toNatClampNeg (defaultValue ty) i) _ _ ⟨0, Nat.zero_le _, rfl, rfl⟩ ?_ ?_
  · intro x rest U d' acts' Q' ⟨i, hi, hl, hU⟩ hnext
    subst hU
    have hlt : i < n.toNatClampNeg := by
      rcases Nat.lt_or_ge i n.toNatClampNeg with q | q
      · exact q
      · rw [show n.toNatClampNeg - i = 0 by omega] at hl; cases hl
    rw [show n.toNatClampNeg - i = (n.toNatClampNeg - (i + 1)) + 1 by omega, List.range'_succ] at hl
    obtain ⟨hxi, hrest⟩ := List.cons.inj hl
    subst hxi
    obtain ⟨f1, f2, f3, f4⟩ := mx_fact T c b n.toNatClampNeg m.toNatClampNeg (defaultValue ty) x
    have hmul : x * m.toNatClampNeg + m.toNatClampNeg ≤ n.toNatClampNeg * m.toNatClampNeg := by
      have := Nat.mul_le_mul_right m.toNatClampNeg (show x + 1 ≤ n.toNatClampNeg from hlt)
      rw [Nat.succ_mul] at this; exact this
    simp only [Sem.wp_bind']
    refine mx_row (by rw [f3]; exact hkb) hkindb hm hl2 hh2 hf hx (by rw [f1]; omega) (by rw [f4]; omega) ?_
    have hlt0 : T.heap.size < (mxS T c b n.toNatClampNeg m.toNatClampNeg (defaultValue ty) x).heap.size := by rw [f1]; omega
    simp only [Sem.wp_bind', Jvm.W.writeLoc, Sem.wp_pure']
    refine ⟨mxA c n.toNatClampNeg T.heap.size x, by rw [State.heap_pushCell_of_lt (h := hlt0)]; exact f2, by simp [mxA, arrV], by rw [mxA_n]; exact hlt, ?_, hnext _ _ _ ⟨x + 1, hlt, hrest, ?_⟩⟩
    · show State.fitsSlot _ c .none x _ = true
      simp [State.fitsSlot, State.slotType?, f3, hk, hkind, mx_rf hr _ (Or.inr ⟨_, rfl⟩)]
    · rw [f1, mxA_st]; rfl
  · intro U d' acts' ⟨i, hi, hl, hU⟩
    subst hU
    have hiN : i = n.toNatClampNeg := by
      rcases Nat.lt_or_ge i n.toNatClampNeg with q | q
      · rw [show n.toNatClampNeg - i = (n.toNatClampNeg - (i + 1)) + 1 by omega, List.range'_succ] at hl; cases hl
      · omega
    subst hiN
    simp only [Sem.wp_pure']
    exact hq _ _
end
theorem over_spec {args : Array Value} {s : State} {t : FieldType} (h : (Cond.arrayOver (.array t)).before args s = true) : ∃ (b c : ClassId) (k : Class), s.vm.findClass (FieldType.array t).toString = some b ∧ s.vm.classes[c]? = some k ∧ k.kind = .array b (.array t) ∧ s.vm.findClass ("[" ++ (FieldType.array t).toString) = some c := by
  simp only [Cond.before, Cond.holds, Cond.value, beq_iff_eq] at h
  cases hb : s.vm.findClass (FieldType.array t).toString with
  | none => simp [hb] at h
  | some b =>
    simp only [hb, Option.bind_some, Option.bind_eq_some_iff, Option.map_eq_some_iff] at h
    obtain ⟨c, hi, k, hk, hq⟩ := h
    obtain ⟨hlt, hp, -⟩ := Array.findIdx?_eq_some_iff_getElem.mp hi
    rw [(Array.getElem?_eq_some_iff.mp hk).2] at hp
    cases hkind : k.kind with
    | array comp ty =>
      rw [hkind] at hq hp
      simp at hq hp
      exact ⟨b, c, k, rfl, hk, by rw [hkind, hp, hq.1], hq.2⟩
    | _ => rw [hkind] at hq; simp at hq
section
variable {p : Program} {l : Launch} {e : Env} {R : Room} {s : State} {m : MethodId} {args : Array Value} {below : List Frame} {meth : Method} {c : Code} {T : State} {locs : List Loc} {cells slots : Nat}
theorem mx_stand (X : Stand p l e R s m args below meth c T locs cells slots) (ca cb : ClassId) (n k : Nat) (x : Value) : ∀ i, Stand p l e R s m args below meth c (mxS T ca cb n k x i) (locs ++ (List.range i).map fun j => ⟨T.heap.size, j⟩) (cells + 1 + i) (slots + n + i * k)
  | 0 => by
    have h := X.pushed (mxA ca n T.heap.size 0)
    rw [mxA_n] at h
    simpa [mxS] using h
  | i + 1 => by
    have Xi := mx_stand X ca cb n k x i
    obtain ⟨f1, f2, f3, f4⟩ := mx_fact T ca cb n k x i
    have hlt : T.heap.size < (mxS T ca cb n k x i).heap.size := by rw [f1]; omega
    have hcell : ((mxS T ca cb n k x i).pushCell (arrV cb k (fun _ => x))).heap[T.heap.size]? = some (mxA ca n T.heap.size i) := by rw [State.heap_pushCell_of_lt (h := hlt)]; exact f2
    have h := (Xi.pushed (arrV cb k (fun _ => x))).stored hcell i (.ref (T.heap.size + 1 + i))
    rw [mxA_st, arrV_size] at h
    have e2 : (locs ++ (List.range (i + 1)).map fun j => (⟨T.heap.size, j⟩ : Loc)) = (locs ++ (List.range i).map fun j => (⟨T.heap.size, j⟩ : Loc)) ++ [⟨T.heap.size, i⟩] := by rw [List.range_succ, List.map_append, List.append_assoc]; rfl
    have e3 : slots + n + (i + 1) * k = slots + n + i * k + k := by rw [Nat.succ_mul]; omega
    rw [e2, e3]
    exact h
theorem mx_step (X : Stand p l e R s m args below meth c T locs cells slots) (hexec : p.tables.exec = Jvm.exec) {own : String} {index : Nat} {ty : FieldType}
    (hown : s.vm.findClass own = some m.cls) (hlk : (Cond.classLink own index ("[" ++ (FieldType.array ty).toString)).before args s = true) (hov : (Cond.arrayOver (.array ty)).before args s = true) (har : (Cond.arrayClass ty).before args s = true)
    {g : JFrame} (hg : g.method = m) (hdg : decode c.code g.pc = .ok (.multianewarray index 2, 4)) {n k : Int32} {rest : List Value} (hst : g.stack = .int k :: .int n :: rest)
    (hn : ¬ n < 0) (hk : ¬ k < 0) (hb1 : n.toNatClampNeg * 4 ≤ 536870912) (hb2 : k.toNatClampNeg * componentBytes ty ≤ 536870912) (hb3 : k.toNatClampNeg ≤ 536870912) (hf : fits ty (defaultValue ty) = true) (hx : (defaultValue ty).isDefault = true)
    (hcells : cells + (1 + n.toNatClampNeg) ≤ R.cells) (hslots : slots + (n.toNatClampNeg + n.toNatClampNeg * k.toNatClampNeg) ≤ R.slots) :
    ∃ (vm₁ : Vm) (ca cb : ClassId), s.vm.findClass ("[" ++ (FieldType.array ty).toString) = some ca ∧ s.vm.findClass (FieldType.array ty).toString = some cb ∧
      Stand p l e R s m args below meth c (mxS (T.setVm vm₁) ca cb n.toNatClampNeg k.toNatClampNeg (defaultValue ty) n.toNatClampNeg) (locs ++ (List.range n.toNatClampNeg).map fun j => ⟨T.heap.size, j⟩) (cells + 1 + n.toNatClampNeg) (slots + n.toNatClampNeg + n.toNatClampNeg * k.toNatClampNeg) ∧
      ∀ tg, Steps p.tables e below ((mxS (T.setVm vm₁) ca cb n.toNatClampNeg k.toNatClampNeg (defaultValue ty) n.toNatClampNeg).setTop { g with pc := g.pc + 4, stack := .ref T.heap.size :: rest }) tg → Steps p.tables e below (T.setTop g) tg := by
  subst hg
  have hpl : e.platform.magicAccessors = ({} : Platform).magicAccessors := by rw [X.admits.platform]
  obtain ⟨cb, ca, kA, hcb, hkA, hkindA, hnA⟩ := over_spec hov
  obtain ⟨cb2, kB, cc, hcb2, hkB, hkindB⟩ := Cond.arrayClass_spec har
  cases Option.some.inj (hcb2.symm.trans hcb)
  obtain ⟨c0, hfc, hcl⟩ := Cond.classLink_spec hown hlk e.platform hpl
  cases hnA.symm.trans hfc
  obtain ⟨hg₁, hw₁, hr₁⟩ := State.classEntry (e := e) X.warmed hcl
  generalize T.vm.noted g.method.cls index (.cls ca) = vm₁ at hg₁ hw₁ hr₁
  obtain ⟨kA₁, hkA₁, heA⟩ := hw₁.alike.2.2 _ _ hkA
  obtain ⟨kB₁, hkB₁, heB⟩ := hw₁.alike.2.2 _ _ hkB
  have X₁ := X.noted hw₁
  have XF := mx_stand X₁ ca cb n.toNatClampNeg k.toNatClampNeg (defaultValue ty) n.toNatClampNeg
  obtain ⟨hr1, hr2⟩ := X.roomAbove hcells hslots
  refine ⟨vm₁, ca, cb, hnA, hcb, XF, fun tg hrest => ?_⟩
  have q1 : ¬ n.toNatClampNeg > e.platform.arrayLengthLimit := by rw [Launch.admits_arrayLengthLimit X.admits]; omega
  have q2 : ¬ n.toNatClampNeg * componentBytes (.array ty) > e.platform.maxHeapBytes := by
    rw [Launch.admits_maxHeapBytes X.admits]; show ¬ n.toNatClampNeg * 4 > 536870912; omega
  have q3 : ¬ k.toNatClampNeg > e.platform.arrayLengthLimit := by rw [Launch.admits_arrayLengthLimit X.admits]; omega
  have q4 : ¬ k.toNatClampNeg * componentBytes ty > e.platform.maxHeapBytes := by rw [Launch.admits_maxHeapBytes X.admits]; omega
  jvm_step X.here [hexec, hdg]
  simp only [Op.multianewarray.sem, Sem.wp_bind', Jvm.W.resolveClassAt_links (State.method?_setTop g X.here.top) hg₁]
  rw [Jvm.W.popN, if_neg (by decide)]
  refine ⟨g, State.topJava?_setTop' (s := T.setVm vm₁) g X.here.top, [.int n, .int k], rest, rfl, hst, ?_⟩
  simp only [List.mapM_cons, List.mapM_nil, Sem.wp_bind', Sem.wp_pure']
  refine mx_tab (k := kA₁) (kb := kB₁) (b := cb) (b2 := cc) (t0 := .array ty) (ty := ty) hkA₁ (by rw [heA]; exact hkindA) rfl hkB₁ (by rw [heB]; exact hkindB) hn hk q1 q2 q3 q4 hf hx (by show T.heap.size + 1 + _ ≤ _; omega) (by show T.slotsUsed + _ + _ ≤ _; omega) (fun d' acts' => ?_)
  have eS : ((T.setTop g).setVm vm₁).setTop { g with stack := rest } = (T.setVm vm₁).setTop { g with stack := rest } := by
    show ((T.setVm vm₁).setTop g).setTop _ = _
    rw [State.setTop_setTop]
  rw [eS, mx_top]
  simp only [Sem.wp_bind', Jvm.W.mark, Jvm.W.pushRef, State.topJava?_setTop' _ XF.here.top, Option.some.injEq, exists_eq_left', State.setTop_setTop, State.heap_setTop]
  intro acts
  simp [jvm, XF.here.top]
  exact hrest
theorem W.mnew {H : Heap} {Q : State → Prop} {cc : ByteArray} (hexec : p.tables.exec = Jvm.exec) (hb : c.code = cc) {own : String} {index : Nat} {ty : FieldType}
    (hown : s.vm.findClass own = some m.cls) (hlk : (Cond.classLink own index ("[" ++ (FieldType.array ty).toString)).before args s = true) (hov : (Cond.arrayOver (.array ty)).before args s = true) (har : (Cond.arrayClass ty).before args s = true)
    {pc : Nat} {ls : Array Slot} (hdg : decode cc pc = .ok (.multianewarray index 2, 4)) {n k : Nat} {ni ki : Int32} {rest : List Value} (hni : ni.toNatClampNeg = n) (hki : ki.toNatClampNeg = k)
    (hn : ¬ ni < 0) (hk : ¬ ki < 0) (hb1 : n * 4 ≤ 536870912) (hb2 : k * componentBytes ty ≤ 536870912) (hb3 : k ≤ 536870912) (hf : fits ty (defaultValue ty) = true) (hx : (defaultValue ty).isDefault = true)
    (hcells : cells + (1 + n) ≤ R.cells) (hslots : slots + (n + n * k) ≤ R.slots)
    (kk : ∀ (H1 : Heap) (ca cb : ClassId), s.vm.findClass ("[" ++ (FieldType.array ty).toString) = some ca → s.vm.findClass (FieldType.array ty).toString = some cb → H1.size = H.size + 1 + n → (∀ q, q < H.size → H1[q]? = H[q]?) → H1[H.size]? = some (arrV ca n (fun j => va_rf (if j < n then some (H.size + 1 + j) else none))) → (∀ j, j < n → H1[H.size + 1 + j]? = some (arrV cb k (fun _ => defaultValue ty))) →
      W p l e R s m args below meth c H1 (locs ++ (List.range n).map fun j => ⟨H.size, j⟩) (cells + 1 + n) (slots + n + n * k) Q (F0 m (pc + 4) ls (.ref H.size :: rest))) :
    W p l e R s m args below meth c H locs cells slots Q (F0 m pc ls (.int ki :: .int ni :: rest)) := by
  intro T hT X
  subst hT
  subst hb
  subst hni
  subst hki
  obtain ⟨vm₁, ca, cb, h1, h2, X1, st⟩ := mx_step X hexec hown hlk hov har (g := F0 m pc ls (.int ki :: .int ni :: rest)) rfl hdg rfl hn hk hb1 hb2 hb3 hf hx hcells hslots
  obtain ⟨f1, f2, f3, f4⟩ := mx_fact (T.setVm vm₁) ca cb ni.toNatClampNeg ki.toNatClampNeg (defaultValue ty) ni.toNatClampNeg
  obtain ⟨t, a1, b1⟩ := kk _ ca cb h1 h2 f1 (fun q hq => mx_old (T.setVm vm₁) ca cb _ _ _ hq _) f2 (fun j hj => mx_in (T.setVm vm₁) ca cb _ _ _ _ j hj) _ rfl X1
  exact ⟨t, st t a1, b1⟩
end
end
