section GoCalls
variable {X : Nat × (Nat → Int32)} {d N1 : Nat} {M : Mth} {N pc : Nat} {L S : List Value} {μ : Mem} {Φ : Option Value → Mem → Prop}
theorem NX.warm {s U : State} (hW : s.WarmedH U.vm) (h : NX s) : NX U := fun a i x q hm => va_Nw.warmM hW (h a i x q hm)
theorem NX.same {s U : State} (hv : s.vm = U.vm) (h : NX s) : NX U := fun a i x q hm => va_Nw.same rfl hv (h a i x q hm)
theorem AX1.moved {ty : FieldType} {u U : State} (hvm : u.vm.Alike U.vm) (h : (Cond.arrayOver ty).before #[] u = true) : (Cond.arrayOver ty).before #[] U = true := by
  have e : (Cond.arrayOver ty).before #[] U = (Cond.arrayOver ty).before #[] (u.setVm U.vm) := rfl
  rw [e, Cond.arrayOver_setVmC hvm]
  exact h
theorem AX.moved {u U : State} (hvm : u.vm.Alike U.vm) (h : AX u) : AX U := ⟨AX1.moved hvm h.1, AX1.moved hvm h.2⟩
theorem RO.moved {A : Nat → Prop} {α : Nat → Nat} {u U : State} {H : Heap} (hvm : u.vm.Alike U.vm) (h : RO X A α u H) : RO X A α U H :=
  ⟨fun k a b => ⟨((h.1 k a b).1).moved hvm, (h.1 k a b).2⟩, h.2.1.moved hvm, h.2.2.1.moved hvm, h.2.2.2.moved hvm⟩
theorem RO.inner {A B : Nat → Prop} {α : Nat → Nat} {u : State} {H0 H : Heap} {locs : List Loc} (hS : va_S A H0 H locs) (hAB : ∀ q, B q → A q) (h : RO X A α u H0) : RO X B α u H :=
  ⟨fun k a b => by
    obtain ⟨h1, h2, h3⟩ := h.1 k a b
    exact ⟨h1.kept (hS.2.1 _ h2 h3), Nat.lt_of_lt_of_le h2 hS.1, fun q => h3 (hAB _ q)⟩,
   (h.2.1.kept hS.2.1).narrow hAB, (h.2.2.1.kept hS.2.1).narrow hAB, (h.2.2.2.kept hS.2.1).narrow hAB⟩
def PU (X : Nat × (Nat → Int32)) (D : va_G) (cA : Nat → ClassId) (N : Nat) (α : Nat → Nat) (μ : Mem) (sz : Nat) (U : State) : Prop :=
  U.heap.size = sz ∧ va_P D classes (wl cA N α μ) U.heap ∧ DA (fun _ => True) N α ∧ va_K D classes (tyL cA) U ∧ WF N μ ∧ N ≤ 66 ∧ RO X (va_A (wl cA N α μ) sz) α U U.heap ∧ NX U ∧ AX U
def QU (D : va_G) (cA : Nat → ClassId) (N N1 : Nat) (α : Nat → Nat) (μ : Mem) (sz : Nat) (u : Mem × (Nat → Nat)) (t : State) : Prop :=
  va_P D classes (wl cA N1 u.2 u.1) t.heap ∧ DA (va_A (wl cA N α μ) sz) N1 u.2 ∧ WF N1 u.1 ∧ N1 ≤ 66 ∧ (∀ k, ¬ (N ≤ k ∧ k < N1) → u.2 k = α k)
def mws (M : Mth) : List Cond := Cond.code M.1 M.2.1 M.2.2.1 M.2.2.2 :: gw_tbl
def rmD (d N N1 : Nat) : Room := { frames := d, cells := N1 - N, slots := ks N1 - ks N, locals := 40 * d }
theorem DA.self {A : Nat → Prop} {α : Nat → Nat} {cA : Nat → ClassId} {sz : Nat} (h : DA A N α) : DA (va_A (wl cA N α μ) sz) N α := ⟨h.1, fun i hi => va_A.in (wl_get hi)⟩

theorem met_i {l : Launch} {D : va_G} {cA : Nat → ClassId} {α : Nat → Nat} {sz : Nat} {As : List Value} {post : Int32 → Mem → Prop} (ty : FieldType) (hret : M.2.2.2 = some ty) (hpl : plainName M.1.cls = true) (hlen : (lg_sl As).length ≤ M.2.2.1) (hN : N ≤ N1) (g : Ct X d N1 M N As μ (RI post)) :
    Met l M.1 (mws M) (rmD d N N1) (va_Pc (As.map (cv α)) (PU X D cA N α μ sz)) (va_Qi (fun r (u : Mem × (Nat → Nat)) => post r u.1) (QU D cA N N1 α μ sz) (va_A (wl cA N α μ) sz)) (N1 - N) (ks N1 - ks N) (va_A (wl cA N α μ) sz) := by
  refine Met.ofW (cc := M.2.1) (maxL := M.2.2.1) (ret := M.2.2.2) hpl rfl ?_
  intro p e s m args below meth c s₁ B hml hv
  obtain ⟨rfl, hsz, hP, hDA, hK, hwf, h66, hro, hnx, hax⟩ := hv
  subst hsz
  have hts := atoms_spec (ws := mws M) B.pre
  rw [lg_entry_eq]
  have hg := g p l e (rmD d N N1) s m (As.map (cv α)).toArray below meth c D cA (va_A (wl cA N α μ) s.heap.size) N (MQ below (va_Qi (fun r (u : Mem × (Nat → Nat)) => post r u.1) (QU D cA N N1 α μ s.heap.size) (va_A (wl cA N α μ) s.heap.size)) (As.map (cv α)).toArray s (N1 - N) (ks N1 - ks N) (va_A (wl cA N α μ) s.heap.size)) α s.heap [] _ ⟨B.exec, B.bytes, hml, findClass_of_methodNamed B.named, fun w h => hts w (List.mem_cons_of_mem _ h), ⟨Nat.le_refl _, Nat.le_refl _, Nat.le_refl _, Nat.le_refl _⟩, hK, fun q h => Or.inr h, hro, (name_of_methodNamed B.named B.method).1, hnx, hax⟩ ⟨hP, hDA.self, va_S.rf, hwf, h66⟩ (Nat.le_refl _) hN (ent_LV (by rw [lg_cv]; exact hlen)) ?_
  · rw [Nat.sub_self, Nat.sub_self] at hg
    exact hg
  · intro v μ' α' H' locs' pc' ls' hΦv hw hα hdec hnar
    obtain ⟨x, rfl, hp⟩ := hΦv
    exact W.zret (v := x) (ty := ty) B.exec B.bytes (B.returns.trans hret) (hnar ty _ hret rfl) (fun t ht hW => ⟨⟨x, (μ', α'), rfl, hp, by rw [ht]; exact hw.1, hw.2.1, hw.2.2.2.1, hw.2.2.2.2, hα⟩, hw.2.2.1.F ht⟩) hw.2.2.1.2.2 hdec B.notSynchronized

theorem met_l {l : Launch} {D : va_G} {cA : Nat → ClassId} {α : Nat → Nat} {sz : Nat} {As : List Value} {post : Int64 → Mem → Prop} (hret : M.2.2.2 = some .long) (hpl : plainName M.1.cls = true) (hlen : (lg_sl As).length ≤ M.2.2.1) (hN : N ≤ N1) (g : Ct X d N1 M N As μ (RJ post)) :
    Met l M.1 (mws M) (rmD d N N1) (va_Pc (As.map (cv α)) (PU X D cA N α μ sz)) (va_Ql (fun r (u : Mem × (Nat → Nat)) => post r u.1) (QU D cA N N1 α μ sz) (va_A (wl cA N α μ) sz)) (N1 - N) (ks N1 - ks N) (va_A (wl cA N α μ) sz) := by
  refine Met.ofW (cc := M.2.1) (maxL := M.2.2.1) (ret := M.2.2.2) hpl rfl ?_
  intro p e s m args below meth c s₁ B hml hv
  obtain ⟨rfl, hsz, hP, hDA, hK, hwf, h66, hro, hnx, hax⟩ := hv
  subst hsz
  have hts := atoms_spec (ws := mws M) B.pre
  rw [lg_entry_eq]
  have hg := g p l e (rmD d N N1) s m (As.map (cv α)).toArray below meth c D cA (va_A (wl cA N α μ) s.heap.size) N (MQ below (va_Ql (fun r (u : Mem × (Nat → Nat)) => post r u.1) (QU D cA N N1 α μ s.heap.size) (va_A (wl cA N α μ) s.heap.size)) (As.map (cv α)).toArray s (N1 - N) (ks N1 - ks N) (va_A (wl cA N α μ) s.heap.size)) α s.heap [] _ ⟨B.exec, B.bytes, hml, findClass_of_methodNamed B.named, fun w h => hts w (List.mem_cons_of_mem _ h), ⟨Nat.le_refl _, Nat.le_refl _, Nat.le_refl _, Nat.le_refl _⟩, hK, fun q h => Or.inr h, hro, (name_of_methodNamed B.named B.method).1, hnx, hax⟩ ⟨hP, hDA.self, va_S.rf, hwf, h66⟩ (Nat.le_refl _) hN (ent_LV (by rw [lg_cv]; exact hlen)) ?_
  · rw [Nat.sub_self, Nat.sub_self] at hg
    exact hg
  · intro v μ' α' H' locs' pc' ls' hΦv hw hα hdec hnar
    obtain ⟨x, rfl, hp⟩ := hΦv
    exact W.lret (v := x) B.exec B.bytes (B.returns.trans hret) (fun t ht hW => ⟨⟨x, (μ', α'), rfl, hp, by rw [ht]; exact hw.1, hw.2.1, hw.2.2.2.1, hw.2.2.2.2, hα⟩, hw.2.2.1.F ht⟩) hw.2.2.1.2.2 hdec B.notSynchronized

theorem met_v {l : Launch} {D : va_G} {cA : Nat → ClassId} {α : Nat → Nat} {sz : Nat} {As : List Value} {post : Mem → Prop} (hret : M.2.2.2 = none) (hpl : plainName M.1.cls = true) (hlen : (lg_sl As).length ≤ M.2.2.1) (hN : N ≤ N1) (g : Ct X d N1 M N As μ (RV post)) :
    Met l M.1 (mws M) (rmD d N N1) (va_Pc (As.map (cv α)) (PU X D cA N α μ sz)) (va_Qv (fun (u : Mem × (Nat → Nat)) => post u.1) (QU D cA N N1 α μ sz) (va_A (wl cA N α μ) sz)) (N1 - N) (ks N1 - ks N) (va_A (wl cA N α μ) sz) := by
  refine Met.ofW (cc := M.2.1) (maxL := M.2.2.1) (ret := M.2.2.2) hpl rfl ?_
  intro p e s m args below meth c s₁ B hml hv
  obtain ⟨rfl, hsz, hP, hDA, hK, hwf, h66, hro, hnx, hax⟩ := hv
  subst hsz
  have hts := atoms_spec (ws := mws M) B.pre
  rw [lg_entry_eq]
  have hg := g p l e (rmD d N N1) s m (As.map (cv α)).toArray below meth c D cA (va_A (wl cA N α μ) s.heap.size) N (MQ below (va_Qv (fun (u : Mem × (Nat → Nat)) => post u.1) (QU D cA N N1 α μ s.heap.size) (va_A (wl cA N α μ) s.heap.size)) (As.map (cv α)).toArray s (N1 - N) (ks N1 - ks N) (va_A (wl cA N α μ) s.heap.size)) α s.heap [] _ ⟨B.exec, B.bytes, hml, findClass_of_methodNamed B.named, fun w h => hts w (List.mem_cons_of_mem _ h), ⟨Nat.le_refl _, Nat.le_refl _, Nat.le_refl _, Nat.le_refl _⟩, hK, fun q h => Or.inr h, hro, (name_of_methodNamed B.named B.method).1, hnx, hax⟩ ⟨hP, hDA.self, va_S.rf, hwf, h66⟩ (Nat.le_refl _) hN (ent_LV (by rw [lg_cv]; exact hlen)) ?_
  · rw [Nat.sub_self, Nat.sub_self] at hg
    exact hg
  · intro v μ' α' H' locs' pc' ls' hΦv hw hα hdec hnar
    obtain ⟨rfl, hp⟩ := hΦv
    exact W.vret B.exec B.bytes (B.returns.trans hret) (fun t ht hW => ⟨⟨(μ', α'), rfl, hp, by rw [ht]; exact hw.1, hw.2.1, hw.2.2.2.1, hw.2.2.2.2, hα⟩, hw.2.2.1.F ht⟩) hw.2.2.1.2.2 hdec B.notSynchronized

/-- what a callee's own words are -/
def ML (Mc : Mth) (n : Nat) : Prop := Cond.initialized Mc.1.cls ∈ gw_tbl ∧ Cond.code Mc.1 Mc.2.1 Mc.2.2.1 Mc.2.2.2 ∈ gw_tbl ∧ (Mc.1.cls ≠ "java/lang/invoke/MethodHandle" ∧ Mc.1.cls ≠ "java/lang/invoke/VarHandle" ∧ (parseMethodDescriptor Mc.1.desc).map (fun d => d.parameters.length) = some n) ∧ Mc.2.2.1 ≤ 20 ∧ plainName Mc.1.cls = true
def VL (own : String) (idx : Nat) (Mc : Mth) (n : Nat) : Prop := ML Mc n ∧ Cond.methodLink own idx Mc.1 ∈ gw_tbl ∧ Cond.instanceMethod Mc.1 ∈ gw_tbl ∧ Cond.selects Mc.1.cls Mc.1 Mc.1 ∈ gw_tbl
def SL (own : String) (idx : Nat) (Mc : Mth) (n : Nat) : Prop := ML Mc n ∧ Cond.static Mc.1 ∈ gw_tbl ∧ Cond.methodLink own idx Mc.1 ∈ gw_tbl
def SN (own : String) (idx : Nat) (Mc : Mth) (n : Nat) : Prop := ML Mc n ∧ Cond.static Mc.1 ∈ gw_tbl ∧ ∃ host, Cond.methodLinkNest own idx Mc.1 host ∈ lw_tbl
def IL (own : String) (idx : Nat) (Mc : Mth) (n : Nat) : Prop := ML Mc n ∧ Mc.1.name = "<init>" ∧ Cond.instanceMethod Mc.1 ∈ gw_tbl ∧ Cond.methodLink own idx Mc.1 ∈ gw_tbl
def IN (own : String) (idx : Nat) (Mc : Mth) (n : Nat) : Prop := ML Mc n ∧ Mc.1.name = "<init>" ∧ Cond.instanceMethod Mc.1 ∈ gw_tbl ∧ ∃ host, Cond.methodLinkNest own idx Mc.1 host ∈ lw_tbl
theorem mws_good {Mc : Mth} {n : Nat} (h : ML Mc n) : GoodIn gw_tbl (mws Mc) := fun w hw => (List.mem_cons.mp hw).elim (fun e => by subst e; exact tbl_good _ h.2.1) (fun q => tbl_good w q)
theorem PU.blind {D : va_G} {cA : Nat → ClassId} {α : Nat → Nat} {sz : Nat} {av : List Value} : FrameBlind (va_Pc av (PU X D cA N α μ sz)) := by
  intro a U g mk q
  obtain ⟨q0, q1, q2, q3, q4, q5, q6, q7, q8, q9⟩ := q
  exact ⟨q0, q1, q2, q3, va_K.moved (u := U) (U := U.calling g mk a) (Vm.Alike.refl U.vm) q4, q5, q6, RO.moved (u := U) (U := U.calling g mk a) (Vm.Alike.refl U.vm) q7, NX.same (s := U) (U := U.calling g mk a) rfl q8, AX.moved (u := U) (U := U.calling g mk a) (Vm.Alike.refl U.vm) q9⟩
theorem PU.of {D : va_G} {cA : Nat → ClassId} {A : Nat → Prop} {α : Nat → Nat} {s U : State} {H : Heap} {locs : List Loc} {args : Array Value} {M0 : Mth} {d0 N0 N9 : Nat} {p : Program} {R : Room} {m : MethodId} {meth : Method} {c : Code} (cx : CX X d0 N9 M0 N0 p R s m args meth c D cA A α) (w : Wd D cA A s.heap N α μ H locs) (hU : U.heap = H) (hW : s.WarmedH U.vm) : PU X D cA N α μ H.size U := by
  obtain ⟨c1, c2, c3, c4, c5, c6, c7, c8, c9, c10, c11, c12⟩ := cx
  have hF := va_free (wc := wl cA N α μ) (w.2.1.to cA μ) w.2.2.1 c8 (List.range N) (by
    apply List.ext_getElem?
    intro i
    by_cases hi : i < N
    · rw [List.getElem?_map, List.getElem?_map, wl_get hi, List.getElem?_range hi]
      simp [wl_get hi]
    · rw [List.getElem?_eq_none (by simpa using hi), List.getElem?_eq_none (by simpa [wl] using hi)])
  refine ⟨by rw [hU], by rw [hU]; exact w.1, ⟨w.2.1.1, fun _ _ => trivial⟩, va_K.moved hW.alike c7, w.2.2.2.1, w.2.2.2.2, ?_, NX.warm hW c11, AX.moved hW.alike c12⟩
  rw [hU]
  exact (RO.inner w.2.2.1 hF c9).moved hW.alike
theorem free_of {D : va_G} {cA : Nat → ClassId} {A : Nat → Prop} {α : Nat → Nat} {s : State} {H : Heap} {locs : List Loc} (hA : ∀ q, s.heap.size ≤ q → A q) (w : Wd D cA A s.heap N α μ H locs) : ∀ q, va_A (wl cA N α μ) H.size q → A q := by
  intro q hq
  rcases hq with ⟨k, e, hk⟩ | hq
  · exact (w.2.1.to cA μ).2 k _ hk
  · exact hA q (Nat.le_trans w.2.2.1.1 hq)
theorem cat_cv (α : Nat → Nat) (S : List Value) : ((S.map (cv α)).map fun v => v.category) = S.map fun v => v.category := by
  rw [List.map_map]; exact List.map_congr_left fun v _ => cv_cat α v
theorem stk_cv (α : Nat → Nat) (As S : List Value) : (As.reverse ++ S).map (cv α) = (As.map (cv α)).reverse ++ S.map (cv α) := by
  rw [List.map_append, List.map_reverse]
/-- no reference to the cells N .. N2 - 1 -/
def okR (N N2 : Nat) (l : List Value) : Bool := l.all (fun v => match v with
  | .ref k => !(decide (N ≤ k) && decide (k < N2))
  | _ => true)
theorem okR_map {N2 : Nat} {l : List Value} {α β : Nat → Nat} (h : okR N N2 l = true) (hα : ∀ k, ¬ (N ≤ k ∧ k < N2) → β k = α k) : l.map (cv α) = l.map (cv β) := by
  refine List.map_congr_left fun v hv => ?_
  have := List.all_eq_true.mp h v hv
  cases v with
  | ref k =>
    have h2 : ¬ (N ≤ k ∧ k < N2) := by
      simp at this
      intro ⟨a9, b9⟩
      rcases this with q | q
      · exact absurd a9 (Nat.not_le.mpr q)
      · exact absurd b9 (Nat.not_lt.mpr q)
    show Value.ref (α k) = Value.ref (β k)
    rw [hα k h2]
  | _ => rfl
theorem okR_LV {N2 : Nat} {l : List Value} {α β : Nat → Nat} {ls : Array Slot} {nL : Nat} (h : okR N N2 l = true) (hα : ∀ k, ¬ (N ≤ k ∧ k < N2) → β k = α k) (hl : LV ls nL α l) : LV ls nL β l := by
  refine ⟨hl.1, hl.2.1, fun i v hi hv => ?_⟩
  rw [hl.2.2 i v hi hv]
  have := List.all_eq_true.mp h v (List.mem_of_getElem? hi)
  cases v with
  | ref k =>
    have h2 : ¬ (N ≤ k ∧ k < N2) := by
      simp at this
      intro ⟨a9, b9⟩
      rcases this with q | q
      · exact absurd a9 (Nat.not_le.mpr q)
      · exact absurd b9 (Nat.not_lt.mpr q)
    show some (Slot.val (Value.ref (α k))) = some (Slot.val (Value.ref (β k)))
    rw [hα k h2]
  | _ => rfl
/-- behind a call -/
theorem g_after {D : va_G} {cA : Nat → ClassId} {A : Nat → Prop} {α : Nat → Nat} {p : Program} {l : Launch} {e : Env} {R : Room} {s : State} {m : MethodId} {args : Array Value} {below : List Frame} {meth : Method} {c : Code} {N0 N2 pc2 : Nat} {Q : State → Prop} {H H1 : Heap} {locs locs1 : List Loc} {ls : Array Slot} {u : Mem × (Nat → Nat)} {t : State} {S2 : List Value}
    (cx : CX X d N1 M N0 p R s m args meth c D cA A α) (w : Wd D cA A s.heap N α μ H locs) (h0 : N0 ≤ N) (h2 : N ≤ N2) (h21 : N2 ≤ N1) (hl : LV ls M.2.2.1 α L) (en : En N1 M N0 p l e R s m args below meth c D cA A Q α N Φ)
    (hB : QU D cA N N2 α μ H.size u t) (ht : t.heap = H1) (hS : va_S A s.heap H1 locs1) (hok : N2 = N ∨ okR N N2 (L ++ S2) = true)
    (kk : Go X d N1 M N2 pc2 L S2 u.1 Φ) : W p l e R s m args below meth c H1 locs1 ((N - N0) + (N2 - N)) ((ks N - ks N0) + (ks N2 - ks N)) Q (F0 m pc2 ls (S2.map (cv α))) := by
  obtain ⟨hP, hDA, hwf, h66, hα⟩ := hB
  have k1 := ks_le h0
  have k2 := ks_le h2
  rw [show (N - N0) + (N2 - N) = N2 - N0 by omega, show (ks N - ks N0) + (ks N2 - ks N) = ks N2 - ks N0 by omega]
  rw [ht] at hP
  have hF := free_of cx.2.2.2.2.2.2.2.1 w
  have hw2 : Wd D cA A s.heap N2 u.2 u.1 H1 locs1 := ⟨hP, ⟨hDA.1, fun i hi => hF _ (hDA.2 i hi)⟩, hS, hwf, h66⟩
  have hLS : S2.map (cv α) = S2.map (cv u.2) ∧ LV ls M.2.2.1 u.2 L := by
    rcases hok with e2 | hok
    · have : u.2 = α := funext fun k => hα k (by omega)
      rw [this]
      exact ⟨rfl, hl⟩
    · have hok' : okR N N2 L = true ∧ okR N N2 S2 = true := by
        unfold okR at hok ⊢
        rw [List.all_append, Bool.and_eq_true] at hok
        exact hok
      exact ⟨okR_map hok'.2 hα, okR_LV hok'.1 hα hl⟩
  rw [hLS.1]
  refine kk p l e R s m args below meth c D cA A N0 Q u.2 H1 locs1 ls ?_ hw2 (by omega) h21 hLS.2 ?_
  · obtain ⟨c1, c2, c3, c4, c5, c6, c7, c8, c9, c10⟩ := cx
    refine ⟨c1, c2, c3, c4, c5, c6, c7, c8, ?_, c10⟩
    have e : ∀ k, 100 ≤ k → u.2 k = α k := fun k hk => hα k (by omega)
    refine ⟨fun k a b => by rw [e k a]; exact c9.1 k a b, ?_, ?_, ?_⟩
    · rw [e 100 (by omega)]; exact c9.2.1
    · rw [e 101 (by omega)]; exact c9.2.2.1
    · rw [e 102 (by omega)]; exact c9.2.2.2
  · intro v μ' α' H' locs' pc' ls' a b c' d' e'
    exact en v μ' α' H' locs' pc' ls' a b (fun k hk => (c' k (by omega)).trans (hα k (by omega))) d' e'

theorem g_callVi {S0 : List Value} {idx n : Nat} {Mc : Mth} {As : List Value} {b : Nat} {post : Int32 → Mem → Prop} (hd : decode M.2.1 pc = .ok (.invokevirtual idx, 3)) (vl : VL M.1.cls idx Mc n) (hret : ∃ ty, Mc.2.2.2 = some ty) {ci nf : Nat} (hs : shp b = (0, ci, nf)) (hbN : b < N) (hc : ∃ T k, classes[ci]? = some (Mc.1.cls, T, k)) (hn : As.length = n) (hlen : (lg_sl (.ref b :: As)).length ≤ Mc.2.2.1) (hS8 : (S.map fun v => v.category).sum ≤ 8) (spec : Ct X d N Mc N (.ref b :: As) μ (RI post)) (hst : S0 = As.reverse ++ .ref b :: S) (kk : ∀ (x : Int32) (μ2 : Mem), post x μ2 → Go X (d + 1) N1 M N (pc + 3) L (.int x :: S) μ2 Φ) : Go X (d + 1) N1 M N pc L S0 μ Φ := by
  subst hst
  intro p l e R s m args below meth c D cA A N0 Q α H locs ls cx w h0 h1 hl en
  have hM := met_i (l := l) (D := D) (cA := cA) (α := α) (sz := H.size) hret.choose hret.choose_spec vl.1.2.2.2.2 hlen (Nat.le_refl N) spec
  obtain ⟨⟨v1, v2, v3, v4, v5⟩, vr⟩ := vl
  have hF := free_of cx.2.2.2.2.2.2.2.1 w
  have hkk := ks_le h0
  obtain ⟨hfr, hlo, hce, hsl⟩ := cx.2.2.2.2.2.1
  have hml : Mc.2.2.1 ≤ 20 := v4
  have hroom : (rmD d N N).frames + 1 ≤ R.frames ∧ 8 + (Mc.2.2.1 + 11) + (rmD d N N).locals ≤ R.locals := ⟨hfr, by show 8 + (Mc.2.2.1 + 11) + 40 * d ≤ R.locals; omega⟩
  have hk3 := ks_le h1
  obtain ⟨Tc, kc, hcc⟩ := hc
  rw [stk_cv]
  have hrun := va_runV (As := As.map (cv α)) (b := α b) (rest := S.map (cv α)) (C := Mc.1.cls) (n := n) (H := H) (locs := locs) (cells := N - N0) (slots := ks N - ks N0) (below := below) (e := e) (R := R) (p := p) (meth := meth) (g := F0 m pc ls ((As.map (cv α)).reverse ++ (.ref b :: S).map (cv α))) ⟨cx.1, cx.2.1, cx.2.2.1, cx.2.2.2.1, cx.2.2.2.2.1⟩ hM ⟨callB_of n cx.2.2.2.2.1 (mws_good ⟨v1, v2, v3, v4, v5⟩) rfl rfl rfl (cx.2.2.2.2.1 _ v1) (cx.2.2.2.2.1 _ vr.1) v3 hroom, cx.2.2.2.2.1 _ vr.2.1, cx.2.2.2.2.1 _ vr.2.2⟩ ⟨PU.blind, va_recv cx.2.2.2.2.2.2.1 w.1 hcc (wl_o hs hbN), fun U hU hW => ⟨rfl, PU.of cx w hU hW⟩⟩ rfl (by rw [List.length_map]; exact hn) hl.1 rfl (lv_room (by rw [cat_cv]; exact hS8)) hd ⟨by omega, by omega⟩
  exact va_calli hrun w.2.2.1 (fun q _ h => hF q h) hF (fun r u t H1 locs1 ht hvm hp hB hz hk hS => g_after (S2 := .int r :: S) cx w h0 (Nat.le_refl N) h1 hl en hB ht hS (Or.inl rfl) (kk r u.1 hp))
theorem g_callVl {S0 : List Value} {idx n : Nat} {Mc : Mth} {As : List Value} {b : Nat} {post : Int64 → Mem → Prop} (hd : decode M.2.1 pc = .ok (.invokevirtual idx, 3)) (vl : VL M.1.cls idx Mc n) (hret : Mc.2.2.2 = some .long) {ci nf : Nat} (hs : shp b = (0, ci, nf)) (hbN : b < N) (hc : ∃ T k, classes[ci]? = some (Mc.1.cls, T, k)) (hn : As.length = n) (hlen : (lg_sl (.ref b :: As)).length ≤ Mc.2.2.1) (hS8 : (S.map fun v => v.category).sum ≤ 8) (spec : Ct X d N Mc N (.ref b :: As) μ (RJ post)) (hst : S0 = As.reverse ++ .ref b :: S) (kk : ∀ (x : Int64) (μ2 : Mem), post x μ2 → Go X (d + 1) N1 M N (pc + 3) L (.long x :: S) μ2 Φ) : Go X (d + 1) N1 M N pc L S0 μ Φ := by
  subst hst
  intro p l e R s m args below meth c D cA A N0 Q α H locs ls cx w h0 h1 hl en
  have hM := met_l (l := l) (D := D) (cA := cA) (α := α) (sz := H.size) hret vl.1.2.2.2.2 hlen (Nat.le_refl N) spec
  obtain ⟨⟨v1, v2, v3, v4, v5⟩, vr⟩ := vl
  have hF := free_of cx.2.2.2.2.2.2.2.1 w
  have hkk := ks_le h0
  obtain ⟨hfr, hlo, hce, hsl⟩ := cx.2.2.2.2.2.1
  have hml : Mc.2.2.1 ≤ 20 := v4
  have hroom : (rmD d N N).frames + 1 ≤ R.frames ∧ 8 + (Mc.2.2.1 + 11) + (rmD d N N).locals ≤ R.locals := ⟨hfr, by show 8 + (Mc.2.2.1 + 11) + 40 * d ≤ R.locals; omega⟩
  have hk3 := ks_le h1
  obtain ⟨Tc, kc, hcc⟩ := hc
  rw [stk_cv]
  have hrun := va_runV (As := As.map (cv α)) (b := α b) (rest := S.map (cv α)) (C := Mc.1.cls) (n := n) (H := H) (locs := locs) (cells := N - N0) (slots := ks N - ks N0) (below := below) (e := e) (R := R) (p := p) (meth := meth) (g := F0 m pc ls ((As.map (cv α)).reverse ++ (.ref b :: S).map (cv α))) ⟨cx.1, cx.2.1, cx.2.2.1, cx.2.2.2.1, cx.2.2.2.2.1⟩ hM ⟨callB_of n cx.2.2.2.2.1 (mws_good ⟨v1, v2, v3, v4, v5⟩) rfl rfl rfl (cx.2.2.2.2.1 _ v1) (cx.2.2.2.2.1 _ vr.1) v3 hroom, cx.2.2.2.2.1 _ vr.2.1, cx.2.2.2.2.1 _ vr.2.2⟩ ⟨PU.blind, va_recv cx.2.2.2.2.2.2.1 w.1 hcc (wl_o hs hbN), fun U hU hW => ⟨rfl, PU.of cx w hU hW⟩⟩ rfl (by rw [List.length_map]; exact hn) hl.1 rfl (lv_room (by rw [cat_cv]; exact hS8)) hd ⟨by omega, by omega⟩
  exact va_calll hrun w.2.2.1 (fun q _ h => hF q h) hF (fun r u t H1 locs1 ht hvm hp hB hz hk hS => g_after (S2 := .long r :: S) cx w h0 (Nat.le_refl N) h1 hl en hB ht hS (Or.inl rfl) (kk r u.1 hp))
theorem g_callVv {S0 : List Value} {idx n : Nat} {Mc : Mth} {As : List Value} {b : Nat} {post : Mem → Prop} (hd : decode M.2.1 pc = .ok (.invokevirtual idx, 3)) (vl : VL M.1.cls idx Mc n) (hret : Mc.2.2.2 = none) {ci nf : Nat} (hs : shp b = (0, ci, nf)) (hbN : b < N) (hc : ∃ T k, classes[ci]? = some (Mc.1.cls, T, k)) (hn : As.length = n) (hlen : (lg_sl (.ref b :: As)).length ≤ Mc.2.2.1) (hS8 : (S.map fun v => v.category).sum ≤ 8) (spec : Ct X d N Mc N (.ref b :: As) μ (RV post)) (hst : S0 = As.reverse ++ .ref b :: S) (kk : ∀ (μ2 : Mem), post μ2 → Go X (d + 1) N1 M N (pc + 3) L S μ2 Φ) : Go X (d + 1) N1 M N pc L S0 μ Φ := by
  subst hst
  intro p l e R s m args below meth c D cA A N0 Q α H locs ls cx w h0 h1 hl en
  have hM := met_v (l := l) (D := D) (cA := cA) (α := α) (sz := H.size) hret vl.1.2.2.2.2 hlen (Nat.le_refl N) spec
  obtain ⟨⟨v1, v2, v3, v4, v5⟩, vr⟩ := vl
  have hF := free_of cx.2.2.2.2.2.2.2.1 w
  have hkk := ks_le h0
  obtain ⟨hfr, hlo, hce, hsl⟩ := cx.2.2.2.2.2.1
  have hml : Mc.2.2.1 ≤ 20 := v4
  have hroom : (rmD d N N).frames + 1 ≤ R.frames ∧ 8 + (Mc.2.2.1 + 11) + (rmD d N N).locals ≤ R.locals := ⟨hfr, by show 8 + (Mc.2.2.1 + 11) + 40 * d ≤ R.locals; omega⟩
  have hk3 := ks_le h1
  obtain ⟨Tc, kc, hcc⟩ := hc
  rw [stk_cv]
  have hrun := va_runV (As := As.map (cv α)) (b := α b) (rest := S.map (cv α)) (C := Mc.1.cls) (n := n) (H := H) (locs := locs) (cells := N - N0) (slots := ks N - ks N0) (below := below) (e := e) (R := R) (p := p) (meth := meth) (g := F0 m pc ls ((As.map (cv α)).reverse ++ (.ref b :: S).map (cv α))) ⟨cx.1, cx.2.1, cx.2.2.1, cx.2.2.2.1, cx.2.2.2.2.1⟩ hM ⟨callB_of n cx.2.2.2.2.1 (mws_good ⟨v1, v2, v3, v4, v5⟩) rfl rfl rfl (cx.2.2.2.2.1 _ v1) (cx.2.2.2.2.1 _ vr.1) v3 hroom, cx.2.2.2.2.1 _ vr.2.1, cx.2.2.2.2.1 _ vr.2.2⟩ ⟨PU.blind, va_recv cx.2.2.2.2.2.2.1 w.1 hcc (wl_o hs hbN), fun U hU hW => ⟨rfl, PU.of cx w hU hW⟩⟩ rfl (by rw [List.length_map]; exact hn) hl.1 rfl (lv_room (by rw [cat_cv]; exact hS8)) hd ⟨by omega, by omega⟩
  exact va_callv hrun w.2.2.1 (fun q _ h => hF q h) hF (fun u t H1 locs1 ht hvm hp hB hz hk hS => g_after (S2 := S) cx w h0 (Nat.le_refl N) h1 hl en hB ht hS (Or.inl rfl) (kk u.1 hp))
theorem g_callSi {S0 : List Value} {idx n : Nat} {Mc : Mth} {As : List Value} {post : Int32 → Mem → Prop} (hd : decode M.2.1 pc = .ok (.invokestatic idx, 3)) (vl : SL M.1.cls idx Mc n) (hret : ∃ ty, Mc.2.2.2 = some ty) (hn : As.length = n) (hlen : (lg_sl As).length ≤ Mc.2.2.1) (hS8 : (S.map fun v => v.category).sum ≤ 8) (spec : Ct X d N Mc N As μ (RI post)) (hst : S0 = As.reverse ++ S) (kk : ∀ (x : Int32) (μ2 : Mem), post x μ2 → Go X (d + 1) N1 M N (pc + 3) L (.int x :: S) μ2 Φ) : Go X (d + 1) N1 M N pc L S0 μ Φ := by
  subst hst
  intro p l e R s m args below meth c D cA A N0 Q α H locs ls cx w h0 h1 hl en
  have hM := met_i (l := l) (D := D) (cA := cA) (α := α) (sz := H.size) hret.choose hret.choose_spec vl.1.2.2.2.2 hlen (Nat.le_refl N) spec
  obtain ⟨⟨v1, v2, v3, v4, v5⟩, vr⟩ := vl
  have hF := free_of cx.2.2.2.2.2.2.2.1 w
  have hkk := ks_le h0
  obtain ⟨hfr, hlo, hce, hsl⟩ := cx.2.2.2.2.2.1
  have hml : Mc.2.2.1 ≤ 20 := v4
  have hroom : (rmD d N N).frames + 1 ≤ R.frames ∧ 8 + (Mc.2.2.1 + 11) + (rmD d N N).locals ≤ R.locals := ⟨hfr, by show 8 + (Mc.2.2.1 + 11) + 40 * d ≤ R.locals; omega⟩
  have hk3 := ks_le h1
  rw [stk_cv]
  have hrun := va_runS (As := As.map (cv α)) (rest := S.map (cv α)) (n := n) (H := H) (locs := locs) (cells := N - N0) (slots := ks N - ks N0) (below := below) (e := e) (R := R) (p := p) (meth := meth) (g := F0 m pc ls ((As.map (cv α)).reverse ++ S.map (cv α))) ⟨cx.1, cx.2.1, cx.2.2.1, cx.2.2.2.1, cx.2.2.2.2.1⟩ hM ⟨callB_of n cx.2.2.2.2.1 (mws_good ⟨v1, v2, v3, v4, v5⟩) rfl rfl rfl (cx.2.2.2.2.1 _ v1) (cx.2.2.2.2.1 _ vr.2) v3 hroom, cx.2.2.2.2.1 _ vr.1⟩ ⟨PU.blind, fun U hU hW => ⟨rfl, PU.of cx w hU hW⟩⟩ rfl (by rw [List.length_map]; exact hn) hl.1 rfl (lv_room (by rw [cat_cv]; exact hS8)) hd ⟨by omega, by omega⟩
  exact va_calli hrun w.2.2.1 (fun q _ h => hF q h) hF (fun r u t H1 locs1 ht hvm hp hB hz hk hS => g_after (S2 := .int r :: S) cx w h0 (Nat.le_refl N) h1 hl en hB ht hS (Or.inl rfl) (kk r u.1 hp))
theorem g_callSl {S0 : List Value} {idx n : Nat} {Mc : Mth} {As : List Value} {post : Int64 → Mem → Prop} (hd : decode M.2.1 pc = .ok (.invokestatic idx, 3)) (vl : SL M.1.cls idx Mc n) (hret : Mc.2.2.2 = some .long) (hn : As.length = n) (hlen : (lg_sl As).length ≤ Mc.2.2.1) (hS8 : (S.map fun v => v.category).sum ≤ 8) (spec : Ct X d N Mc N As μ (RJ post)) (hst : S0 = As.reverse ++ S) (kk : ∀ (x : Int64) (μ2 : Mem), post x μ2 → Go X (d + 1) N1 M N (pc + 3) L (.long x :: S) μ2 Φ) : Go X (d + 1) N1 M N pc L S0 μ Φ := by
  subst hst
  intro p l e R s m args below meth c D cA A N0 Q α H locs ls cx w h0 h1 hl en
  have hM := met_l (l := l) (D := D) (cA := cA) (α := α) (sz := H.size) hret vl.1.2.2.2.2 hlen (Nat.le_refl N) spec
  obtain ⟨⟨v1, v2, v3, v4, v5⟩, vr⟩ := vl
  have hF := free_of cx.2.2.2.2.2.2.2.1 w
  have hkk := ks_le h0
  obtain ⟨hfr, hlo, hce, hsl⟩ := cx.2.2.2.2.2.1
  have hml : Mc.2.2.1 ≤ 20 := v4
  have hroom : (rmD d N N).frames + 1 ≤ R.frames ∧ 8 + (Mc.2.2.1 + 11) + (rmD d N N).locals ≤ R.locals := ⟨hfr, by show 8 + (Mc.2.2.1 + 11) + 40 * d ≤ R.locals; omega⟩
  have hk3 := ks_le h1
  rw [stk_cv]
  have hrun := va_runS (As := As.map (cv α)) (rest := S.map (cv α)) (n := n) (H := H) (locs := locs) (cells := N - N0) (slots := ks N - ks N0) (below := below) (e := e) (R := R) (p := p) (meth := meth) (g := F0 m pc ls ((As.map (cv α)).reverse ++ S.map (cv α))) ⟨cx.1, cx.2.1, cx.2.2.1, cx.2.2.2.1, cx.2.2.2.2.1⟩ hM ⟨callB_of n cx.2.2.2.2.1 (mws_good ⟨v1, v2, v3, v4, v5⟩) rfl rfl rfl (cx.2.2.2.2.1 _ v1) (cx.2.2.2.2.1 _ vr.2) v3 hroom, cx.2.2.2.2.1 _ vr.1⟩ ⟨PU.blind, fun U hU hW => ⟨rfl, PU.of cx w hU hW⟩⟩ rfl (by rw [List.length_map]; exact hn) hl.1 rfl (lv_room (by rw [cat_cv]; exact hS8)) hd ⟨by omega, by omega⟩
  exact va_calll hrun w.2.2.1 (fun q _ h => hF q h) hF (fun r u t H1 locs1 ht hvm hp hB hz hk hS => g_after (S2 := .long r :: S) cx w h0 (Nat.le_refl N) h1 hl en hB ht hS (Or.inl rfl) (kk r u.1 hp))
theorem g_callSv {S0 : List Value} {idx n : Nat} {Mc : Mth} {As : List Value} {post : Mem → Prop} (hd : decode M.2.1 pc = .ok (.invokestatic idx, 3)) (vl : SL M.1.cls idx Mc n) (hret : Mc.2.2.2 = none) (hn : As.length = n) (hlen : (lg_sl As).length ≤ Mc.2.2.1) (hS8 : (S.map fun v => v.category).sum ≤ 8) (spec : Ct X d N Mc N As μ (RV post)) (hst : S0 = As.reverse ++ S) (kk : ∀ (μ2 : Mem), post μ2 → Go X (d + 1) N1 M N (pc + 3) L S μ2 Φ) : Go X (d + 1) N1 M N pc L S0 μ Φ := by
  subst hst
  intro p l e R s m args below meth c D cA A N0 Q α H locs ls cx w h0 h1 hl en
  have hM := met_v (l := l) (D := D) (cA := cA) (α := α) (sz := H.size) hret vl.1.2.2.2.2 hlen (Nat.le_refl N) spec
  obtain ⟨⟨v1, v2, v3, v4, v5⟩, vr⟩ := vl
  have hF := free_of cx.2.2.2.2.2.2.2.1 w
  have hkk := ks_le h0
  obtain ⟨hfr, hlo, hce, hsl⟩ := cx.2.2.2.2.2.1
  have hml : Mc.2.2.1 ≤ 20 := v4
  have hroom : (rmD d N N).frames + 1 ≤ R.frames ∧ 8 + (Mc.2.2.1 + 11) + (rmD d N N).locals ≤ R.locals := ⟨hfr, by show 8 + (Mc.2.2.1 + 11) + 40 * d ≤ R.locals; omega⟩
  have hk3 := ks_le h1
  rw [stk_cv]
  have hrun := va_runS (As := As.map (cv α)) (rest := S.map (cv α)) (n := n) (H := H) (locs := locs) (cells := N - N0) (slots := ks N - ks N0) (below := below) (e := e) (R := R) (p := p) (meth := meth) (g := F0 m pc ls ((As.map (cv α)).reverse ++ S.map (cv α))) ⟨cx.1, cx.2.1, cx.2.2.1, cx.2.2.2.1, cx.2.2.2.2.1⟩ hM ⟨callB_of n cx.2.2.2.2.1 (mws_good ⟨v1, v2, v3, v4, v5⟩) rfl rfl rfl (cx.2.2.2.2.1 _ v1) (cx.2.2.2.2.1 _ vr.2) v3 hroom, cx.2.2.2.2.1 _ vr.1⟩ ⟨PU.blind, fun U hU hW => ⟨rfl, PU.of cx w hU hW⟩⟩ rfl (by rw [List.length_map]; exact hn) hl.1 rfl (lv_room (by rw [cat_cv]; exact hS8)) hd ⟨by omega, by omega⟩
  exact va_callv hrun w.2.2.1 (fun q _ h => hF q h) hF (fun u t H1 locs1 ht hvm hp hB hz hk hS => g_after (S2 := S) cx w h0 (Nat.le_refl N) h1 hl en hB ht hS (Or.inl rfl) (kk u.1 hp))
theorem g_callSNi {S0 : List Value} {idx n : Nat} {Mc : Mth} {As : List Value} {post : Int32 → Mem → Prop} (hd : decode M.2.1 pc = .ok (.invokestatic idx, 3)) (vl : SN M.1.cls idx Mc n) (hret : ∃ ty, Mc.2.2.2 = some ty) (hn : As.length = n) (hlen : (lg_sl As).length ≤ Mc.2.2.1) (hS8 : (S.map fun v => v.category).sum ≤ 8) (spec : Ct X d N Mc N As μ (RI post)) (hst : S0 = As.reverse ++ S) (kk : ∀ (x : Int32) (μ2 : Mem), post x μ2 → Go X (d + 1) N1 M N (pc + 3) L (.int x :: S) μ2 Φ) : Go X (d + 1) N1 M N pc L S0 μ Φ := by
  subst hst
  intro p l e R s m args below meth c D cA A N0 Q α H locs ls cx w h0 h1 hl en
  have hM := met_i (l := l) (D := D) (cA := cA) (α := α) (sz := H.size) hret.choose hret.choose_spec vl.1.2.2.2.2 hlen (Nat.le_refl N) spec
  obtain ⟨⟨v1, v2, v3, v4, v5⟩, vr⟩ := vl
  have hF := free_of cx.2.2.2.2.2.2.2.1 w
  have hkk := ks_le h0
  obtain ⟨hfr, hlo, hce, hsl⟩ := cx.2.2.2.2.2.1
  have hml : Mc.2.2.1 ≤ 20 := v4
  have hroom : (rmD d N N).frames + 1 ≤ R.frames ∧ 8 + (Mc.2.2.1 + 11) + (rmD d N N).locals ≤ R.locals := ⟨hfr, by show 8 + (Mc.2.2.1 + 11) + 40 * d ≤ R.locals; omega⟩
  have hk3 := ks_le h1
  rw [stk_cv]
  obtain ⟨vs, host, vh⟩ := vr
  have hrun := va_runSN (As := As.map (cv α)) (rest := S.map (cv α)) (n := n) (H := H) (locs := locs) (cells := N - N0) (slots := ks N - ks N0) (below := below) (e := e) (R := R) (p := p) (meth := meth) (g := F0 m pc ls ((As.map (cv α)).reverse ++ S.map (cv α))) ⟨cx.1, cx.2.1, cx.2.2.1, cx.2.2.2.1, cx.2.2.2.2.1⟩ hM ⟨va_cnB n cx.2.2.2.2.1 (mws_good ⟨v1, v2, v3, v4, v5⟩) rfl rfl rfl (cx.2.2.2.2.2.2.2.2.2.2.1 _ _ _ _ vh) (cx.2.2.2.2.1 _ v1) v3 hroom, cx.2.2.2.2.1 _ vs, trivial⟩ ⟨PU.blind, fun U hU hW => ⟨rfl, PU.of cx w hU hW⟩⟩ rfl (by rw [List.length_map]; exact hn) hl.1 rfl (lv_room (by rw [cat_cv]; exact hS8)) hd ⟨by omega, by omega⟩
  exact va_calli hrun w.2.2.1 (fun q _ h => hF q h) hF (fun r u t H1 locs1 ht hvm hp hB hz hk hS => g_after (S2 := .int r :: S) cx w h0 (Nat.le_refl N) h1 hl en hB ht hS (Or.inl rfl) (kk r u.1 hp))
theorem g_callSNl {S0 : List Value} {idx n : Nat} {Mc : Mth} {As : List Value} {post : Int64 → Mem → Prop} (hd : decode M.2.1 pc = .ok (.invokestatic idx, 3)) (vl : SN M.1.cls idx Mc n) (hret : Mc.2.2.2 = some .long) (hn : As.length = n) (hlen : (lg_sl As).length ≤ Mc.2.2.1) (hS8 : (S.map fun v => v.category).sum ≤ 8) (spec : Ct X d N Mc N As μ (RJ post)) (hst : S0 = As.reverse ++ S) (kk : ∀ (x : Int64) (μ2 : Mem), post x μ2 → Go X (d + 1) N1 M N (pc + 3) L (.long x :: S) μ2 Φ) : Go X (d + 1) N1 M N pc L S0 μ Φ := by
  subst hst
  intro p l e R s m args below meth c D cA A N0 Q α H locs ls cx w h0 h1 hl en
  have hM := met_l (l := l) (D := D) (cA := cA) (α := α) (sz := H.size) hret vl.1.2.2.2.2 hlen (Nat.le_refl N) spec
  obtain ⟨⟨v1, v2, v3, v4, v5⟩, vr⟩ := vl
  have hF := free_of cx.2.2.2.2.2.2.2.1 w
  have hkk := ks_le h0
  obtain ⟨hfr, hlo, hce, hsl⟩ := cx.2.2.2.2.2.1
  have hml : Mc.2.2.1 ≤ 20 := v4
  have hroom : (rmD d N N).frames + 1 ≤ R.frames ∧ 8 + (Mc.2.2.1 + 11) + (rmD d N N).locals ≤ R.locals := ⟨hfr, by show 8 + (Mc.2.2.1 + 11) + 40 * d ≤ R.locals; omega⟩
  have hk3 := ks_le h1
  rw [stk_cv]
  obtain ⟨vs, host, vh⟩ := vr
  have hrun := va_runSN (As := As.map (cv α)) (rest := S.map (cv α)) (n := n) (H := H) (locs := locs) (cells := N - N0) (slots := ks N - ks N0) (below := below) (e := e) (R := R) (p := p) (meth := meth) (g := F0 m pc ls ((As.map (cv α)).reverse ++ S.map (cv α))) ⟨cx.1, cx.2.1, cx.2.2.1, cx.2.2.2.1, cx.2.2.2.2.1⟩ hM ⟨va_cnB n cx.2.2.2.2.1 (mws_good ⟨v1, v2, v3, v4, v5⟩) rfl rfl rfl (cx.2.2.2.2.2.2.2.2.2.2.1 _ _ _ _ vh) (cx.2.2.2.2.1 _ v1) v3 hroom, cx.2.2.2.2.1 _ vs, trivial⟩ ⟨PU.blind, fun U hU hW => ⟨rfl, PU.of cx w hU hW⟩⟩ rfl (by rw [List.length_map]; exact hn) hl.1 rfl (lv_room (by rw [cat_cv]; exact hS8)) hd ⟨by omega, by omega⟩
  exact va_calll hrun w.2.2.1 (fun q _ h => hF q h) hF (fun r u t H1 locs1 ht hvm hp hB hz hk hS => g_after (S2 := .long r :: S) cx w h0 (Nat.le_refl N) h1 hl en hB ht hS (Or.inl rfl) (kk r u.1 hp))
theorem g_callSNv {S0 : List Value} {idx n : Nat} {Mc : Mth} {As : List Value} {post : Mem → Prop} (hd : decode M.2.1 pc = .ok (.invokestatic idx, 3)) (vl : SN M.1.cls idx Mc n) (hret : Mc.2.2.2 = none) (hn : As.length = n) (hlen : (lg_sl As).length ≤ Mc.2.2.1) (hS8 : (S.map fun v => v.category).sum ≤ 8) (spec : Ct X d N Mc N As μ (RV post)) (hst : S0 = As.reverse ++ S) (kk : ∀ (μ2 : Mem), post μ2 → Go X (d + 1) N1 M N (pc + 3) L S μ2 Φ) : Go X (d + 1) N1 M N pc L S0 μ Φ := by
  subst hst
  intro p l e R s m args below meth c D cA A N0 Q α H locs ls cx w h0 h1 hl en
  have hM := met_v (l := l) (D := D) (cA := cA) (α := α) (sz := H.size) hret vl.1.2.2.2.2 hlen (Nat.le_refl N) spec
  obtain ⟨⟨v1, v2, v3, v4, v5⟩, vr⟩ := vl
  have hF := free_of cx.2.2.2.2.2.2.2.1 w
  have hkk := ks_le h0
  obtain ⟨hfr, hlo, hce, hsl⟩ := cx.2.2.2.2.2.1
  have hml : Mc.2.2.1 ≤ 20 := v4
  have hroom : (rmD d N N).frames + 1 ≤ R.frames ∧ 8 + (Mc.2.2.1 + 11) + (rmD d N N).locals ≤ R.locals := ⟨hfr, by show 8 + (Mc.2.2.1 + 11) + 40 * d ≤ R.locals; omega⟩
  have hk3 := ks_le h1
  rw [stk_cv]
  obtain ⟨vs, host, vh⟩ := vr
  have hrun := va_runSN (As := As.map (cv α)) (rest := S.map (cv α)) (n := n) (H := H) (locs := locs) (cells := N - N0) (slots := ks N - ks N0) (below := below) (e := e) (R := R) (p := p) (meth := meth) (g := F0 m pc ls ((As.map (cv α)).reverse ++ S.map (cv α))) ⟨cx.1, cx.2.1, cx.2.2.1, cx.2.2.2.1, cx.2.2.2.2.1⟩ hM ⟨va_cnB n cx.2.2.2.2.1 (mws_good ⟨v1, v2, v3, v4, v5⟩) rfl rfl rfl (cx.2.2.2.2.2.2.2.2.2.2.1 _ _ _ _ vh) (cx.2.2.2.2.1 _ v1) v3 hroom, cx.2.2.2.2.1 _ vs, trivial⟩ ⟨PU.blind, fun U hU hW => ⟨rfl, PU.of cx w hU hW⟩⟩ rfl (by rw [List.length_map]; exact hn) hl.1 rfl (lv_room (by rw [cat_cv]; exact hS8)) hd ⟨by omega, by omega⟩
  exact va_callv hrun w.2.2.1 (fun q _ h => hF q h) hF (fun u t H1 locs1 ht hvm hp hB hz hk hS => g_after (S2 := S) cx w h0 (Nat.le_refl N) h1 hl en hB ht hS (Or.inl rfl) (kk u.1 hp))
theorem g_callIv {S0 : List Value} {idx n : Nat} {Mc : Mth} {As : List Value} {b : Nat} {N2 : Nat} {post : Mem → Prop} (hd : decode M.2.1 pc = .ok (.invokespecial idx, 3)) (vl : IL M.1.cls idx Mc n) (hret : Mc.2.2.2 = none) (hn : As.length = n) (hlen : (lg_sl (.ref b :: As)).length ≤ Mc.2.2.1) (hS8 : (S.map fun v => v.category).sum ≤ 8) (h2 : N ≤ N2) (h21 : N2 ≤ N1) (hok : okR N N2 (L ++ S) = true) (spec : Ct X d N2 Mc N (.ref b :: As) μ (RV post)) (hst : S0 = As.reverse ++ .ref b :: S) (kk : ∀ (μ2 : Mem), post μ2 → Go X (d + 1) N1 M N2 (pc + 3) L S μ2 Φ) : Go X (d + 1) N1 M N pc L S0 μ Φ := by
  subst hst
  intro p l e R s m args below meth c D cA A N0 Q α H locs ls cx w h0 h1 hl en
  have hM := met_v (l := l) (D := D) (cA := cA) (α := α) (sz := H.size) hret vl.1.2.2.2.2 hlen h2 spec
  obtain ⟨⟨v1, v2, v3, v4, v5⟩, vr⟩ := vl
  have hF := free_of cx.2.2.2.2.2.2.2.1 w
  have hkk := ks_le h0
  have hk2 := ks_le h2
  have hk3 := ks_le h21
  obtain ⟨hfr, hlo, hce, hsl⟩ := cx.2.2.2.2.2.1
  have hml : Mc.2.2.1 ≤ 20 := v4
  have hroom : (rmD d N N2).frames + 1 ≤ R.frames ∧ 8 + (Mc.2.2.1 + 11) + (rmD d N N2).locals ≤ R.locals := ⟨hfr, by show 8 + (Mc.2.2.1 + 11) + 40 * d ≤ R.locals; omega⟩
  rw [stk_cv]
  have hrun := va_runI (As := As.map (cv α)) (b := α b) (rest := S.map (cv α)) (n := n) (H := H) (locs := locs) (cells := N - N0) (slots := ks N - ks N0) (below := below) (e := e) (R := R) (p := p) (meth := meth) (g := F0 m pc ls ((As.map (cv α)).reverse ++ (.ref b :: S).map (cv α))) ⟨cx.1, cx.2.1, cx.2.2.1, cx.2.2.2.1, cx.2.2.2.2.1⟩ hM ⟨(by have hcb := callB_of n cx.2.2.2.2.1 (mws_good ⟨v1, v2, v3, v4, v5⟩) rfl (rm := rmD d N N2) rfl rfl (cx.2.2.2.2.1 _ v1) (cx.2.2.2.2.1 _ vr.2.2) v3 hroom; rw [hret] at hcb; exact hcb), vr.1, cx.2.2.2.2.1 _ vr.2.1⟩ ⟨PU.blind, fun U hU hW => ⟨rfl, PU.of cx w hU hW⟩⟩ rfl (by rw [List.length_map]; exact hn) hl.1 rfl (lv_room (by rw [cat_cv]; exact hS8)) hd ⟨by omega, by omega⟩
  exact va_callv hrun w.2.2.1 (fun q _ h => hF q h) hF (fun u t H1 locs1 ht hvm hp hB hz hk hS => g_after (S2 := S) cx w h0 h2 h21 hl en hB ht hS (Or.inr hok) (kk u.1 hp))
theorem g_callINv {S0 : List Value} {idx n : Nat} {Mc : Mth} {As : List Value} {b : Nat} {N2 : Nat} {post : Mem → Prop} (hd : decode M.2.1 pc = .ok (.invokespecial idx, 3)) (vl : IN M.1.cls idx Mc n) (hret : Mc.2.2.2 = none) (hn : As.length = n) (hlen : (lg_sl (.ref b :: As)).length ≤ Mc.2.2.1) (hS8 : (S.map fun v => v.category).sum ≤ 8) (h2 : N ≤ N2) (h21 : N2 ≤ N1) (hok : okR N N2 (L ++ S) = true) (spec : Ct X d N2 Mc N (.ref b :: As) μ (RV post)) (hst : S0 = As.reverse ++ .ref b :: S) (kk : ∀ (μ2 : Mem), post μ2 → Go X (d + 1) N1 M N2 (pc + 3) L S μ2 Φ) : Go X (d + 1) N1 M N pc L S0 μ Φ := by
  subst hst
  intro p l e R s m args below meth c D cA A N0 Q α H locs ls cx w h0 h1 hl en
  have hM := met_v (l := l) (D := D) (cA := cA) (α := α) (sz := H.size) hret vl.1.2.2.2.2 hlen h2 spec
  obtain ⟨⟨v1, v2, v3, v4, v5⟩, vr⟩ := vl
  have hF := free_of cx.2.2.2.2.2.2.2.1 w
  have hkk := ks_le h0
  have hk2 := ks_le h2
  have hk3 := ks_le h21
  obtain ⟨hfr, hlo, hce, hsl⟩ := cx.2.2.2.2.2.1
  have hml : Mc.2.2.1 ≤ 20 := v4
  have hroom : (rmD d N N2).frames + 1 ≤ R.frames ∧ 8 + (Mc.2.2.1 + 11) + (rmD d N N2).locals ≤ R.locals := ⟨hfr, by show 8 + (Mc.2.2.1 + 11) + 40 * d ≤ R.locals; omega⟩
  rw [stk_cv]
  obtain ⟨vs, vi, host, vh⟩ := vr
  have hrun := va_runIN (As := As.map (cv α)) (b := α b) (rest := S.map (cv α)) (n := n) (H := H) (locs := locs) (cells := N - N0) (slots := ks N - ks N0) (below := below) (e := e) (R := R) (p := p) (meth := meth) (g := F0 m pc ls ((As.map (cv α)).reverse ++ (.ref b :: S).map (cv α))) ⟨cx.1, cx.2.1, cx.2.2.1, cx.2.2.2.1, cx.2.2.2.2.1⟩ hM ⟨(by have hcb := va_cnB n cx.2.2.2.2.1 (mws_good ⟨v1, v2, v3, v4, v5⟩) rfl (rm := rmD d N N2) rfl rfl (cx.2.2.2.2.2.2.2.2.2.2.1 _ _ _ _ vh) (cx.2.2.2.2.1 _ v1) v3 hroom; rw [hret] at hcb; exact hcb), vs, cx.2.2.2.2.1 _ vi⟩ ⟨PU.blind, fun U hU hW => ⟨rfl, PU.of cx w hU hW⟩⟩ rfl (by rw [List.length_map]; exact hn) hl.1 rfl (lv_room (by rw [cat_cv]; exact hS8)) hd ⟨by omega, by omega⟩
  exact va_callv hrun w.2.2.1 (fun q _ h => hF q h) hF (fun u t H1 locs1 ht hvm hp hB hz hk hS => g_after (S2 := S) cx w h0 h2 h21 hl en hB ht hS (Or.inr hok) (kk u.1 hp))
end GoCalls
