section
variable {X : Nat × (Nat → Int32)} {d : Nat} {I : Nat → Nat → Int32} {J : Nat → Nat → Int64}
/-! ===== making objects and rows ===== -/
section
variable {d N1 : Nat} {M : Mth} {N pc : Nat} {L S : List Value} {F : Nat → Nat → Option Nat} {Φ : Option Value → Mem → Prop}
theorem upR_id {β : Type} {f : Nat → β} {k : Nat} {g : β} (h : f k = g) : upR f k g = f := funext fun a => by
  by_cases e : a = k
  · subst e; rw [upR_s, h]
  · rw [upR_n e]
theorem cell_same {cA : Nat → ClassId} {α α' : Nat → Nat} {μ μ' : Mem} {k : Nat} (hwf : WF N μ) (hk : k < N) (h1 : μ'.1 k = μ.1 k) (h2 : μ'.2.1 k = μ.2.1 k) (h3 : μ'.2.2 k = μ.2.2 k) (hα : ∀ t, t < N → α' t = α t) : cellE cA α' μ' k = cellE cA α μ k := by
  have hm : ∀ j, (μ'.2.2 k j).map α' = (μ.2.2 k j).map α := by
    intro j
    rw [h3]
    cases hq : μ.2.2 k j with
    | none => rfl
    | some t => exact congrArg some (hα t (hwf k hk j t hq))
  unfold cellE
  split
  · refine congrArg (fun z => Sum.inr (_, z)) (List.map_congr_left fun j _ => ?_)
    unfold fval
    rw [h1, h2, hm j]
  · have h9 : ∀ t, arrE α' μ' k t = arrE α μ k t := by
      intro t
      unfold arrE
      rw [h1, h2, show (fun j => (μ'.2.2 k j).map α') = (fun j => (μ.2.2 k j).map α) from funext hm]
    rw [h9]
theorem wl_app {cA : Nat → ClassId} {α α' : Nat → Nat} {μ μ' : Mem} {q : Nat} {E : va_E} (hq : α' N = q) (hE : cellE cA α' μ' N = E) (hα : ∀ t, t < N → α' t = α t) (hc : ∀ k, k < N → cellE cA α' μ' k = cellE cA α μ k) : wl cA N α μ ++ [(q, E)] = wl cA (N + 1) α' μ' := by
  unfold wl
  rw [List.range_succ, List.map_append]
  congr 1
  · refine List.map_congr_left fun k hk => ?_
    have hk' := List.mem_range.mp hk
    rw [hα k hk', hc k hk']
  · show [(q, E)] = [(α' N, cellE cA α' μ' N)]
    rw [hq, hE]
/-- more cells than before -/
theorem g_grow {D : va_G} {cA : Nat → ClassId} {A : Nat → Prop} {α α' : Nat → Nat} {p : Program} {l : Launch} {e : Env} {R : Room} {s : State} {m : MethodId} {args : Array Value} {below : List Frame} {meth : Method} {c : Code} {N0 N2 pc2 : Nat} {Q : State → Prop} {H1 : Heap} {locs1 : List Loc} {ls : Array Slot} {μ' : Mem} {S2 : List Value}
    (cx : CX X d N1 M N0 p R s m args meth c D cA A α) (h0 : N0 ≤ N) (h2 : N ≤ N2) (h21 : N2 ≤ N1) (h66 : N2 ≤ 66) (hl : LV ls M.2.2.1 α L) (en : En N1 M N0 p l e R s m args below meth c D cA A Q α N Φ)
    (hw2 : Wd D cA A s.heap N2 α' μ' H1 locs1) (hα : ∀ k, ¬ (N ≤ k ∧ k < N2) → α' k = α k) (hok : okR N N2 L = true)
    (kk : Go X d N1 M N2 pc2 L S2 μ' Φ) : W p l e R s m args below meth c H1 locs1 (N2 - N0) (ks N2 - ks N0) Q (F0 m pc2 ls (S2.map (cv α'))) := by
  refine kk p l e R s m args below meth c D cA A N0 Q α' H1 locs1 ls ?_ hw2 (by omega) h21 (okR_LV hok hα hl) ?_
  · obtain ⟨c1, c2, c3, c4, c5, c6, c7, c8, c9, c10⟩ := cx
    refine ⟨c1, c2, c3, c4, c5, c6, c7, c8, ?_, c10⟩
    have e : ∀ k, 100 ≤ k → α' k = α k := fun k hk => hα k (by omega)
    refine ⟨fun k a b => by rw [e k a]; exact c9.1 k a b, ?_, ?_, ?_⟩
    · rw [e 100 (by omega)]; exact c9.2.1
    · rw [e 101 (by omega)]; exact c9.2.2.1
    · rw [e 102 (by omega)]; exact c9.2.2.2
  · intro v μ2 α2 H' locs' pc' ls' a b c' d' e'
    exact en v μ2 α2 H' locs' pc' ls' a b (fun k hk => (c' k (by omega)).trans (hα k (by omega))) d' e'
theorem okR_two {N2 : Nat} {a b : List Value} (h : okR N N2 (a ++ b) = true) : okR N N2 a = true ∧ okR N N2 b = true := by
  unfold okR at h ⊢
  rw [List.all_append, Bool.and_eq_true] at h
  exact h
/-- a class that is made here -/
def NL (own : String) (idx ci nf : Nat) : Prop := ∃ (C : String) (T : u_T), classes[ci]? = some (C, T, nf) ∧ (∀ w ∈ u_ws C T nf, w ∈ gw_tbl) ∧ (∀ k, k < nf → parseFieldDescriptor (T k).2.2.1 = some (tyOf ci k)) ∧ Cond.classLink own idx C ∈ gw_tbl ∧ Cond.instantiable C nf ∈ gw_tbl ∧ Cond.initialized C ∈ gw_tbl ∧ ∀ k, k < nf → (tyOf ci k = .int ∨ tyOf ci k = .long ∨ isR (tyOf ci k) = true)
theorem fv_def {α : Nat → Nat} {ci k j : Nat} {μ : Mem} (h1 : μ.1 k = fun _ => 0) (h2 : μ.2.1 k = fun _ => 0) (h3 : μ.2.2 k = fun _ => none) (ht : tyOf ci j = .int ∨ tyOf ci j = .long ∨ isR (tyOf ci j) = true) : fval α μ ci k j = defaultValue (tyOf ci j) := by
  rcases ht with h | h | h
  · rw [fval_i h, h, h1]; rfl
  · rw [fval_l h, h, h2]; rfl
  · rw [fval_r h, h3]
    cases h9 : tyOf ci j <;> first | rfl | (rw [h9] at h; cases h)
theorem ks_s {n t i : Nat} (hs : shp N = (t, i, n)) : ks (N + 1) = ks N + n := by
  show ks N + (shp N).2.2 = _
  rw [hs]
theorem t_new {idx ci nf : Nat} (hd : decode M.2.1 pc = .ok (.new idx, 3)) (nl : NL M.1.cls idx ci nf) (hs : shp N = (0, ci, nf)) (hN : N + 1 ≤ N1) (h66 : N + 1 ≤ 66) (hok : okR N (N + 1) (L ++ S) = true) (hI : I N = fun _ => 0) (hJ : J N = fun _ => 0) (kk : Go X d N1 M (N + 1) (pc + 3) L (.ref N :: S) (I, J, upR F N (fun _ => none)) Φ) : Go X d N1 M N pc L S (I, J, F) Φ := by
  intro p l e R s m args below meth c D cA A N0 Q α H locs ls cx w h0 h1 hl en
  obtain ⟨C, T, hc, hin, hty, hlk, hinst, hini, htys⟩ := nl
  obtain ⟨ok1, ok2⟩ := okR_two hok
  have k1 := ks_le h0
  have k2 := ks_s hs
  have k3 := ks_le hN
  have hrm := cx.2.2.2.2.2.1
  refine va_new (D := D) (ci := ci) (fs := (List.range nf).map (fun j => defaultValue (tyOf ci j))) cx.1 cx.2.1 cx.2.2.2.2.1 hin (tyOf ci) hty cx.2.2.2.1 (cx.2.2.2.2.1 _ hlk) (cx.2.2.2.2.1 _ hinst) (cx.2.2.2.2.1 _ hini) cx.2.2.2.2.2.2.1 w.1 (w.2.1.to cA (I, J, F)) w.2.2.1 cx.2.2.2.2.2.2.2.1 hc (fun j hj => ?_) (by have := hrm.2.2.1; omega) (by have := hrm.2.2.2; omega) hd (fun q H1 hP hD hS => ?_)
  · unfold vp_V
    rw [List.getD_eq_getElem?_getD, rng_at hj]
    rfl
  · have hα : ∀ k, ¬ (N ≤ k ∧ k < N + 1) → upR α N q k = α k := fun k hk => upR_n (by omega)
    have hαt : ∀ t, t < N → upR α N q t = α t := fun t ht => upR_n (by omega)
    have hμ : ∀ k, k < N → cellE cA (upR α N q) (I, J, upR F N (fun _ => none)) k = cellE cA α (I, J, F) k := fun k hk => cell_same w.2.2.2.1 hk rfl rfl (upR_n (show k ≠ N by omega)) hαt
    have hwl := wl_app (cA := cA) (α := α) (α' := upR α N q) (μ := (I, J, F)) (μ' := (I, J, upR F N (fun _ => none))) (q := q) (E := .inr (ci, (List.range nf).map (fun j => defaultValue (tyOf ci j)))) upR_s (by
      rw [cell_o hs]
      refine congrArg (fun z => Sum.inr (ci, z)) (List.map_congr_left fun j hj => ?_)
      exact fv_def hI hJ upR_s (htys j (List.mem_range.mp hj))) hαt hμ
    rw [hwl] at hP hD
    have hw2 : Wd D cA A s.heap (N + 1) (upR α N q) (I, J, upR F N (fun _ => none)) H1 locs := ⟨hP, DA.of hD, hS, fun k hk j t ht => by
      by_cases e : k = N
      · subst e
        have ht' : upR F k (fun _ => none) k j = some t := ht
        rw [upR_s] at ht'; cases ht'
      · have ht' : upR F N (fun _ => none) k j = some t := ht
        rw [upR_n e] at ht'
        have := w.2.2.2.1 k (by omega) j t ht'
        omega, h66⟩
    have hg := g_grow (N2 := N + 1) cx h0 (Nat.le_succ N) hN h66 hl en hw2 hα ok1 kk
    rw [show N - N0 + 1 = N + 1 - N0 by omega, show ks N - ks N0 + nf = ks (N + 1) - ks N0 by omega]
    rw [okR_map ok2 hα]
    have e9 : (Value.ref N :: S).map (cv (upR α N q)) = .ref q :: S.map (cv (upR α N q)) := by
      rw [List.map_cons]
      show Value.ref (upR α N q N) :: _ = _
      rw [upR_s]
    rw [e9] at hg
    exact hg
theorem t_newa {t n : Nat} {at_ : ArrayType} {ni : Int32} (hd : decode M.2.1 pc = .ok (.newarray at_, 2)) (hty : newarray.typeOf at_ = arrT t) (ht : t < 3) (hlk : Cond.arrayClass (newarray.typeOf at_) ∈ gw_tbl) (hs : shp N = (1, t, n)) (hn0 : ¬ ni < 0) (hn : ni.toNatClampNeg = n) (hb : n * componentBytes (newarray.typeOf at_) ≤ 536870912) (hN : N + 1 ≤ N1) (h66 : N + 1 ≤ 66) (hok : okR N (N + 1) (L ++ S) = true) (hI : I N = fun _ => 0) (hJ : J N = fun _ => 0) (hF : F N = fun _ => none) (kk : Go X d N1 M (N + 1) (pc + 2) L (.ref N :: S) (I, J, F) Φ) : Go X d N1 M N pc L (.int ni :: S) (I, J, F) Φ := by
  intro p l e R s m args below meth c D cA A N0 Q α H locs ls cx w h0 h1 hl en
  obtain ⟨ok1, ok2⟩ := okR_two hok
  have k1 := ks_le h0
  have k2 := ks_s hs
  have k3 := ks_le hN
  have hrm := cx.2.2.2.2.2.1
  have hK := cx.2.2.2.2.2.2.1
  refine va_newa (D := D) (a0 := (n, arrE α (I, J, F) N t)) cx.1 cx.2.1 (cx.2.2.2.2.1 _ hlk) rfl hK w.1 (w.2.1.to cA (I, J, F)) w.2.2.1 cx.2.2.2.2.2.2.2.1 (fun cx1 => ?_) hn0 hn hb (by have := hrm.2.2.1; omega) (by have := hrm.2.2.2; omega) hd (fun q c9 H1 hK1 hP hD hS => ?_)
  · rw [hty]
    rcases (show t = 0 ∨ t = 1 ∨ t = 2 by omega) with rfl | rfl | rfl
    · show vp_cell cx1 (n, .inl (I N)) = _
      rw [hI]; rfl
    · show vp_cell cx1 (n, .inl (I N)) = _
      rw [hI]; rfl
    · show vp_cell cx1 (n, .inr (.inl (J N))) = _
      rw [hJ]; rfl
  · have hcc : c9 = cA t := by
      have r1 := (hK1.2 5 (c9, newarray.typeOf at_) rfl).2
      rcases (show t = 0 ∨ t = 1 ∨ t = 2 by omega) with rfl | rfl | rfl
      · have r2 := (hK.2 0 (cA 0, arrT 0) rfl).2
        rw [hty] at r1
        exact Option.some.inj ((show s.vm.findClass _ = some c9 from r1).symm.trans r2)
      · have r2 := (hK.2 1 (cA 1, arrT 1) rfl).2
        rw [hty] at r1
        exact Option.some.inj ((show s.vm.findClass _ = some c9 from r1).symm.trans r2)
      · have r2 := (hK.2 2 (cA 2, arrT 2) rfl).2
        rw [hty] at r1
        exact Option.some.inj ((show s.vm.findClass _ = some c9 from r1).symm.trans r2)
    subst hcc
    have hα : ∀ k, ¬ (N ≤ k ∧ k < N + 1) → upR α N q k = α k := fun k hk => upR_n (by omega)
    have hαt : ∀ t, t < N → upR α N q t = α t := fun t ht => upR_n (by omega)
    have hμ : ∀ k, k < N → cellE cA (upR α N q) (I, J, F) k = cellE cA α (I, J, F) k := fun k hk => cell_same w.2.2.2.1 hk rfl rfl rfl hαt
    have hwl := wl_app (cA := cA) (α := α) (α' := upR α N q) (μ := (I, J, F)) (μ' := (I, J, F)) (q := q) (E := .inl (cA t, n, arrE α (I, J, F) N t)) upR_s (by
      rw [cell_a hs]
      refine congrArg (fun z => Sum.inl (cA t, n, z)) ?_
      rcases (show t = 0 ∨ t = 1 ∨ t = 2 by omega) with rfl | rfl | rfl <;> rfl) hαt hμ
    rw [hwl] at hP hD
    have hw2 : Wd D cA A s.heap (N + 1) (upR α N q) (I, J, F) H1 locs := ⟨hP, DA.of hD, hS, fun k hk j t ht => by
      by_cases e : k = N
      · subst e
        have ht' : F k j = some t := ht
        rw [hF] at ht'; cases ht'
      · have := w.2.2.2.1 k (by omega) j t ht
        omega, h66⟩
    have hg := g_grow (N2 := N + 1) cx h0 (Nat.le_succ N) hN h66 hl en hw2 hα ok1 kk
    rw [show N - N0 + 1 = N + 1 - N0 by omega, show ks N - ks N0 + n = ks (N + 1) - ks N0 by omega]
    rw [okR_map ok2 hα]
    have e9 : (Value.ref N :: S).map (cv (upR α N q)) = .ref q :: S.map (cv (upR α N q)) := by
      rw [List.map_cons]
      show Value.ref (upR α N q N) :: _ = _
      rw [upR_s]
    rw [e9] at hg
    exact hg
theorem t_putR {k ci n j idx t : Nat} {B : Nat → Nat → Option Nat} {r : Nat → Option Nat} (hd : decode M.2.1 pc = .ok (.putfield idx, 3)) (f : FL M.1.cls idx ci j true) (hs : shp k = (0, ci, n)) (hj : j < n) (ht : isR (tyOf ci j) = true) (hk : k < N) (htN : t < N) (hin0 : M.1.name = "<init>") (hcl : ∀ q, classes[ci]? = some q → q.1 = M.1.cls) (kk : Go X d N1 M N (pc + 3) L S (I, J, upR B k (va_up r j (some t))) Φ) : Go X d N1 M N pc L (.ref t :: .ref k :: S) (I, J, upR B k r) Φ := by
  refine g_putRF hd f hs hj ht hk htN hin0 hcl ?_
  have e : upR (upR B k r) k (va_up (upR B k r k) j (some t)) = upR B k (va_up r j (some t)) := by
    rw [upR_s]
    funext a
    by_cases q : a = k
    · subst q; rw [upR_s, upR_s]
    · rw [upR_n q, upR_n q, upR_n q]
  show Go X d N1 M N (pc + 3) L S (I, J, upR (upR B k r) k (va_up (upR B k r k) j (some t))) Φ
  rw [e]
  exact kk
theorem g_oinit {b idx : Nat} {μ : Mem} (hd : decode M.2.1 pc = .ok (.invokespecial idx, 3)) (hlk : Cond.methodLink M.1.cls idx Lib.objectInit ∈ gw_tbl) (hin : Cond.instanceMethod Lib.objectInit ∈ gw_tbl) (hcd : Cond.code Lib.objectInit ⟨#[0xb1]⟩ 1 none ∈ gw_tbl) (hS8 : (S.map fun v => v.category).sum ≤ 8) (kk : Go X (d + 1) N1 M N (pc + 3) L S μ Φ) : Go X (d + 1) N1 M N pc L (.ref b :: S) μ Φ := by
  intro p l e R s m args below meth c D cA A N0 Q α H locs ls cx w h0 h1 hl en
  have hrm := cx.2.2.2.2.2.1
  refine W.objInit (cc := M.2.1) (idx := idx) (a := α b) (rest := S.map (cv α)) cx.1 cx.2.1 cx.2.2.2.1 (cx.2.2.2.2.1 _ hlk) (cx.2.2.2.2.1 _ hin) (cx.2.2.2.2.1 _ hcd) rfl (hl.1.trans cx.2.2.1.symm) rfl hd (by omega) ?_ (kk p l e R s m args below meth c D cA A N0 Q α H locs ls cx w h0 h1 hl en)
  rw [cat_cv]
  have : (F0 m pc ls ((Value.ref b :: S).map (cv α))).monitorRoom = 0 := rfl
  have h2 := hrm.2.1
  show 2 * (F0 m pc ls ((Value.ref b :: S).map (cv α))).monitorRoom + _ + 12 ≤ _
  omega
end
end
