section GoHeap
variable {X : Nat × (Nat → Int32)} {d N1 : Nat} {M : Mth} {N pc : Nat} {L S : List Value} {μ : Mem} {Φ : Option Value → Mem → Prop}
/-- a field's link: class number, slot, whether final -/
def FL (own : String) (idx ci j : Nat) (fin : Bool) : Prop := ∃ (C : String) (T : u_T) (n : Nat), classes[ci]? = some (C, T, n) ∧ (∀ w ∈ u_ws C T n, w ∈ gw_tbl) ∧ (∀ k, k < n → parseFieldDescriptor (T k).2.2.1 = some (tyOf ci k)) ∧ (∀ a, a < n → ∀ b, b < n → a ≠ b → (T a).2.1 ≠ (T b).2.1) ∧ j < n ∧ Cond.fieldLink own idx (T j).1 (T j).2.1 (T j).2.2.1 ∈ gw_tbl ∧ (T j).2.2.2 = fin ∧ (T j).1 = C
/-- a reference's kind of field -/
def isR (ty : FieldType) : Bool := match ty with
  | .object _ => true
  | .array _ => true
  | _ => false
theorem fval_i {α : Nat → Nat} {ci k j : Nat} (ht : tyOf ci j = .int) : fval α μ ci k j = .int (μ.1 k j) := by simp [fval, ht]
theorem fval_l {α : Nat → Nat} {ci k j : Nat} (ht : tyOf ci j = .long) : fval α μ ci k j = .long (μ.2.1 k j) := by simp [fval, ht]
theorem fval_r {α : Nat → Nat} {ci k j : Nat} (ht : isR (tyOf ci j) = true) : fval α μ ci k j = va_rf ((μ.2.2 k j).map α) := by
  unfold fval
  cases h : tyOf ci j <;> first | rfl | (rw [h] at ht; cases ht)
theorem wl_o {cA : Nat → ClassId} {α : Nat → Nat} {k ci n : Nat} (hs : shp k = (0, ci, n)) (hk : k < N) : (wl cA N α μ)[k]? = some (α k, .inr (ci, (List.range n).map (fval α μ ci k))) := by rw [wl_get hk, cell_o hs]
theorem wl_a {cA : Nat → ClassId} {α : Nat → Nat} {k t n : Nat} (hs : shp k = (1, t, n)) (hk : k < N) : (wl cA N α μ)[k]? = some (α k, .inl (cA t, n, arrE α μ k t)) := by rw [wl_get hk, cell_a hs]
theorem rng_at {n j : Nat} (hj : j < n) (f : Nat → Value) : ((List.range n).map f)[j]? = some (f j) := by simp [hj]
theorem rng_set {n j : Nat} {f g : Nat → Value} {v : Value} (hj : j < n) (h : g j = v) (ho : ∀ i, i ≠ j → g i = f i) : ((List.range n).map f).set j v = (List.range n).map g := by
  apply List.ext_getElem?
  intro i
  by_cases hi : i = j
  · subst hi
    rw [List.getElem?_set_self (by simpa using hj), rng_at hj, h]
  · rw [List.getElem?_set_ne (fun q => hi q.symm)]
    by_cases hn : i < n
    · rw [rng_at hn, rng_at hn, ho i hi]
    · rw [List.getElem?_eq_none (by simpa using hn), List.getElem?_eq_none (by simpa using hn)]

theorem g_getI {k ci n j idx : Nat} {fin : Bool} (hd : decode M.2.1 pc = .ok (.getfield idx, 3)) (f : FL M.1.cls idx ci j fin) (hs : shp k = (0, ci, n)) (hj : j < n) (ht : tyOf ci j = .int) (hk : k < N) (kk : Go X d N1 M N (pc + 3) L (.int (μ.1 k j) :: S) μ Φ) : Go X d N1 M N pc L (.ref k :: S) μ Φ := by
  intro p l e R s m args below meth c D cA A N0 Q α H locs ls cx w h0 h1 hl en
  obtain ⟨C, T, n', hc, hin, -, -, hj', hlk, -, -⟩ := f
  exact va_get (D := D) (ci := ci) (v := .int (μ.1 k j)) cx.1 cx.2.1 cx.2.2.2.2.1 hin cx.2.2.2.1 cx.2.2.2.2.2.2.1 w.1 k (wl_o hs hk) hc j hj' (cx.2.2.2.2.1 _ hlk) (fun _ h => h) (by rw [rng_at hj, fval_i ht]) hd (kk p l e R s m args below meth c D cA A N0 Q α H locs ls cx w h0 h1 hl en)
theorem g_getJ {k ci n j idx : Nat} {fin : Bool} (hd : decode M.2.1 pc = .ok (.getfield idx, 3)) (f : FL M.1.cls idx ci j fin) (hs : shp k = (0, ci, n)) (hj : j < n) (ht : tyOf ci j = .long) (hk : k < N) (kk : Go X d N1 M N (pc + 3) L (.long (μ.2.1 k j) :: S) μ Φ) : Go X d N1 M N pc L (.ref k :: S) μ Φ := by
  intro p l e R s m args below meth c D cA A N0 Q α H locs ls cx w h0 h1 hl en
  obtain ⟨C, T, n', hc, hin, -, -, hj', hlk, -, -⟩ := f
  exact va_get (D := D) (ci := ci) (v := .long (μ.2.1 k j)) cx.1 cx.2.1 cx.2.2.2.2.1 hin cx.2.2.2.1 cx.2.2.2.2.2.2.1 w.1 k (wl_o hs hk) hc j hj' (cx.2.2.2.2.1 _ hlk) (fun _ h => h) (by rw [rng_at hj, fval_l ht]) hd (kk p l e R s m args below meth c D cA A N0 Q α H locs ls cx w h0 h1 hl en)
theorem g_getR {k ci n j idx t : Nat} {fin : Bool} (hd : decode M.2.1 pc = .ok (.getfield idx, 3)) (f : FL M.1.cls idx ci j fin) (hs : shp k = (0, ci, n)) (hj : j < n) (ht : isR (tyOf ci j) = true) (hk : k < N) (hr : μ.2.2 k j = some t) (kk : Go X d N1 M N (pc + 3) L (.ref t :: S) μ Φ) : Go X d N1 M N pc L (.ref k :: S) μ Φ := by
  intro p l e R s m args below meth c D cA A N0 Q α H locs ls cx w h0 h1 hl en
  obtain ⟨C, T, n', hc, hin, -, -, hj', hlk, -, -⟩ := f
  exact va_get (D := D) (ci := ci) (v := .ref (α t)) cx.1 cx.2.1 cx.2.2.2.2.1 hin cx.2.2.2.1 cx.2.2.2.2.2.2.1 w.1 k (wl_o hs hk) hc j hj' (cx.2.2.2.2.1 _ hlk) (fun _ h => h) (by rw [rng_at hj, fval_r ht, hr]; rfl) hd (kk p l e R s m args below meth c D cA A N0 Q α H locs ls cx w h0 h1 hl en)
theorem g_putI {k ci n j idx : Nat} {x : Int32} (hd : decode M.2.1 pc = .ok (.putfield idx, 3)) (f : FL M.1.cls idx ci j false) (hs : shp k = (0, ci, n)) (hj : j < n) (ht : tyOf ci j = .int) (hk : k < N) (kk : Go X d N1 M N (pc + 3) L S (upR μ.1 k (upd (μ.1 k) j x), μ.2) Φ) : Go X d N1 M N pc L (.int x :: .ref k :: S) μ Φ := by
  intro p l e R s m args below meth c D cA A N0 Q α H locs ls cx w h0 h1 hl en
  obtain ⟨C, T, n', hc, hin, hty, hnm, hj', hlk, hfin, -⟩ := f
  refine va_put (D := D) (ci := ci) (v := .int x) (ty := .int) cx.1 cx.2.1 cx.2.2.2.2.1 hin (tyOf ci) hty hnm cx.2.2.2.1 cx.2.2.2.2.2.2.1 w.1 (w.2.1.to cA μ) w.2.2.1 k (wl_o hs hk) hc j hj' (cx.2.2.2.2.1 _ hlk) (fun _ h => h) hfin (by rw [hty j hj', ht]) rfl rfl (by simpa using hj) hd (fun H1 locs1 hP hD hS => ?_)
  have he9 : (wl cA N α μ).set k (α k, .inr (ci, ((List.range n).map (fval α μ ci k)).set j (.int x))) = wl cA N α (upR μ.1 k (upd (μ.1 k) j x), μ.2) := by
    refine wl_set hk ?_ (fun a ha => cell_n1 a ha)
    rw [cell_o hs]
    refine congrArg (fun z => Sum.inr (ci, z)) (rng_set hj ?_ ?_).symm
    · rw [fval_i ht]; simp [upR_s, upd]
    · intro i hi
      unfold fval
      cases tyOf ci i <;> simp [upR_s, upd, hi]
  rw [he9] at hP
  exact kk p l e R s m args below meth c D cA A N0 Q α H1 locs1 ls cx ⟨hP, w.2.1, hS, w.2.2.2.1, w.2.2.2.2⟩ h0 h1 hl en
theorem g_putJ {k ci n j idx : Nat} {x : Int64} (hd : decode M.2.1 pc = .ok (.putfield idx, 3)) (f : FL M.1.cls idx ci j false) (hs : shp k = (0, ci, n)) (hj : j < n) (ht : tyOf ci j = .long) (hk : k < N) (kk : Go X d N1 M N (pc + 3) L S (μ.1, upR μ.2.1 k (vp_updL (μ.2.1 k) j x), μ.2.2) Φ) : Go X d N1 M N pc L (.long x :: .ref k :: S) μ Φ := by
  intro p l e R s m args below meth c D cA A N0 Q α H locs ls cx w h0 h1 hl en
  obtain ⟨C, T, n', hc, hin, hty, hnm, hj', hlk, hfin, -⟩ := f
  refine va_put (D := D) (ci := ci) (v := .long x) (ty := .long) cx.1 cx.2.1 cx.2.2.2.2.1 hin (tyOf ci) hty hnm cx.2.2.2.1 cx.2.2.2.2.2.2.1 w.1 (w.2.1.to cA μ) w.2.2.1 k (wl_o hs hk) hc j hj' (cx.2.2.2.2.1 _ hlk) (fun _ h => h) hfin (by rw [hty j hj', ht]) rfl rfl (by simpa using hj) hd (fun H1 locs1 hP hD hS => ?_)
  have he9 : (wl cA N α μ).set k (α k, .inr (ci, ((List.range n).map (fval α μ ci k)).set j (.long x))) = wl cA N α (μ.1, upR μ.2.1 k (vp_updL (μ.2.1 k) j x), μ.2.2) := by
    refine wl_set hk ?_ (fun a ha => cell_n2 a ha)
    rw [cell_o hs]
    refine congrArg (fun z => Sum.inr (ci, z)) (rng_set hj ?_ ?_).symm
    · rw [fval_l ht]; simp [upR_s, vp_updL]
    · intro i hi
      unfold fval
      cases tyOf ci i <;> simp [upR_s, vp_updL, hi]
  rw [he9] at hP
  exact kk p l e R s m args below meth c D cA A N0 Q α H1 locs1 ls cx ⟨hP, w.2.1, hS, w.2.2.2.1, w.2.2.2.2⟩ h0 h1 hl en
theorem g_putRF {k ci n j idx t : Nat} (hd : decode M.2.1 pc = .ok (.putfield idx, 3)) (f : FL M.1.cls idx ci j true) (hs : shp k = (0, ci, n)) (hj : j < n) (ht : isR (tyOf ci j) = true) (hk : k < N) (htN : t < N) (hin0 : M.1.name = "<init>") (hcl : ∀ q, classes[ci]? = some q → q.1 = M.1.cls) (kk : Go X d N1 M N (pc + 3) L S (μ.1, μ.2.1, upR μ.2.2 k (va_up (μ.2.2 k) j (some t))) Φ) : Go X d N1 M N pc L (.ref t :: .ref k :: S) μ Φ := by
  intro p l e R s m args below meth c D cA A N0 Q α H locs ls cx w h0 h1 hl en
  obtain ⟨C, T, n', hc, hin, hty, hnm, hj', hlk, hfin, hTC⟩ := f
  have hCM : C = M.1.cls := hcl _ hc
  refine va_putF (D := D) (ci := ci) (v := .ref (α t)) (ty := tyOf ci j) cx.1 cx.2.1 cx.2.2.2.2.1 hin (tyOf ci) hty hnm cx.2.2.2.1 cx.2.2.2.2.2.2.1 w.1 (w.2.1.to cA μ) w.2.2.1 k (wl_o hs hk) hc j hj' (cx.2.2.2.2.1 _ hlk) (fun _ h => h) hfin (cx.2.2.2.2.2.2.2.2.2.1.trans hin0) (hTC.trans hCM) (hty j hj') ?_ ?_ (by simpa using hj) hd (fun H1 locs1 hP hD hS => ?_)
  · cases h : tyOf ci j <;> first | rfl | (rw [h] at ht; cases ht)
  · cases h : tyOf ci j <;> first | rfl | (rw [h] at ht; cases ht)
  have he9 : (wl cA N α μ).set k (α k, .inr (ci, ((List.range n).map (fval α μ ci k)).set j (.ref (α t)))) = wl cA N α (μ.1, μ.2.1, upR μ.2.2 k (va_up (μ.2.2 k) j (some t))) := by
    refine wl_set hk ?_ (fun a ha => cell_n3 a ha)
    rw [cell_o hs]
    refine congrArg (fun z => Sum.inr (ci, z)) (rng_set hj ?_ ?_).symm
    · rw [fval_r ht]; simp [upR_s, va_up, va_rf]
    · intro i hi
      unfold fval
      cases tyOf ci i <;> simp [upR_s, va_up, hi]
  rw [he9] at hP
  refine kk p l e R s m args below meth c D cA A N0 Q α H1 locs1 ls cx ⟨hP, w.2.1, hS, ?_, w.2.2.2.2⟩ h0 h1 hl en
  intro a ha b t' hb
  dsimp only at hb
  by_cases hak : a = k
  · subst hak
    rw [upR_s] at hb
    by_cases hbj : b = j
    · rw [hbj] at hb
      simp [va_up] at hb
      omega
    · simp only [va_up, if_neg hbj] at hb
      exact w.2.2.2.1 a ha b t' hb
  · rw [upR_n hak] at hb
    exact w.2.2.2.1 a ha b t' hb
/-- an int row that can be read: of ours, or one of those only read -/
def IA (X : Nat × (Nat → Int32)) (N : Nat) (μ : Mem) (k n : Nat) (f : Nat → Int32) : Prop := (k < N ∧ shp k = (1, 0, n) ∧ μ.1 k = f) ∨ (100 ≤ k ∧ k < 104 ∧ rol X k = (n, f))
theorem g_iald {k n : Nat} {f : Nat → Int32} {i : Int32} (hd : decode M.2.1 pc = .ok (.iaload, 1)) (ha : IA X N μ k n f) (hi : vp_in i n) (kk : Go X d N1 M N (pc + 1) L (.int (f i.toNatClampNeg) :: S) μ Φ) : Go X d N1 M N pc L (.int i :: .ref k :: S) μ Φ := by
  intro p l e R s m args below meth c D cA A N0 Q α H locs ls cx w h0 h1 hl en
  rcases ha with ⟨hk, hs, rfl⟩ | ⟨hk, hk2, hr⟩
  · exact va_iald cx.1 cx.2.1 cx.2.2.2.2.2.2.1 w.1 k 0 (wl_a hs hk) rfl hi hd (kk p l e R s m args below meth c D cA A N0 Q α H locs ls cx w h0 h1 hl en)
  · have hx := (cx.2.2.2.2.2.2.2.2.1).1 k hk hk2
    rw [hr] at hx
    exact va_sld cx.1 cx.2.1 hx.1 hx.2.1 hx.2.2 w.2.2.1 hi hd (kk p l e R s m args below meth c D cA A N0 Q α H locs ls cx w h0 h1 hl en)
theorem g_alen {k n : Nat} {f : Nat → Int32} (hd : decode M.2.1 pc = .ok (.arraylength, 1)) (ha : IA X N μ k n f) (kk : Go X d N1 M N (pc + 1) L (.int (Int32.ofNat n) :: S) μ Φ) : Go X d N1 M N pc L (.ref k :: S) μ Φ := by
  intro p l e R s m args below meth c D cA A N0 Q α H locs ls cx w h0 h1 hl en
  rcases ha with ⟨hk, hs, rfl⟩ | ⟨hk, hk2, hr⟩
  · exact va_alen cx.1 cx.2.1 cx.2.2.2.2.2.2.1 w.1 k 0 (wl_a hs hk) rfl rfl hd (kk p l e R s m args below meth c D cA A N0 Q α H locs ls cx w h0 h1 hl en)
  · have hx := (cx.2.2.2.2.2.2.2.2.1).1 k hk hk2
    rw [hr] at hx
    exact va_slen cx.1 cx.2.1 hx.1 hx.2.1 hx.2.2 w.2.2.1 hd (kk p l e R s m args below meth c D cA A N0 Q α H locs ls cx w h0 h1 hl en)
theorem g_alenB {k n : Nat} (hd : decode M.2.1 pc = .ok (.arraylength, 1)) (hs : shp k = (1, 1, n)) (hk : k < N) (kk : Go X d N1 M N (pc + 1) L (.int (Int32.ofNat n) :: S) μ Φ) : Go X d N1 M N pc L (.ref k :: S) μ Φ := by
  intro p l e R s m args below meth c D cA A N0 Q α H locs ls cx w h0 h1 hl en
  exact va_alen cx.1 cx.2.1 cx.2.2.2.2.2.2.1 w.1 k 1 (wl_a hs hk) rfl rfl hd (kk p l e R s m args below meth c D cA A N0 Q α H locs ls cx w h0 h1 hl en)
theorem g_bald {k n : Nat} {i : Int32} (hd : decode M.2.1 pc = .ok (.baload, 1)) (hs : shp k = (1, 1, n)) (hk : k < N) (hi : vp_in i n) (kk : Go X d N1 M N (pc + 1) L (.int (μ.1 k i.toNatClampNeg) :: S) μ Φ) : Go X d N1 M N pc L (.int i :: .ref k :: S) μ Φ := by
  intro p l e R s m args below meth c D cA A N0 Q α H locs ls cx w h0 h1 hl en
  exact va_bald cx.1 cx.2.1 cx.2.2.2.2.2.2.1 w.1 k 1 (wl_a hs hk) rfl hi hd (kk p l e R s m args below meth c D cA A N0 Q α H locs ls cx w h0 h1 hl en)
theorem g_lald {k n : Nat} {i : Int32} (hd : decode M.2.1 pc = .ok (.laload, 1)) (hs : shp k = (1, 2, n)) (hk : k < N) (hi : vp_in i n) (kk : Go X d N1 M N (pc + 1) L (.long (μ.2.1 k i.toNatClampNeg) :: S) μ Φ) : Go X d N1 M N pc L (.int i :: .ref k :: S) μ Φ := by
  intro p l e R s m args below meth c D cA A N0 Q α H locs ls cx w h0 h1 hl en
  exact va_lald cx.1 cx.2.1 cx.2.2.2.2.2.2.1 w.1 k 2 (wl_a hs hk) rfl hi hd (kk p l e R s m args below meth c D cA A N0 Q α H locs ls cx w h0 h1 hl en)
theorem g_aald {k n t a : Nat} {i : Int32} (hd : decode M.2.1 pc = .ok (.aaload, 1)) (hs : shp k = (1, t, n)) (ht : t = 3 ∨ t = 4) (hk : k < N) (hi : vp_in i n) (hr : μ.2.2 k i.toNatClampNeg = some a) (kk : Go X d N1 M N (pc + 1) L (.ref a :: S) μ Φ) : Go X d N1 M N pc L (.int i :: .ref k :: S) μ Φ := by
  intro p l e R s m args below meth c D cA A N0 Q α H locs ls cx w h0 h1 hl en
  have hlt : i.toNatClampNeg < n := Nat.not_le.mp fun q => hi (Or.inr q)
  have hP := w.1 k _ (wl_a hs hk)
  have hK := (cx.2.2.2.2.2.2.1).2
  rcases ht with rfl | rfl
  · exact W.aald (v := .ref (α a)) (ty := .array .int) cx.1 cx.2.1 hP ((hK 3 _ rfl).1 n (fun j => va_rf ((μ.2.2 k j).map α))) rfl (fun q => by cases q) (by show ¬ (i < 0 ∨ (arrV _ _ _).slots.size ≤ _); rw [arrV_size]; exact hi) (by show (arrV _ _ _).slots[_]? = _; rw [arrV_read _ _ hlt]; show some (va_rf ((μ.2.2 k i.toNatClampNeg).map α)) = _; rw [hr]; rfl) rfl rfl hd (kk p l e R s m args below meth c D cA A N0 Q α H locs ls cx w h0 h1 hl en)
  · exact W.aald (v := .ref (α a)) (ty := .array .byte) cx.1 cx.2.1 hP ((hK 4 _ rfl).1 n (fun j => va_rf ((μ.2.2 k j).map α))) rfl (fun q => by cases q) (by show ¬ (i < 0 ∨ (arrV _ _ _).slots.size ≤ _); rw [arrV_size]; exact hi) (by show (arrV _ _ _).slots[_]? = _; rw [arrV_read _ _ hlt]; show some (va_rf ((μ.2.2 k i.toNatClampNeg).map α)) = _; rw [hr]; rfl) rfl rfl hd (kk p l e R s m args below meth c D cA A N0 Q α H locs ls cx w h0 h1 hl en)
theorem g_iast {k n : Nat} {i x : Int32} (hd : decode M.2.1 pc = .ok (.iastore, 1)) (hs : shp k = (1, 0, n)) (hk : k < N) (hi : vp_in i n) (kk : Go X d N1 M N (pc + 1) L S (upR μ.1 k (upd (μ.1 k) i.toNatClampNeg x), μ.2) Φ) : Go X d N1 M N pc L (.int x :: .int i :: .ref k :: S) μ Φ := by
  intro p l e R s m args below meth c D cA A N0 Q α H locs ls cx w h0 h1 hl en
  refine va_iast cx.1 cx.2.1 cx.2.2.2.2.2.2.1 w.1 (w.2.1.to cA μ) w.2.2.1 k 0 (wl_a hs hk) rfl hi hd (fun H1 locs1 hP hD hS => ?_)
  have he9 : (wl cA N α μ).set k (α k, .inl (cA 0, n, .inl (upd (μ.1 k) i.toNatClampNeg x))) = wl cA N α (upR μ.1 k (upd (μ.1 k) i.toNatClampNeg x), μ.2) := by
    refine wl_set hk ?_ (fun a ha => cell_n1 a ha)
    rw [cell_a hs]
    simp [arrE, upR_s]
  rw [he9] at hP
  exact kk p l e R s m args below meth c D cA A N0 Q α H1 locs1 ls cx ⟨hP, w.2.1, hS, w.2.2.2.1, w.2.2.2.2⟩ h0 h1 hl en
theorem g_bast {k n : Nat} {i x : Int32} (hd : decode M.2.1 pc = .ok (.bastore, 1)) (hs : shp k = (1, 1, n)) (hk : k < N) (hi : vp_in i n) (kk : Go X d N1 M N (pc + 1) L S (upR μ.1 k (upd (μ.1 k) i.toNatClampNeg (vp_nar .byte x)), μ.2) Φ) : Go X d N1 M N pc L (.int x :: .int i :: .ref k :: S) μ Φ := by
  intro p l e R s m args below meth c D cA A N0 Q α H locs ls cx w h0 h1 hl en
  refine va_bast cx.1 cx.2.1 cx.2.2.2.2.2.2.1 w.1 (w.2.1.to cA μ) w.2.2.1 k 1 (wl_a hs hk) rfl hi hd (fun H1 locs1 hP hD hS => ?_)
  have he9 : (wl cA N α μ).set k (α k, .inl (cA 1, n, .inl (upd (μ.1 k) i.toNatClampNeg (vp_nar .byte x)))) = wl cA N α (upR μ.1 k (upd (μ.1 k) i.toNatClampNeg (vp_nar .byte x)), μ.2) := by
    refine wl_set hk ?_ (fun a ha => cell_n1 a ha)
    rw [cell_a hs]
    simp [arrE, upR_s]
  rw [he9] at hP
  exact kk p l e R s m args below meth c D cA A N0 Q α H1 locs1 ls cx ⟨hP, w.2.1, hS, w.2.2.2.1, w.2.2.2.2⟩ h0 h1 hl en
theorem g_last {k n : Nat} {i : Int32} {x : Int64} (hd : decode M.2.1 pc = .ok (.lastore, 1)) (hs : shp k = (1, 2, n)) (hk : k < N) (hi : vp_in i n) (kk : Go X d N1 M N (pc + 1) L S (μ.1, upR μ.2.1 k (vp_updL (μ.2.1 k) i.toNatClampNeg x), μ.2.2) Φ) : Go X d N1 M N pc L (.long x :: .int i :: .ref k :: S) μ Φ := by
  intro p l e R s m args below meth c D cA A N0 Q α H locs ls cx w h0 h1 hl en
  refine va_last cx.1 cx.2.1 cx.2.2.2.2.2.2.1 w.1 (w.2.1.to cA μ) w.2.2.1 k 2 (wl_a hs hk) rfl hi hd (fun H1 locs1 hP hD hS => ?_)
  have he9 : (wl cA N α μ).set k (α k, .inl (cA 2, n, .inr (.inl (vp_updL (μ.2.1 k) i.toNatClampNeg x)))) = wl cA N α (μ.1, upR μ.2.1 k (vp_updL (μ.2.1 k) i.toNatClampNeg x), μ.2.2) := by
    refine wl_set hk ?_ (fun a ha => cell_n2 a ha)
    rw [cell_a hs]
    simp [arrE, upR_s]
  rw [he9] at hP
  exact kk p l e R s m args below meth c D cA A N0 Q α H1 locs1 ls cx ⟨hP, w.2.1, hS, w.2.2.2.1, w.2.2.2.2⟩ h0 h1 hl en
/-- System.arraycopy of int rows -/
theorem g_copy {k0 k1 n0 n1 idx : Nat} {sp dp n : Int32} (hd : decode M.2.1 pc = .ok (.invokestatic idx, 3)) (hlk : Cond.methodLink M.1.cls idx arraycopyName ∈ gw_tbl) (hs0 : shp k0 = (1, 0, n0)) (hs1 : shp k1 = (1, 0, n1)) (hk0 : k0 < N) (hk1 : k1 < N) (h1 : ¬ sp < 0) (h2 : ¬ dp < 0) (h3 : ¬ n < 0) (h4 : sp.toNatClampNeg + n.toNatClampNeg ≤ n0) (h5 : dp.toNatClampNeg + n.toNatClampNeg ≤ n1) (hS8 : (S.map fun v => v.category).sum ≤ 8)
    (kk : Go X (d + 1) N1 M N (pc + 3) L S (upR μ.1 k1 (va_cpy (μ.1 k0) (μ.1 k1) sp.toNatClampNeg dp.toNatClampNeg n.toNatClampNeg), μ.2) Φ) : Go X (d + 1) N1 M N pc L (.int n :: .int dp :: .ref k1 :: .int sp :: .ref k0 :: S) μ Φ := by
  intro p l e R s m args below meth c D cA A N0 Q α H locs ls cx w h0 hq1 hl en
  have hcat : ((S.map (cv α)).map fun v => v.category) = S.map fun v => v.category := by
    rw [List.map_map]; exact List.map_congr_left fun v _ => cv_cat α v
  refine va_copyi (ty := .int) cx.1 cx.2.1 (cx.2.2.1.trans hl.1.symm) cx.2.2.2.1 (cx.2.2.2.2.1 _ hlk) (cx.2.2.2.2.1 _ lk_acNative) (cx.2.2.2.2.1 _ lk_acStatic) (cx.2.2.2.2.1 _ lk_acInit) cx.2.2.2.2.2.2.1 w.1 (w.2.1.to cA μ) w.2.2.1 k0 k1 0 0 (wl_a hs0 hk0) (wl_a hs1 hk1) rfl rfl rfl h1 h2 h3 h4 h5 (fun _ _ => rfl) (by have := cx.2.2.2.2.2.1.1; omega) ?_ hd (fun H1 locs1 hP hD hS => ?_)
  · rw [hcat]
    have := cx.2.2.2.2.2.1.2.1
    have e9 : nativeFrameWords "java/lang/System" "arraycopy" 5 ≤ 20 := by decide
    omega
  have he9 : (wl cA N α μ).set k1 (α k1, .inl (cA 0, n1, .inl (va_cpy (μ.1 k0) (μ.1 k1) sp.toNatClampNeg dp.toNatClampNeg n.toNatClampNeg))) = wl cA N α (upR μ.1 k1 (va_cpy (μ.1 k0) (μ.1 k1) sp.toNatClampNeg dp.toNatClampNeg n.toNatClampNeg), μ.2) := by
    refine wl_set hk1 ?_ (fun a ha => cell_n1 a ha)
    rw [cell_a hs1]
    simp [arrE, upR_s]
  rw [he9] at hP
  exact kk p l e R s m args below meth c D cA A N0 Q α H1 locs1 ls cx ⟨hP, w.2.1, hS, w.2.2.2.1, w.2.2.2.2⟩ h0 hq1 hl en
/-- the three constant rows -/
def SL3 (own : String) (idx k : Nat) : Prop := (k = 100 ∧ Cond.fieldLink own idx RX4 "KIND_LETTERS" "[I" ∈ gw_tbl) ∨ (k = 101 ∧ Cond.fieldLink own idx RX3 "KINDS_ABOVE" "[I" ∈ gw_tbl) ∨ (k = 102 ∧ Cond.fieldLink own idx RX3 "NOBODY_OUT" "[I" ∈ gw_tbl)
theorem g_gets {k idx : Nat} (hd : decode M.2.1 pc = .ok (.getstatic idx, 3)) (f : SL3 M.1.cls idx k) (kk : Go X d N1 M N (pc + 3) L (.ref k :: S) μ Φ) : Go X d N1 M N pc L S μ Φ := by
  intro p l e R s m args below meth c D cA A N0 Q α H locs ls cx w h0 h1 hl en
  have hro := cx.2.2.2.2.2.2.2.2.1
  rcases f with ⟨rfl, f⟩ | ⟨rfl, f⟩ | ⟨rfl, f⟩
  · exact va_gets cx.1 cx.2.1 hro.2.1 w.2.2.1 cx.2.2.2.1 (cx.2.2.2.2.1 _ f) (fun _ h => h) hd (kk p l e R s m args below meth c D cA A N0 Q α H locs ls cx w h0 h1 hl en)
  · exact va_gets cx.1 cx.2.1 hro.2.2.1 w.2.2.1 cx.2.2.2.1 (cx.2.2.2.2.1 _ f) (fun _ h => h) hd (kk p l e R s m args below meth c D cA A N0 Q α H locs ls cx w h0 h1 hl en)
  · exact va_gets cx.1 cx.2.1 hro.2.2.2 w.2.2.1 cx.2.2.2.1 (cx.2.2.2.2.1 _ f) (fun _ h => h) hd (kk p l e R s m args below meth c D cA A N0 Q α H locs ls cx w h0 h1 hl en)
/-- ends: an int, a long, nothing -/
def RI (post : Int32 → Mem → Prop) : Option Value → Mem → Prop := fun v μ => ∃ x, v = some (.int x) ∧ post x μ
def RJ (post : Int64 → Mem → Prop) : Option Value → Mem → Prop := fun v μ => ∃ x, v = some (.long x) ∧ post x μ
def RV (post : Mem → Prop) : Option Value → Mem → Prop := fun v μ => v = none ∧ post μ
theorem g_iret {x : Int32} {post : Int32 → Mem → Prop} (hd : decode M.2.1 pc = .ok (.ireturn, 1)) (hn : ∀ ty, M.2.2.2 = some ty → narrow ty (.int x) = .int x) (h : post x μ) : Go X d N M N pc L [.int x] μ (RI post) := by
  intro p l e R s m args below meth c D cA A N0 Q α H locs ls cx w h0 h1 hl en
  exact en (some (.int x)) μ α H locs pc ls ⟨x, rfl, h⟩ w (fun _ _ => rfl) hd (fun ty y h1 h2 => by cases h2; exact hn ty h1)
theorem g_lret {x : Int64} {post : Int64 → Mem → Prop} (hd : decode M.2.1 pc = .ok (.lreturn, 1)) (hn : M.2.2.2 = some .long) (h : post x μ) : Go X d N M N pc L [.long x] μ (RJ post) := by
  intro p l e R s m args below meth c D cA A N0 Q α H locs ls cx w h0 h1 hl en
  exact en (some (.long x)) μ α H locs pc ls ⟨x, rfl, h⟩ w (fun _ _ => rfl) hd (fun ty y h1 h2 => by cases h2; cases hn.symm.trans h1; rfl)
theorem g_vret {post : Mem → Prop} (hd : decode M.2.1 pc = .ok (.return_, 1)) (h : post μ) : Go X d N M N pc L [] μ (RV post) := by
  intro p l e R s m args below meth c D cA A N0 Q α H locs ls cx w h0 h1 hl en
  exact en none μ α H locs pc ls ⟨rfl, h⟩ w (fun _ _ => rfl) hd (fun ty y h1 h2 => by cases h2)
theorem Go.mono {Φ' : Option Value → Mem → Prop} (h : Go X d N1 M N pc L S μ Φ) (hΦ : ∀ v μ', Φ v μ' → Φ' v μ') : Go X d N1 M N pc L S μ Φ' := by
  intro p l e R s m args below meth c D cA A N0 Q α H locs ls cx w h0 h1 hl en
  exact h p l e R s m args below meth c D cA A N0 Q α H locs ls cx w h0 h1 hl (fun v μ' α' H' locs' pc' ls' a b => en v μ' α' H' locs' pc' ls' (hΦ v μ' a) b)
theorem Go.deeper {d' : Nat} (h : Go X d N1 M N pc L S μ Φ) (hd : d ≤ d') : Go X d' N1 M N pc L S μ Φ := by
  intro p l e R s m args below meth c D cA A N0 Q α H locs ls cx w h0 h1 hl en
  obtain ⟨a1, a2, a3, a4, a5, ⟨b1, b2, b3⟩, a6⟩ := cx
  exact h p l e R s m args below meth c D cA A N0 Q α H locs ls ⟨a1, a2, a3, a4, a5, ⟨by omega, by omega, b3⟩, a6⟩ w h0 h1 hl en
/-- a method's entry -/
def entL (As : List Value) : List Value := As.flatMap (fun v => if v.category = 2 then [v, .null] else [v])
def ent (nL : Nat) (As : List Value) : List Value := entL As ++ List.replicate (nL - (entL As).length) .null
abbrev Ct (X : Nat × (Nat → Int32)) (d N1 : Nat) (M : Mth) (N : Nat) (As : List Value) (μ : Mem) (Φ : Option Value → Mem → Prop) : Prop := Go X d N1 M N 0 (ent M.2.2.1 As) [] μ Φ
theorem entL_mem {α : Nat → Nat} : ∀ (As : List Value) (o i : Nat) (v : Value), (entL As)[i]? = some v → v ≠ .null → (o + i, cv α v) ∈ lv_args o (As.map (cv α))
  | [], o, i, v, h, _ => by simp [entL] at h
  | a :: As, o, i, v, h, hv => by
    have ih := entL_mem (α := α) As
    by_cases hc : a.category = 2
    · have e : entL (a :: As) = a :: .null :: entL As := by simp [entL, hc]
      rw [e] at h
      show _ ∈ (o, cv α a) :: lv_args (if (cv α a).category = 2 then o + 2 else o + 1) (As.map (cv α))
      rw [if_pos (by rw [cv_cat]; exact hc)]
      match i, h with
      | 0, h => cases h; exact List.mem_cons_self
      | 1, h => cases h; exact absurd rfl hv
      | i + 2, h =>
        have := ih (o + 2) i v h hv
        rw [show o + 2 + i = o + (i + 2) by omega] at this
        exact List.mem_cons_of_mem _ this
    · have e : entL (a :: As) = a :: entL As := by simp [entL, hc]
      rw [e] at h
      show _ ∈ (o, cv α a) :: lv_args (if (cv α a).category = 2 then o + 2 else o + 1) (As.map (cv α))
      rw [if_neg (by rw [cv_cat]; exact hc)]
      match i, h with
      | 0, h => cases h; exact List.mem_cons_self
      | i + 1, h =>
        have := ih (o + 1) i v h hv
        rw [show o + 1 + i = o + (i + 1) by omega] at this
        exact List.mem_cons_of_mem _ this
theorem ent_LV {α : Nat → Nat} {nL : Nat} {As : List Value} (h : (lg_sl (As.map (cv α))).length ≤ nL) : LV ((lg_sl (As.map (cv α)) ++ List.replicate (nL - (lg_sl (As.map (cv α))).length) Slot.unset).toArray) nL α (ent nL As) := by
  obtain ⟨h1, h2, h3⟩ := lv_entry (As.map (cv α)) (n := nL) h
  refine ⟨h1, h2, fun i v hi hv => ?_⟩
  unfold ent at hi
  by_cases hl : i < (entL As).length
  · rw [List.getElem?_append_left hl] at hi
    have := entL_mem (α := α) As 0 i v hi hv
    rw [Nat.zero_add] at this
    exact h3 _ this
  · rw [List.getElem?_append_right (by omega)] at hi
    have := List.eq_of_mem_replicate (List.mem_of_getElem? hi)
    exact absurd this hv
theorem lg_cv {α : Nat → Nat} (As : List Value) : (lg_sl (As.map (cv α))).length = (lg_sl As).length := by
  induction As with
  | nil => rfl
  | cons a As ih =>
    have e : ∀ v : Value, (lg_sl (v :: As)).length = (if v.category = 2 then 2 else 1) + (lg_sl As).length := by
      intro v
      unfold lg_sl
      rw [List.flatMap_cons, List.length_append]
      by_cases hc : v.category = 2 <;> simp [hc]
    have e' : ∀ v : Value, (lg_sl (v :: As.map (cv α))).length = (if v.category = 2 then 2 else 1) + (lg_sl (As.map (cv α))).length := by
      intro v
      unfold lg_sl
      rw [List.flatMap_cons, List.length_append]
      by_cases hc : v.category = 2 <;> simp [hc]
    rw [List.map_cons, e', e, ih, cv_cat]
end GoHeap

