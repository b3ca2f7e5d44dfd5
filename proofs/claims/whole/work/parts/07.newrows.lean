/-! ===== 'new int[n][m]' over the machine itself: what the instruction makes, and that it makes it ===== -/
section ZNewRows
/-- The outer array when i of its n rows stand; h: its own cell's number. -/
def zm_out (cA : ClassId) (n h i : Nat) : Cell := arrV cA n (fun j => va_rf (if j < i then some (h + 1 + j) else none))
/-- A row. -/
def zm_row (cI : ClassId) (k : Nat) : Cell := arrV cI k (fun _ => .int 0)
/-- The state when i rows stand. -/
def zm_run (S : State) (cA cI : ClassId) (n k : Nat) : Nat → State
  | 0 => S.pushCell (zm_out cA n S.heap.size 0)
  | i + 1 => ((zm_run S cA cI n k i).pushCell (zm_row cI k)).setCell S.heap.size (zm_out cA n S.heap.size (i + 1))
theorem zm_out_0 (cA : ClassId) (n h : Nat) : arrV cA n (fun _ => .null) = zm_out cA n h 0 := by
  unfold zm_out
  refine congrArg (arrV _ _) (funext fun j => ?_)
  rw [if_neg (Nat.not_lt_zero j)]
  rfl
theorem zm_out_s (cA : ClassId) (n h i : Nat) : (zm_out cA n h i).setSlot i (.ref (h + 1 + i)) = zm_out cA n h (i + 1) := by
  unfold zm_out
  rw [arrV_store]
  refine congrArg (arrV _ _) (funext fun j => ?_)
  unfold updV
  by_cases e : j = i
  · subst e
    rw [if_pos rfl, if_pos (Nat.lt_succ_self j)]
    rfl
  · rw [if_neg e]
    show va_rf (if j < i then some (h + 1 + j) else none) = _
    by_cases h : j < i
    · rw [if_pos h, if_pos (Nat.lt_succ_of_lt h)]
    · rw [if_neg h, if_neg (by omega)]
section Facts
variable (S : State) (cA cI : ClassId) (n k : Nat)
theorem zm_vm : ∀ i, (zm_run S cA cI n k i).vm = S.vm
  | 0 => rfl
  | i + 1 => zm_vm i
theorem zm_used : ∀ i, (zm_run S cA cI n k i).slotsUsed = S.slotsUsed + n + i * k
  | 0 => by
    show S.slotsUsed + (arrV _ _ _).slots.size = _
    rw [arrV_size]; omega
  | i + 1 => by
    show (zm_run S cA cI n k i).slotsUsed + (arrV _ _ _).slots.size = _
    rw [arrV_size, zm_used i, Nat.succ_mul]; omega
theorem zm_size : ∀ i, (zm_run S cA cI n k i).heap.size = S.heap.size + 1 + i
  | 0 => by
    show (S.heap.push _).size = _
    rw [Array.size_push]
  | i + 1 => by
    show (((zm_run S cA cI n k i).heap.push _).setIfInBounds _ _).size = _
    rw [Array.size_setIfInBounds, Array.size_push, zm_size i]; rfl
theorem zm_at0 : ∀ i, (zm_run S cA cI n k i).heap[S.heap.size]? = some (zm_out cA n S.heap.size i)
  | 0 => by
    show (S.heap.push _)[S.heap.size]? = _
    rw [Array.getElem?_push_size]
  | i + 1 => by
    show (((zm_run S cA cI n k i).heap.push _).setIfInBounds _ _)[S.heap.size]? = _
    rw [Array.getElem?_setIfInBounds_self_of_lt]
    rw [Array.size_push, zm_size]; omega
theorem zm_old {x : Nat} (hx : x < S.heap.size) : ∀ i, (zm_run S cA cI n k i).heap[x]? = S.heap[x]?
  | 0 => by
    show (S.heap.push _)[x]? = _
    rw [Array.getElem?_push, if_neg (by omega)]
  | i + 1 => by
    show (((zm_run S cA cI n k i).heap.push _).setIfInBounds _ _)[x]? = _
    rw [Array.getElem?_setIfInBounds_ne (by omega), Array.getElem?_push, if_neg (by rw [zm_size]; omega)]
    exact zm_old hx i
theorem zm_at {j : Nat} : ∀ i, j < i → (zm_run S cA cI n k i).heap[S.heap.size + 1 + j]? = some (zm_row cI k)
  | 0, h => absurd h (Nat.not_lt_zero j)
  | i + 1, h => by
    show (((zm_run S cA cI n k i).heap.push _).setIfInBounds _ _)[S.heap.size + 1 + j]? = _
    rw [Array.getElem?_setIfInBounds_ne (by omega), Array.getElem?_push, zm_size]
    by_cases e : j = i
    · rw [if_pos (by omega)]
    · rw [if_neg (by omega)]
      exact zm_at i (by omega)
theorem zm_top (f : JFrame) : ∀ i, zm_run (S.setTop f) cA cI n k i = (zm_run S cA cI n k i).setTop f
  | 0 => rfl
  | i + 1 => by
    show ((zm_run (S.setTop f) cA cI n k i).pushCell _).setCell _ _ = _
    rw [zm_top f i]
    rfl
theorem zm_java : ∀ i, (zm_run S cA cI n k i).topJava? = S.topJava?
  | 0 => rfl
  | i + 1 => zm_java i
end Facts
section Op2
variable {E : CtlPost} {e : Env} {d : Bool} {acts : List Action} {s : State}
theorem zm_new {Q : Addr → Pre} {c comp : ClassId} {n : Nat} {v : Value} {kc : Class} {t : FieldType} (hk : s.vm.classes[c]? = some kc) (hkind : kc.kind = .array comp t) (hf : fits t v = true) (hl : n ≤ e.platform.arrayLengthLimit) (hb : n * componentBytes t ≤ e.platform.maxHeapBytes) (h1 : s.heap.size < e.platform.maxCells) (h2 : s.slotsUsed + n ≤ e.platform.maxSlots)
    (hq : ∀ acts', Q s.heap.size d acts' (s.pushCell (arrV c n (fun _ => v)))) : wp (Jvm.newArray c n v) Q E e d acts s := by
  have hl' : ¬ n > e.platform.arrayLengthLimit := by omega
  have hb' : ¬ n * componentBytes t > e.platform.maxHeapBytes := by omega
  have hs' : ¬ n > e.platform.maxSlots := by omega
  simp only [Jvm.newArray, Jvm.arrayFits, wp_bind', W.ask, W.ite, W.theClass, W.alloc, W.stop, W.mark, wp_pure', hk, hkind, Option.some.injEq, exists_eq_left', hl', hb', hs', if_false]
  refine ⟨h1, by rw [Array.size_replicate]; exact h2, fun i x hx => ?_, ?_⟩
  · rw [Array.getElem?_replicate] at hx
    split at hx
    · cases hx
      simp only [State.fitsSlot, State.slotType?, hk, Option.bind_eq_bind, Option.bind_some, hkind]
      exact hf
    · cases hx
  · rw [arrV_new]
    exact hq _
theorem zm_make1 {Q : Addr → Pre} {c comp : ClassId} {k : Int32} {kc : Class} (hk : s.vm.classes[c]? = some kc) (hkind : kc.kind = .array comp .int) (h0 : ¬ k < 0) (hl : k.toNatClampNeg ≤ e.platform.arrayLengthLimit) (hb : k.toNatClampNeg * 4 ≤ e.platform.maxHeapBytes) (h1 : s.heap.size < e.platform.maxCells) (h2 : s.slotsUsed + k.toNatClampNeg ≤ e.platform.maxSlots)
    (hq : ∀ acts', Q s.heap.size d acts' (s.pushCell (zm_row c k.toNatClampNeg))) : wp (Op.multianewarray.make c [k]) Q E e d acts s := by
  simp only [Op.multianewarray.make, wp_bind', W.ite, h0, if_false, wp_pure', W.theClass, hk, Option.some.injEq, exists_eq_left', hkind]
  exact zm_new hk hkind rfl hl hb h1 h2 hq
theorem zm_make2 {Q : Addr → Pre} {cA cI comp : ClassId} {n k : Int32} {kA kI : Class} (hkA : s.vm.classes[cA]? = some kA) (hkindA : kA.kind = .array cI (.array .int)) (hkI : s.vm.classes[cI]? = some kI) (hkindI : kI.kind = .array comp .int) (hn : ¬ n < 0) (hk : ¬ k < 0)
    (hl1 : n.toNatClampNeg ≤ e.platform.arrayLengthLimit) (hb1 : n.toNatClampNeg * 4 ≤ e.platform.maxHeapBytes) (hl2 : k.toNatClampNeg ≤ e.platform.arrayLengthLimit) (hb2 : k.toNatClampNeg * 4 ≤ e.platform.maxHeapBytes)
    (h1 : s.heap.size + (1 + n.toNatClampNeg) ≤ e.platform.maxCells) (h2 : s.slotsUsed + (n.toNatClampNeg + n.toNatClampNeg * k.toNatClampNeg) ≤ e.platform.maxSlots)
    (hq : ∀ d' acts', Q s.heap.size d' acts' (zm_run s cA cI n.toNatClampNeg k.toNatClampNeg n.toNatClampNeg)) : wp (Op.multianewarray.make cA [n, k]) Q E e d acts s := by
  unfold Op.multianewarray.make
  simp only [wp_bind', W.ite, hn, if_false, wp_pure', W.theClass, hkA, Option.some.injEq, exists_eq_left', hkindA]
  refine zm_new hkA hkindA rfl hl1 hb1 (by omega) (by omega) fun acts' => ?_
  rw [zm_out_0 cA _ s.heap.size]
  generalize hN : n.toNatClampNeg = N at *
  generalize hK : k.toNatClampNeg = K at *
  have hfind : List.find? (fun x : Int32 => decide (x < 0)) [k] = none := by
    rw [List.find?_cons_of_neg (by simpa using hk)]; rfl
  simp only [hfind, W.ite, wp_bind', wp_pure', ite_self]
  rw [Std.Legacy.Range.forIn_eq_forIn_range']
  refine wp_forIn_inv (fun rest s' => ∃ i, i ≤ N ∧ rest = List.range' i (N - i) 1 ∧ s' = zm_run s cA cI N K i) _ _ ⟨0, Nat.zero_le _, by simp [Std.Legacy.Range.size], rfl⟩ ?_ ?_
  · rintro x rest s' d' acts' Q' ⟨i, hi, hr, rfl⟩ hy
    obtain ⟨m, hm⟩ : ∃ m, N - i = m + 1 := by
      cases hc : N - i with
      | zero => rw [hc] at hr; cases hr
      | succ m => exact ⟨m, rfl⟩
    rw [hm, List.range'_succ] at hr
    obtain ⟨rfl, rfl⟩ := List.cons.inj hr
    have hmul : x * K + K ≤ N * K := by
      rw [← Nat.succ_mul]; exact Nat.mul_le_mul_right _ (by omega)
    simp only [wp_bind']
    refine zm_make1 (by rw [zm_vm]; exact hkI) hkindI hk (by rw [hK]; exact hl2) (by rw [hK]; exact hb2) (by rw [zm_size]; omega) (by rw [zm_used, hK]; omega) fun acts'' => ?_
    rw [hK]
    simp only [W.writeLoc, wp_pure', zm_size]
    refine ⟨zm_out cA N s.heap.size x, ?_, (fun h => by cases h), ?_, ?_, ?_⟩
    · have hlt : s.heap.size < (zm_run s cA cI N K x).heap.size := by rw [zm_size]; omega
      rw [State.heap_pushCell_of_lt _ _ hlt]
      exact zm_at0 ..
    · show x < (arrV _ _ _).slots.size
      rw [arrV_size]; omega
    · show State.fitsSlot _ cA .none _ _ = true
      simp only [State.fitsSlot, State.slotType?, State.vm_pushCell, zm_vm, hkA, Option.bind_eq_bind, Option.bind_some, hkindA]
      rfl
    · refine hy _ _ _ ⟨x + 1, by omega, by rw [show N - (x + 1) = m by omega], ?_⟩
      rw [zm_out_s]
      rfl
  · rintro s' d' acts' ⟨i, hi, hr, rfl⟩
    have hz : N - i = 0 := by
      cases hc : N - i with
      | zero => rfl
      | succ m => rw [hc] at hr; cases hr
    obtain rfl : i = N := by omega
    simp only [wp_pure']
    exact hq _ _
theorem zm_cold {Q : Unit → Pre} {f : JFrame} {index c : Nat} {vm' : Vm} (hs : s.topJava?.isSome) (hg : (Jvm.resolveClass f.method.cls index).Gives e.toSetting s.vm (.ok c) vm') (hr : vm'.classReady f.method.cls index c) (hsz : vm'.classes.size ≤ s.vm.classes.size) :
    wp (Op.multianewarray.sem index 2) Q E e d acts (s.setTop f) ↔ wp (Op.multianewarray.sem index 2) Q E e d acts ((s.setVm vm').setTop f) := by
  simp only [Op.multianewarray.sem, wp_bind']
  exact W.resolveClassAt_transfer (s := s.setTop f) (State.method?_setTop f hs) hg hr hsz
theorem zm_sem {Q : Unit → Pre} {f : JFrame} {index : Nat} {rest : List Value} {cA cI comp : ClassId} {n k : Int32} {kA kI : Class} (hs : s.topJava?.isSome) (hr : s.vm.classReady f.method.cls index cA) (hstack : f.stack = .int k :: .int n :: rest)
    (hkA : s.vm.classes[cA]? = some kA) (hkindA : kA.kind = .array cI (.array .int)) (hkI : s.vm.classes[cI]? = some kI) (hkindI : kI.kind = .array comp .int) (hn : ¬ n < 0) (hk : ¬ k < 0)
    (hl1 : n.toNatClampNeg ≤ e.platform.arrayLengthLimit) (hb1 : n.toNatClampNeg * 4 ≤ e.platform.maxHeapBytes) (hl2 : k.toNatClampNeg ≤ e.platform.arrayLengthLimit) (hb2 : k.toNatClampNeg * 4 ≤ e.platform.maxHeapBytes)
    (h1 : s.heap.size + (1 + n.toNatClampNeg) ≤ e.platform.maxCells) (h2 : s.slotsUsed + (n.toNatClampNeg + n.toNatClampNeg * k.toNatClampNeg) ≤ e.platform.maxSlots)
    (hq : ∀ acts', Q () true acts' ((zm_run s cA cI n.toNatClampNeg k.toNatClampNeg n.toNatClampNeg).setTop { f with stack := .ref s.heap.size :: rest })) : wp (Op.multianewarray.sem index 2) Q E e d acts (s.setTop f) := by
  simp only [Op.multianewarray.sem, wp_bind', W.resolveClassAt_ready (State.method?_setTop f hs) hr]
  refine (popN_top (args := [.int n, .int k]) (rest := rest) hs hstack).mpr ?_
  simp only [List.mapM_cons, List.mapM_nil, wp_bind', wp_pure']
  refine zm_make2 (s := s.setTop { f with stack := rest }) hkA hkindA hkI hkindI hn hk hl1 hb1 hl2 hb2 h1 h2 fun d' acts' => ?_
  rw [zm_top]
  refine ⟨{ f with stack := rest }, State.topJava?_setTop' _ (by rw [zm_java]; exact hs), ?_⟩
  rw [State.setTop_setTop]
  exact hq _
end Op2
theorem zm_over {args : Array Value} {first s : State} {o : Option Outcome} {idx : List Nat} {t : FieldType} (h : (Cond.arrayOver (.array t)).holds args first o s idx = true) :
    ∃ comp c k, s.vm.findClass (FieldType.array t).toString = some comp ∧ s.vm.classes[c]? = some k ∧ k.kind = .array comp (.array t) ∧ s.vm.findClass ("[" ++ (FieldType.array t).toString) = some c := by
  simp only [Cond.holds, Cond.value, beq_iff_eq, Option.bind_eq_some_iff, Option.map_eq_some_iff] at h
  obtain ⟨comp, hc, c, hi, k, hk, hb⟩ := h
  have hp := (Array.findIdx?_eq_some_iff_getElem.mp hi).2.1
  rw [(Array.getElem?_eq_some_iff.mp hk).2] at hp
  cases hkind : k.kind with
  | array component ty =>
    rw [hkind] at hb hp
    simp only [Bool.and_eq_true, decide_eq_true_eq, beq_iff_eq] at hb hp
    exact ⟨comp, c, k, hc, hk, by rw [hkind, hp, hb.1], hb.2⟩
  | _ => rw [hkind] at hb; cases hb
section Step2
variable {p : Program} {l : Launch} {e : Env} {R : Room} {s : State} {m : MethodId} {args : Array Value} {below : List Frame} {meth : Method} {c : Code} {T : State} {locs : List Loc} {cells slots : Nat}
theorem zm_stand (X : Stand p l e R s m args below meth c T locs cells slots) (cA cI : ClassId) (n k : Nat) : ∀ i, Stand p l e R s m args below meth c (zm_run T cA cI n k i) locs (cells + 1 + i) (slots + n + i * k)
  | 0 => by
    have h := X.pushed (zm_out cA n T.heap.size 0)
    rw [show (zm_out cA n T.heap.size 0).slots.size = n from arrV_size _ _ _] at h
    rw [Nat.zero_mul]
    exact h
  | i + 1 => by
    have hlt : T.heap.size < (zm_run T cA cI n k i).heap.size := by rw [zm_size]; omega
    have h := ((zm_stand X cA cI n k i).pushed (zm_row cI k)).stored (a := T.heap.size) (cell := zm_out cA n T.heap.size i) (by rw [State.heap_pushCell_of_lt _ _ hlt]; exact zm_at0 ..) i (.ref (T.heap.size + 1 + i))
    rw [zm_out_s, show (zm_row cI k).slots.size = k from arrV_size _ _ _] at h
    rw [Nat.succ_mul, ← Nat.add_assoc (slots + n)]
    exact h.dropFresh (fun x hx => by
      cases List.mem_singleton.mp hx
      exact X.heapGrown)
theorem zm_step (X : Stand p l e R s m args below meth c T locs cells slots) (hexec : p.tables.exec = Jvm.exec) {own : String} {index : Nat} (hown : s.vm.findClass own = some m.cls) (hcl : (Cond.classLink own index "[[I").before args s = true)
    (hov : (Cond.arrayOver (.array .int)).before args s = true) (har : (Cond.arrayClass .int).before args s = true) {g : JFrame} (hg : g.method = m) (hdg : decode c.code g.pc = .ok (.multianewarray index 2, 4)) {n k : Int32} {rest : List Value} (hstack : g.stack = .int k :: .int n :: rest)
    (hn : ¬ n < 0) (hk : ¬ k < 0) (hb1 : n.toNatClampNeg * 4 ≤ 536870912) (hb2 : k.toNatClampNeg * 4 ≤ 536870912) (hcells : cells + (1 + n.toNatClampNeg) ≤ R.cells) (hslots : slots + (n.toNatClampNeg + n.toNatClampNeg * k.toNatClampNeg) ≤ R.slots) :
    ∃ (vm₁ : Vm) (cA cI : ClassId), s.vm.findClass ("[" ++ (FieldType.array .int).toString) = some cA ∧ s.vm.findClass (FieldType.array .int).toString = some cI ∧
      Stand p l e R s m args below meth c (zm_run (T.setVm vm₁) cA cI n.toNatClampNeg k.toNatClampNeg n.toNatClampNeg) locs (cells + 1 + n.toNatClampNeg) (slots + n.toNatClampNeg + n.toNatClampNeg * k.toNatClampNeg) ∧
      ∀ target, Steps p.tables e below ((zm_run (T.setVm vm₁) cA cI n.toNatClampNeg k.toNatClampNeg n.toNatClampNeg).setTop { g with pc := g.pc + 4, stack := .ref T.heap.size :: rest }) target → Steps p.tables e below (T.setTop g) target := by
  subst hg
  have hpl : e.platform.magicAccessors = ({} : Platform).magicAccessors := by rw [X.admits.platform]
  obtain ⟨cI, cA, kA, fI, hkA, hkindA, fA⟩ := zm_over hov
  obtain ⟨cI', kI, comp, fI', hkI, hkindI⟩ := Cond.arrayClass_spec har
  obtain rfl : cI' = cI := Option.some.inj (fI'.symm.trans fI)
  obtain ⟨cc, fcc, hlinks⟩ := Cond.classLink_spec hown hcl e.platform hpl
  obtain rfl : cc = cA := Option.some.inj (fcc.symm.trans fA)
  obtain ⟨hg₁, hwarm₁, hready₁⟩ := State.classEntry (e := e) X.warmed hlinks
  generalize hv : T.vm.noted g.method.cls index (.cls cc) = vm₁ at hg₁ hwarm₁ hready₁
  have hal : s.vm.Alike vm₁ := hwarm₁.alike
  obtain ⟨kA₁, hkA₁, heA⟩ := hal.2.2 _ _ hkA
  obtain ⟨kI₁, hkI₁, heI⟩ := hal.2.2 _ _ hkI
  have hkindA₁ : kA₁.kind = .array cI' (.array .int) := by rw [heA]; exact hkindA
  have hkindI₁ : kI₁.kind = .array comp .int := by rw [heI]; exact hkindI
  obtain ⟨hr1, hr2⟩ := X.roomAbove hcells hslots
  refine ⟨vm₁, cc, cI', fA, fI, zm_stand (X.noted hwarm₁) cc cI' _ _ _, fun target hrest => ?_⟩
  refine Steps.instr (c := c) (by simpa using X.here) ?_
  rw [hdg]
  show wpRun (p.tables.exec (.multianewarray index 2)) _ _ e (T.setTop g)
  rw [hexec]
  refine (zm_cold (s := T) X.here.top hg₁ hready₁ (by rw [← hv, Vm.size_noted]; exact Nat.le_refl _)).mpr ?_
  refine zm_sem (s := T.setVm vm₁) X.here.top hready₁ hstack hkA₁ hkindA₁ hkI₁ hkindI₁ hn hk (by rw [Launch.admits_arrayLengthLimit X.admits]; omega) (by rw [Launch.admits_maxHeapBytes X.admits]; omega) (by rw [Launch.admits_arrayLengthLimit X.admits]; omega) (by rw [Launch.admits_maxHeapBytes X.admits]; omega) hr1 hr2 fun acts' acts'' => ?_
  rw [afterInstr_ok]
  exact hrest
end Step2
end ZNewRows
