/-! ===== the judgement ===== -/
theorem zao_moved {u U : State} (hvm : u.vm.Alike U.vm) (h : va_Nw (.arrayOver (.array .int)) u) : va_Nw (.arrayOver (.array .int)) U := by
  unfold va_Nw Cond.before at h ⊢
  simp only [Cond.holds, Cond.value, beq_iff_eq] at h ⊢
  cases hc : u.vm.findClass (FieldType.array .int).toString with
  | none => simp [hc] at h
  | some comp =>
    simp only [hc, Option.bind_some, Option.bind_eq_some_iff, Option.map_eq_some_iff] at h
    obtain ⟨c, hi, k, hk, hb⟩ := h
    obtain ⟨k', hk', he⟩ := hvm.2.2 _ _ hk
    have hi' : (U.vm.classes.findIdx? fun (x : Class) => match x.kind with | .array component _ => component == comp | _ => false) = some c := by
      have hb0 : U.vm.bare = u.vm.bare := by first | exact hvm.bare_eq | exact hvm.bare_eq.symm
      have b0 := va_idx_bare U.vm comp
      rw [hb0] at b0
      exact b0.symm.trans ((va_idx_bare u.vm comp).trans hi)
    have f1 : U.vm.findClass (FieldType.array .int).toString = some comp := by rw [hvm.findClass]; exact hc
    rw [f1, Option.bind_some]
    refine (congrArg (fun o : Option Nat => o.bind (fun c => (U.vm.classes[c]?).map fun (k : Class) => match k.kind with | .array _ ty => decide (ty = FieldType.array .int) && decide (U.vm.findClass ("[" ++ (FieldType.array .int).toString) = some c) | _ => false)) hi').trans ?_
    rw [Option.bind_some, hk', Option.map_some]
    have hkind : k'.kind = k.kind := by rw [he]
    rw [hkind, hvm.findClass]
    exact congrArg some hb
/-- words that are kept otherwise -/
def zNs (w : Cond) : Prop := w ∈ lw_tbl ∧ ((∃ a i x h, w = .methodLinkNest a i x h) ∨ w = .arrayOver (.object RX7) ∨ w = .arrayOver (.array .int))
def zKs (G : zG) (U : State) : Prop := va_K G.2.2.1 zCl (zTy G) U ∧ ∀ w, zNs w → va_Nw w U
theorem zKs.same {G : zG} {u U : State} (h : u.vm = U.vm) (hK : zKs G u) : zKs G U := by
  refine ⟨va_K.moved (u := u) (by rw [h]; exact Vm.Alike.refl _) hK.1, fun w hw => ?_⟩
  have h1 := hK.2 w hw
  obtain ⟨-, hw⟩ := hw
  rcases hw with ⟨a, i, x, hh, rfl⟩ | rfl | rfl
  · exact va_tabs rfl h h1
  · exact va_AO.moved (C := RX7) (by rw [h]; exact Vm.Alike.refl _) h1
  · exact zao_moved (by rw [h]; exact Vm.Alike.refl _) h1
theorem zKs.warm {G : zG} {s U : State} (hW : s.WarmedH U.vm) (hK : zKs G s) : zKs G U := by
  refine ⟨va_K.moved hW.alike hK.1, fun w hw => ?_⟩
  have h1 := hK.2 w hw
  obtain ⟨-, hw⟩ := hw
  rcases hw with ⟨a, i, x, hh, rfl⟩ | rfl | rfl
  · exact va_Nw.warmM hW h1
  · exact va_AO.moved (C := RX7) hW.alike h1
  · exact zao_moved hW.alike h1
/-- the heap holds the world -/
def zHw (G : zG) (T : zT) (μ : zM) (H : Heap) : Prop := va_P G.2.2.1 zCl (zW G T μ) H ∧ (T.length < 131 → H.size = G.1 + T.length) ∧ (∀ k i, zr (μ k i)) ∧ ∀ k i, T.length ≤ k → μ k i = 0
def zHp (G : zG) (T : zT) (μ : zM) (H0 H : Heap) (locs : List Loc) : Prop := zHw G T μ H ∧ va_S (fun q => G.1 ≤ q) H0 H locs ∧ G.1 ≤ H0.size
/-- is it a constructor; the script, if it is the law -/
abbrev zX : Type := Bool × Option (Nat × (Nat → Int))
abbrev zN0 : zX := (false, none)
abbrev zN1 : zX := (true, none)
def zCtx (own : String) (cc : ByteArray) (nL : Nat) (X : zX) (G : zG) (p : Program) (s : State) (m : MethodId) (args : Array Value) (meth : Method) (c : Code) : Prop :=
  p.tables.exec = Jvm.exec ∧ c.code = cc ∧ c.maxLocals = nL ∧ s.vm.findClass own = some m.cls ∧ (∀ w ∈ zws, w.before args s = true) ∧ zKs G s ∧ (X.1 = true → meth.name = "<init>") ∧
  ∀ L xs, X.2 = some (L, xs) → va_X G.2.1 L (fun j => Int32.ofInt (xs j)) s s.heap ∧ G.2.1 < G.1 ∧ (∀ j, zr (xs j)) ∧ L ≤ 3584
def zRt (cc : ByteArray) (pc : Nat) : Option zV → Prop
  | none => decode cc pc = .ok (.return_, 1)
  | some (.inl _) => decode cc pc = .ok (.ireturn, 1)
  | _ => False
abbrev zP : Type := Option zV → zT → zM → Prop
def zA (own : String) (cc : ByteArray) (nL : Nat) (R : Room) (X : zX) (T : zT) (cs : Nat) (μ : zM) (pc : Nat) (ls : List (Option zV)) (st : List zV) (P : zP) : Prop :=
  ∀ (G : zG) (p : Program) (l : Launch) (e : Env) (s : State) (m : MethodId) (args : Array Value) (below : List Frame) (meth : Method) (c : Code) (H : Heap) (locs : List Loc) (la : Array Slot) (Q : State → Prop),
    zCtx own cc nL X G p s m args meth c → zHp G T μ s.heap H locs → zLs G nL ls la → (∀ v, v ∈ st → zok v) → (∀ i v, znth ls i = some (some v) → zok v) →
    (∀ (r : Option zV) (T' : zT) (μ' : zM) (cs' pc' : Nat) (la' : Array Slot) (H' : Heap) (locs' : List Loc), cs' ≤ R.cells → 1000 * cs' ≤ R.slots → P r T' μ' → (∀ v, r = some v → zok v) → zHp G T' μ' s.heap H' locs' → zRt cc pc' r → W p l e R s m args below meth c H' locs' cs' (1000 * cs') Q (F0 m pc' la' (r.toList.map (zc G)))) →
    W p l e R s m args below meth c H locs cs (1000 * cs) Q (F0 m pc la (st.map (zc G)))
/-- the room of a method at depth d that makes at most mc cells -/
def zRm (d mc : Nat) : Room := { frames := d, cells := mc, slots := 1000 * mc, locals := 100 * d }
def zPc (G : zG) (T : zT) (μ : zM) (avs : List zV) : Array Value → State → Prop := va_Pc (avs.map (zc G)) (fun U => zHw G T μ U.heap ∧ zKs G U ∧ G.1 ≤ U.heap.size)
def zQc (G : zG) (P : zP) : Array Value → State → Outcome → State → Prop := fun _ st oc t => (∃ (r : Option zV) (T' : zT) (μ' : zM), oc = .returned (r.map (zc G)) ∧ P r T' μ' ∧ (∀ v, r = some v → zok v) ∧ zHw G T' μ' t.heap) ∧ va_F (fun q => G.1 ≤ q) st t
/-- a method's contract -/
def zMet (d mc : Nat) (y : MethodName) (cc : ByteArray) (nL : Nat) (ret : Option FieldType) (T : zT) (μ : zM) (avs : List zV) (P : zP) : Prop :=
  (∀ v, v ∈ avs → zok v) → ∀ (G : zG) (l : Launch), Met l y (Cond.code y cc nL ret :: zws) (zRm d mc) (zPc G T μ avs) (zQc G P) mc (1000 * mc) (fun q => G.1 ≤ q)
/-- what a method's answer must be by its type -/
def zRet (ret : Option FieldType) (r : Option zV) : Prop := match ret with
  | none => r = none
  | some .int => ∃ v, r = some (zI v)
  | some .boolean => r = some (zI 0) ∨ r = some (zI 1)
  | _ => False
theorem zent_ok {avs : List zV} (h : ∀ v, v ∈ avs → zok v) : ∀ (nL i : Nat) (v : zV), znth (zpad nL (zent avs)) i = some (some v) → zok v := by
  intro nL i v hi
  have h1 := znth_pad hi
  clear hi
  induction avs generalizing i with
  | nil => simp [zent, znth] at h1
  | cons a l ih =>
    have ih := ih (fun w hw => h w (List.mem_cons_of_mem _ hw))
    have ha := h a List.mem_cons_self
    rcases a with a | a | a | a
    · cases i with
      | zero => simp [zent, znth] at h1; subst h1; exact ha
      | succ i => exact ih i (by simpa [zent, znth] using h1)
    · cases i with
      | zero => simp [zent, znth] at h1; subst h1; exact ha
      | succ i => exact ih i (by simpa [zent, znth] using h1)
    · match i, h1 with
      | 0, h1 => simp [zent, znth] at h1; subst h1; exact ha
      | 1, h1 => simp [zent, znth] at h1
      | i + 2, h1 => exact ih i (by simpa [zent, znth] using h1)
    · cases i with
      | zero => simp [zent, znth] at h1; subst h1; exact ha
      | succ i => exact ih i (by simpa [zent, znth] using h1)
theorem znar_b {v : Int} (h : v = 0 ∨ v = 1) : narrow .boolean (.int (Int32.ofInt v)) = .int (Int32.ofInt v) := by
  rcases h with rfl | rfl <;> rfl
theorem zMet_of {d mc : Nat} {y : MethodName} {cc : ByteArray} {nL : Nat} {ret : Option FieldType} {T : zT} {μ : zM} {avs : List zV} {P : zP} {ls : List (Option zV)} (X : zX) (hX : X.2 = none) (hi : X.1 = true → y.name = "<init>") (hy : plainName y.cls = true) (hn : (zent avs).length ≤ nL) (hls : zpad nL (zent avs) = ls) (hr : ∀ r T' μ', P r T' μ' → zRet ret r)
    (body : (∀ v, v ∈ avs → zok v) → zA y.cls cc nL (zRm d mc) X T 0 μ 0 ls [] P) : zMet d mc y cc nL ret T μ avs P := by
  intro hok G l
  refine Met.ofW (cc := cc) (maxL := nL) (ret := ret) hy rfl ?_
  intro p e s m args below meth c s₁ B hml hv
  obtain ⟨rfl, hw, hK, hb⟩ := hv
  have hts := atoms_spec (ws := Cond.code y cc nL ret :: zws) B.pre
  have hown : s.vm.findClass y.cls = some m.cls := findClass_of_methodNamed B.named
  have hlocks := B.notSynchronized
  have hnm := (name_of_methodNamed B.named B.method).1
  have hl := zLs_entry G avs hn
  rw [lg_entry_eq]
  rw [hls] at hl
  refine body hok G p l e s m _ below meth c s.heap [] _ _ ⟨B.exec, B.bytes, hml, hown, fun w h => hts w (List.mem_cons_of_mem _ h), hK, fun h => by rw [hnm]; exact hi h, fun L xs h => by rw [hX] at h; cases h⟩ ⟨hw, va_S.rf, hb⟩ hl (fun v h => by cases h) (by rw [← hls]; exact zent_ok hok nL) ?_
  intro r T' μ' cs' pc' la' H' locs' hc1 hc2 hP hrok hHp hrt
  have hret := hr r T' μ' hP
  have hR := B.returns
  have hq : ∀ t : State, t.heap = H' → s.WarmedH t.vm → zQc G P (avs.map (zc G)).toArray s (.returned (r.map (zc G))) t := fun t ht hW => ⟨⟨r, T', μ', rfl, hP, hrok, by rw [ht]; exact hHp.1⟩, hHp.2.1.F ht⟩
  refine W.widen (k := mc) (n := 1000 * mc) hc1 hc2 ?_
  unfold zRet at hret
  split at hret
  · subst hret
    exact W.vret B.exec B.bytes hR hq hHp.2.1.2.2 hrt
  · obtain ⟨v, rfl⟩ := hret
    exact W.iret B.exec B.bytes hR hq hHp.2.1.2.2 hrt
  · rcases hret with rfl | rfl
    · exact W.zret B.exec B.bytes hR (znar_b (Or.inl rfl)) hq hHp.2.1.2.2 hrt
    · exact W.zret B.exec B.bytes hR (znar_b (Or.inr rfl)) hq hHp.2.1.2.2 hrt
  · exact hret.elim
theorem zPc_blind {G : zG} {T : zT} {μ : zM} {avs : List zV} : FrameBlind (zPc G T μ avs) := by
  intro a U g mk h
  obtain ⟨h1, h2, h3, h4⟩ := h
  exact ⟨h1, h2, zKs.same (u := U) (U := U.calling g mk a) rfl h3, h4⟩
theorem zPc_at {G : zG} {T : zT} {μ : zM} {avs : List zV} {s : State} {H : Heap} (hw : zHw G T μ H) (hK : zKs G s) (hb : G.1 ≤ H.size) : ∀ U : State, U.heap = H → s.WarmedH U.vm → zPc G T μ avs (avs.map (zc G)).toArray U :=
  fun U hU hW => ⟨rfl, by rw [hU]; exact hw, hK.warm hW, by rw [hU]; exact hb⟩
section ZR
variable {own : String} {cc : ByteArray} {nL : Nat} {R : Room} {X : zX} {T : zT} {cs : Nat} {μ : zM} {pc : Nat} {ls : List (Option zV)} {st : List zV} {P : zP}
/-- behind a call -/
theorem zrun {p : Program} {l : Launch} {e : Env} {s : State} {m : MethodId} {args : Array Value} {below : List Frame} {meth : Method} {c : Code} {H : Heap} {locs : List Loc} {la : Array Slot} {Q : State → Prop} {G : zG} {mc : Nat} {P' : zP} {st0 : List Value} {a : Array Value}
    (hC : zCtx own cc nL X G p s m args meth c) (hH : zHp G T μ s.heap H locs) (hL : zLs G nL ls la) (hst : ∀ v, v ∈ st → zok v) (hlo : ∀ i v, znth ls i = some (some v) → zok v)
    (hQ : ∀ (r : Option zV) (T' : zT) (μ' : zM) (cs' pc' : Nat) (la' : Array Slot) (H' : Heap) (locs' : List Loc), cs' ≤ R.cells → 1000 * cs' ≤ R.slots → P r T' μ' → (∀ v, r = some v → zok v) → zHp G T' μ' s.heap H' locs' → zRt cc pc' r → W p l e R s m args below meth c H' locs' cs' (1000 * cs') Q (F0 m pc' la' (r.toList.map (zc G))))
    (hr : va_Run p l e R s m args below meth c H locs cs (1000 * cs) mc (1000 * mc) (F0 m pc la st0) (st.map (zc G)) (zQc G P' a) (fun q => G.1 ≤ q))
    (kk : ∀ (r : Option zV) (T' : zT) (μ' : zM), P' r T' μ' → zA own cc nL R X T' (cs + mc) μ' (pc + 3) ls (r.toList ++ st) P) : W p l e R s m args below meth c H locs cs (1000 * cs) Q (F0 m pc la st0) := by
  intro T0 hT Xs
  obtain ⟨v, st₀, t, T', L, h0, X', hL', e1, e2, ⟨⟨r, T1, μ1, hv, hp, hok, hw⟩, hz, hk⟩, stp⟩ := hr T0 hT Xs
  have hv : v = r.map (zc G) := Outcome.returned.inj hv
  subst hv
  rw [h0] at hz hk
  have hS' : va_S (fun q => G.1 ≤ q) s.heap T'.heap (locs ++ L) := by
    obtain ⟨s1, s2, s3⟩ := hH.2.1
    refine ⟨Nat.le_trans s1 (by rw [e1]; exact hz), fun q h1 h2 => ?_, fun q hq => ?_⟩
    · rw [e1, hk q (Nat.lt_of_lt_of_le h1 s1) h2]
      exact s2 q h1 h2
    · rcases List.mem_append.mp hq with h | h
      · exact s3 q h
      · exact hL' q h
  have hok' : ∀ w, w ∈ r.toList ++ st → zok w := fun w hw => by
    rcases List.mem_append.mp hw with h | h
    · cases r with
      | none => cases h
      | some x => rw [List.mem_singleton.mp h]; exact hok x rfl
    · exact hst w h
  have hX2 : Stand p l e R s m args below meth c T' (locs ++ L) (cs + mc) (1000 * (cs + mc)) := by rw [Nat.mul_add]; exact X'
  obtain ⟨t2, a1, b1⟩ := kk r T1 μ1 hp G p l e s m args below meth c T'.heap (locs ++ L) la Q hC ⟨by rw [e1]; exact hw, hS', hH.2.2⟩ hL hok' hlo hQ T' rfl hX2
  refine ⟨t2, stp t2 ?_, b1⟩
  have he : ((r.map (zc G)).toList ++ st.map (zc G)) = (r.toList ++ st).map (zc G) := by cases r <;> rfl
  show Steps _ _ _ (T'.setTop (F0 m (pc + 3) la ((r.map (zc G)).toList ++ st.map (zc G)))) _
  rw [he]
  exact a1
/-- fewer is known of the locals; a value's range is known -/
theorem zA_rs {v : Int} (h : zr v → zA own cc nL R X T cs μ pc ls (zI v :: st) P) : zA own cc nL R X T cs μ pc ls (zI v :: st) P :=
  fun G p l e s m args below meth c H locs la Q hC hH hL hst hlo hQ => h (hst _ List.mem_cons_self) G p l e s m args below meth c H locs la Q hC hH hL hst hlo hQ
theorem zA_rl (i : Nat) {v : Int} (hi : znth ls i = some (some (zI v))) (h : zr v → zA own cc nL R X T cs μ pc ls st P) : zA own cc nL R X T cs μ pc ls st P :=
  fun G p l e s m args below meth c H locs la Q hC hH hL hst hlo hQ => h (hlo i _ hi) G p l e s m args below meth c H locs la Q hC hH hL hst hlo hQ
theorem zA_rm (h : (∀ k i, zr (μ k i)) → zA own cc nL R X T cs μ pc ls st P) : zA own cc nL R X T cs μ pc ls st P :=
  fun G p l e s m args below meth c H locs la Q hC hH hL hst hlo hQ => h hH.1.2.2.1 G p l e s m args below meth c H locs la Q hC hH hL hst hlo hQ
theorem zA_wk {ls' : List (Option zV)} (hw : ∀ i v, znth ls' i = some (some v) → znth ls i = some (some v)) (h : zA own cc nL R X T cs μ pc ls' st P) : zA own cc nL R X T cs μ pc ls st P :=
  fun G p l e s m args below meth c H locs la Q hC hH hL hst hlo hQ => h G p l e s m args below meth c H locs la Q hC hH ⟨hL.1, hL.2.1, fun i v hi => hL.2.2 i v (hw i v hi)⟩ hst (fun i v hi => hlo i v (hw i v hi)) hQ
/-- the ends -/
theorem zA_iret {v : Int} (hd : decode cc pc = .ok (.ireturn, 1)) (hc : cs ≤ R.cells) (hs : 1000 * cs ≤ R.slots) (hp : P (some (zI v)) T μ) : zA own cc nL R X T cs μ pc ls [zI v] P :=
  fun G p l e s m args below meth c H locs la Q hC hH hL hst hlo hQ => hQ (some (zI v)) T μ cs pc la H locs hc hs hp (fun w hw => by cases hw; exact hst _ List.mem_cons_self) hH hd
theorem zA_vret (hd : decode cc pc = .ok (.return_, 1)) (hc : cs ≤ R.cells) (hs : 1000 * cs ≤ R.slots) (hp : P none T μ) : zA own cc nL R X T cs μ pc ls [] P :=
  fun G p l e s m args below meth c H locs la Q hC hH hL hst hlo hQ => hQ none T μ cs pc la H locs hc hs hp (fun w hw => by cases hw) hH hd
end ZR
