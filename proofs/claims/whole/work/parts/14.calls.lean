/-! ===== rules of zA: calls ===== -/
def zcat : List zV → Nat
  | [] => 0
  | .inr (.inr (.inl _)) :: l => 2 + zcat l
  | _ :: l => 1 + zcat l
theorem zcat_eq (G : zG) : ∀ st : List zV, ((st.map (zc G)).map fun v => v.category).sum = zcat st
  | [] => rfl
  | .inl v :: l => by have := zcat_eq G l; simp only [List.map_cons, List.sum_cons, zcat] at *; rw [this]; rfl
  | .inr (.inl v) :: l => by have := zcat_eq G l; simp only [List.map_cons, List.sum_cons, zcat] at *; rw [this]; rfl
  | .inr (.inr (.inl v)) :: l => by have := zcat_eq G l; simp only [List.map_cons, List.sum_cons, zcat] at *; rw [this]; rfl
  | .inr (.inr (.inr v)) :: l => by have := zcat_eq G l; simp only [List.map_cons, List.sum_cons, zcat] at *; rw [this]; rfl
theorem zgood {w : Cond} (h : w ∈ zws) : (w.onTables && w.keeps) = true ∨ ∃ ty, w = .arrayClass ty := good_of_word (List.mem_filter.mp h).2
theorem zpay {y : MethodName} {cc : ByteArray} {nL : Nat} {ret : Option FieldType} {args : Array Value} {s : State} (hts : ∀ w ∈ zws, w.before args s = true) (hc : Cond.code y cc nL ret ∈ zws) :
    ∀ w ∈ Cond.code y cc nL ret :: zws, ∀ (a' : Array Value) (U : State), s.WarmedH U.vm → w.before a' U = true := by
  refine pay_in hts (fun w hw => ?_)
  have : w ∈ zws := by
    rcases List.mem_cons.mp hw with h | h
    · rw [h]; exact hc
    · exact h
  exact ⟨this, zgood this⟩
/-- a method's words at a call -/
def zCy (y : MethodName) (cc : ByteArray) (nL : Nat) (ret : Option FieldType) (n : Nat) : Prop := Cond.code y cc nL ret ∈ zws ∧ Cond.initialized y.cls ∈ zws ∧ (y.cls ≠ "java/lang/invoke/MethodHandle" ∧ y.cls ≠ "java/lang/invoke/VarHandle") ∧ (parseMethodDescriptor y.desc).map (fun d => d.parameters.length) = some n
def zCV (own : String) (index : Nat) (y : MethodName) (cc : ByteArray) (nL : Nat) (ret : Option FieldType) (n : Nat) : Prop := zCy y cc nL ret n ∧ Cond.methodLink own index y ∈ zws ∧ Cond.instanceMethod y ∈ zws ∧ Cond.selects y.cls y y ∈ zws
def zCS (own : String) (index : Nat) (y : MethodName) (cc : ByteArray) (nL : Nat) (ret : Option FieldType) (n : Nat) : Prop := zCy y cc nL ret n ∧ Cond.methodLink own index y ∈ zws ∧ Cond.static y ∈ zws
def zCSN (own : String) (index : Nat) (y : MethodName) (cc : ByteArray) (nL : Nat) (ret : Option FieldType) (n : Nat) : Prop := zCy y cc nL ret n ∧ (∃ host, zNs (Cond.methodLinkNest own index y host)) ∧ Cond.static y ∈ zws
def zCI (own : String) (index : Nat) (y : MethodName) (cc : ByteArray) (nL : Nat) (n : Nat) : Prop := zCy y cc nL none n ∧ Cond.methodLink own index y ∈ zws ∧ Cond.instanceMethod y ∈ zws ∧ y.name = "<init>"
def zCIN (own : String) (index : Nat) (y : MethodName) (cc : ByteArray) (nL : Nat) (n : Nat) : Prop := zCy y cc nL none n ∧ (∃ host, zNs (Cond.methodLinkNest own index y host)) ∧ Cond.instanceMethod y ∈ zws ∧ y.name = "<init>"
def zFit (R : Room) (cs d mc nL : Nat) : Prop := d + 1 ≤ R.frames ∧ 8 + (nL + 11) + 100 * d ≤ R.locals ∧ cs + mc ≤ R.cells ∧ 1000 * cs + 1000 * mc ≤ R.slots
section ZCall
variable {own : String} {cc : ByteArray} {nL : Nat} {R : Room} {X : zX} {T : zT} {cs : Nat} {μ : zM} {pc : Nat} {ls : List (Option zV)} {st st0 : List zV} {P P' : zP}
variable {index d mc n : Nat} {y : MethodName} {cy : ByteArray} {ny : Nat} {ret : Option FieldType} {as : List zV}
theorem zcallB {s : State} {args : Array Value} (hts : ∀ w ∈ zws, w.before args s = true) (hy : zCy y cy ny ret n) (hl : Cond.methodLink own index y ∈ zws) (hR : zFit R cs d mc ny) : CallB R s args own index y cy ny ret (Cond.code y cy ny ret :: zws) (zRm d mc) mc (1000 * mc) n := by
  obtain ⟨h1, h2, h3, h4⟩ := hy
  refine ⟨rfl, rfl, hR.1, hR.2.1, zpay hts h1, List.mem_cons_self, hts _ h1, hts _ h2, h3, fun sig h => ?_, hts _ hl⟩
  rw [h] at h4
  exact (Option.some.inj h4).symm
theorem zcallN {s : State} {args : Array Value} {host : String} (hts : ∀ w ∈ zws, w.before args s = true) (hy : zCy y cy ny ret n) (hl : va_Nw (Cond.methodLinkNest own index y host) s) (hR : zFit R cs d mc ny) : va_CN R s args own index y host cy ny ret (Cond.code y cy ny ret :: zws) (zRm d mc) mc (1000 * mc) n := by
  obtain ⟨h1, h2, h3, h4⟩ := hy
  refine ⟨⟨rfl, rfl, hR.1, hR.2.1, zpay hts h1, List.mem_cons_self⟩, hts _ h1, hts _ h2, h3, fun sig h => ?_, va_Nw.use rfl hl⟩
  rw [h] at h4
  exact (Option.some.inj h4).symm
theorem zrev (G : zG) (as : List zV) (v : zV) (st : List zV) : (as.reverse ++ v :: st).map (zc G) = (as.map (zc G)).reverse ++ zc G v :: st.map (zc G) := by simp
theorem zrev0 (G : zG) (as : List zV) (st : List zV) : (as.reverse ++ st).map (zc G) = (as.map (zc G)).reverse ++ st.map (zc G) := by simp
theorem zA_callV {k ci n0 : Nat} {rs : List (Option Nat)} {q : vw_C} (hc : zCV own index y cy ny ret n) (hk : znth T k = some (ci, n0, rs)) (hq : zCl[ci]? = some q) (hqy : q.1 = y.cls) (hM : zMet d mc y cy ny ret T μ (zR k :: as) P') (hs : st0 = as.reverse ++ zR k :: st) (hn : as.length = n) (hw : Nat.ble (zcat st) 8 = true) (hd : decode cc pc = .ok (.invokevirtual index, 3)) (hR : zFit R cs d mc ny)
    (kk : ∀ (r : Option zV) (T' : zT) (μ' : zM), P' r T' μ' → zA own cc nL R X T' (cs + mc) μ' (pc + 3) ls (r.toList ++ st) P) : zA own cc nL R X T cs μ pc ls st0 P := by
  subst hs
  intro G p l e s m args below meth c H locs la Q hC hH hL hst hlo hQ
  obtain ⟨hy, hl, hi, hsel⟩ := hc
  have hts := hC.2.2.2.2.1
  have hok1 : ∀ v, v ∈ st → zok v := fun v hv => hst v (by simp [hv])
  have hok2 : ∀ v, v ∈ zR k :: as → zok v := fun v hv => by
    rcases List.mem_cons.mp hv with rfl | h
    · exact trivial
    · exact hst v (by simp [h])
  have hat := zW_at (G := G) (μ := μ) hk
  rw [zE_o (e := (ci, n0, rs)) (zcl_len ci q hq).2] at hat
  have hrec := va_recv hC.2.2.2.2.2.1.1 hH.1.1 hq hat
  rw [hqy] at hrec
  rw [zrev]
  exact zrun hC hH hL hok1 hlo hQ (va_runV (C := y.cls) (As := as.map (zc G)) (rest := st.map (zc G)) ⟨hC.1, hC.2.1, hC.2.2.1, hC.2.2.2.1, hts⟩ (hM hok2 G l) ⟨zcallB hts hy hl hR, hts _ hi, hts _ hsel⟩ ⟨zPc_blind, hrec, zPc_at (avs := zR k :: as) hH.1 hC.2.2.2.2.2.1 (Nat.le_trans hH.2.2 hH.2.1.1)⟩ rfl (by rw [List.length_map]; exact hn) hL.1 rfl (lv_room (by rw [zcat_eq]; exact Nat.le_of_ble_eq_true hw)) hd ⟨hR.2.2.1, hR.2.2.2⟩) kk
theorem zA_callS (hc : zCS own index y cy ny ret n) (hM : zMet d mc y cy ny ret T μ as P') (hs : st0 = as.reverse ++ st) (hn : as.length = n) (hw : Nat.ble (zcat st) 8 = true) (hd : decode cc pc = .ok (.invokestatic index, 3)) (hR : zFit R cs d mc ny)
    (kk : ∀ (r : Option zV) (T' : zT) (μ' : zM), P' r T' μ' → zA own cc nL R X T' (cs + mc) μ' (pc + 3) ls (r.toList ++ st) P) : zA own cc nL R X T cs μ pc ls st0 P := by
  subst hs
  intro G p l e s m args below meth c H locs la Q hC hH hL hst hlo hQ
  obtain ⟨hy, hl, hi⟩ := hc
  have hts := hC.2.2.2.2.1
  have hok1 : ∀ v, v ∈ st → zok v := fun v hv => hst v (by simp [hv])
  have hok2 : ∀ v, v ∈ as → zok v := fun v hv => hst v (by simp [hv])
  rw [zrev0]
  exact zrun hC hH hL hok1 hlo hQ (va_runS (As := as.map (zc G)) (rest := st.map (zc G)) ⟨hC.1, hC.2.1, hC.2.2.1, hC.2.2.2.1, hts⟩ (hM hok2 G l) ⟨zcallB hts hy hl hR, hts _ hi⟩ ⟨zPc_blind, zPc_at (avs := as) hH.1 hC.2.2.2.2.2.1 (Nat.le_trans hH.2.2 hH.2.1.1)⟩ rfl (by rw [List.length_map]; exact hn) hL.1 rfl (lv_room (by rw [zcat_eq]; exact Nat.le_of_ble_eq_true hw)) hd ⟨hR.2.2.1, hR.2.2.2⟩) kk
theorem zA_callSN (hc : zCSN own index y cy ny ret n) (hM : zMet d mc y cy ny ret T μ as P') (hs : st0 = as.reverse ++ st) (hn : as.length = n) (hw : Nat.ble (zcat st) 8 = true) (hd : decode cc pc = .ok (.invokestatic index, 3)) (hR : zFit R cs d mc ny)
    (kk : ∀ (r : Option zV) (T' : zT) (μ' : zM), P' r T' μ' → zA own cc nL R X T' (cs + mc) μ' (pc + 3) ls (r.toList ++ st) P) : zA own cc nL R X T cs μ pc ls st0 P := by
  subst hs
  intro G p l e s m args below meth c H locs la Q hC hH hL hst hlo hQ
  obtain ⟨hy, ⟨host, hl⟩, hi⟩ := hc
  have hts := hC.2.2.2.2.1
  have hok1 : ∀ v, v ∈ st → zok v := fun v hv => hst v (by simp [hv])
  have hok2 : ∀ v, v ∈ as → zok v := fun v hv => hst v (by simp [hv])
  rw [zrev0]
  exact zrun hC hH hL hok1 hlo hQ (va_runSN (host := host) (As := as.map (zc G)) (rest := st.map (zc G)) ⟨hC.1, hC.2.1, hC.2.2.1, hC.2.2.2.1, hts⟩ (hM hok2 G l) ⟨zcallN hts hy (hC.2.2.2.2.2.1.2 _ hl) hR, hts _ hi, trivial⟩ ⟨zPc_blind, zPc_at (avs := as) hH.1 hC.2.2.2.2.2.1 (Nat.le_trans hH.2.2 hH.2.1.1)⟩ rfl (by rw [List.length_map]; exact hn) hL.1 rfl (lv_room (by rw [zcat_eq]; exact Nat.le_of_ble_eq_true hw)) hd ⟨hR.2.2.1, hR.2.2.2⟩) kk
theorem zA_callI {k : Nat} (hc : zCI own index y cy ny n) (hM : zMet d mc y cy ny none T μ (zR k :: as) P') (hs : st0 = as.reverse ++ zR k :: st) (hn : as.length = n) (hw : Nat.ble (zcat st) 8 = true) (hd : decode cc pc = .ok (.invokespecial index, 3)) (hR : zFit R cs d mc ny)
    (kk : ∀ (r : Option zV) (T' : zT) (μ' : zM), P' r T' μ' → zA own cc nL R X T' (cs + mc) μ' (pc + 3) ls (r.toList ++ st) P) : zA own cc nL R X T cs μ pc ls st0 P := by
  subst hs
  intro G p l e s m args below meth c H locs la Q hC hH hL hst hlo hQ
  obtain ⟨hy, hl, hi, hnm⟩ := hc
  have hts := hC.2.2.2.2.1
  have hok1 : ∀ v, v ∈ st → zok v := fun v hv => hst v (by simp [hv])
  have hok2 : ∀ v, v ∈ zR k :: as → zok v := fun v hv => by
    rcases List.mem_cons.mp hv with rfl | h
    · exact trivial
    · exact hst v (by simp [h])
  rw [zrev]
  exact zrun hC hH hL hok1 hlo hQ (va_runI (As := as.map (zc G)) (rest := st.map (zc G)) ⟨hC.1, hC.2.1, hC.2.2.1, hC.2.2.2.1, hts⟩ (hM hok2 G l) ⟨zcallB hts hy hl hR, hnm, hts _ hi⟩ ⟨zPc_blind, zPc_at (avs := zR k :: as) hH.1 hC.2.2.2.2.2.1 (Nat.le_trans hH.2.2 hH.2.1.1)⟩ rfl (by rw [List.length_map]; exact hn) hL.1 rfl (lv_room (by rw [zcat_eq]; exact Nat.le_of_ble_eq_true hw)) hd ⟨hR.2.2.1, hR.2.2.2⟩) kk
theorem zA_callIN {k : Nat} (hc : zCIN own index y cy ny n) (hM : zMet d mc y cy ny none T μ (zR k :: as) P') (hs : st0 = as.reverse ++ zR k :: st) (hn : as.length = n) (hw : Nat.ble (zcat st) 8 = true) (hd : decode cc pc = .ok (.invokespecial index, 3)) (hR : zFit R cs d mc ny)
    (kk : ∀ (r : Option zV) (T' : zT) (μ' : zM), P' r T' μ' → zA own cc nL R X T' (cs + mc) μ' (pc + 3) ls (r.toList ++ st) P) : zA own cc nL R X T cs μ pc ls st0 P := by
  subst hs
  intro G p l e s m args below meth c H locs la Q hC hH hL hst hlo hQ
  obtain ⟨hy, ⟨host, hl⟩, hi, hnm⟩ := hc
  have hts := hC.2.2.2.2.1
  have hok1 : ∀ v, v ∈ st → zok v := fun v hv => hst v (by simp [hv])
  have hok2 : ∀ v, v ∈ zR k :: as → zok v := fun v hv => by
    rcases List.mem_cons.mp hv with rfl | h
    · exact trivial
    · exact hst v (by simp [h])
  rw [zrev]
  exact zrun hC hH hL hok1 hlo hQ (va_runIN (host := host) (As := as.map (zc G)) (rest := st.map (zc G)) ⟨hC.1, hC.2.1, hC.2.2.1, hC.2.2.2.1, hts⟩ (hM hok2 G l) ⟨zcallN hts hy (hC.2.2.2.2.2.1.2 _ hl) hR, hnm, hts _ hi⟩ ⟨zPc_blind, zPc_at (avs := zR k :: as) hH.1 hC.2.2.2.2.2.1 (Nat.le_trans hH.2.2 hH.2.1.1)⟩ rfl (by rw [List.length_map]; exact hn) hL.1 rfl (lv_room (by rw [zcat_eq]; exact Nat.le_of_ble_eq_true hw)) hd ⟨hR.2.2.1, hR.2.2.2⟩) kk
/-- Object.<init> -/
theorem zA_obj {k : Nat} (hl : Cond.methodLink own index Lib.objectInit ∈ zws) (hi : Cond.instanceMethod Lib.objectInit ∈ zws) (hc : Cond.code Lib.objectInit ⟨#[0xb1]⟩ 1 none ∈ zws) (hd : decode cc pc = .ok (.invokespecial index, 3)) (hf : 1 ≤ R.frames) (hlo2 : zcat st + 12 ≤ R.locals) (kk : zA own cc nL R X T cs μ (pc + 3) ls st P) : zA own cc nL R X T cs μ pc ls (zR k :: st) P := by
  intro G p l e s m args below meth c H locs la Q hC hH hL hst hlo hQ
  have hts := hC.2.2.2.2.1
  refine W.objInit hC.1 hC.2.1 hC.2.2.2.1 (hts _ hl) (hts _ hi) (hts _ hc) rfl (by rw [hC.2.2.1]; exact hL.1) rfl hd hf ?_ (kk G p l e s m args below meth c H locs la Q hC hH hL (ztail hst) hlo hQ)
  rw [zcat_eq]
  show 2 * 0 + _ + _ ≤ _
  omega
theorem zA_max {a b : Int} (hl : Cond.methodLink own index Lib.Math.max.name ∈ zws) (hs : Cond.static Lib.Math.max.name ∈ zws) (hi : Cond.initialized "java/lang/Math" ∈ zws) (hc : Cond.code Lib.Math.max.name Lib.Math.max.code 2 (some .int) ∈ zws) (hd : decode cc pc = .ok (.invokestatic index, 3)) (hf : 1 ≤ R.frames) (hlo2 : zcat st + 13 ≤ R.locals) (hR1 : cs ≤ R.cells) (hR2 : 1000 * cs ≤ R.slots) (kk : zA own cc nL R X T cs μ (pc + 3) ls (zI (if a < b then b else a) :: st) P) : zA own cc nL R X T cs μ pc ls (zI b :: zI a :: st) P := by
  intro G p l e s m args below meth c H locs la Q hC hH hL hst hlo hQ
  have hts := hC.2.2.2.2.1
  have h1 : zr b := zhead hst
  have h2 : zr a := zhead (ztail hst)
  have h := kk G p l e s m args below meth c H locs la Q hC hH hL (zcons (v := zI (if a < b then b else a)) (by show zr _; split <;> assumption) (ztail (ztail hst))) hlo hQ
  refine va_mmax hC.1 hC.2.1 (by rw [hC.2.2.1]; exact hL.1.symm) hC.2.2.2.1 (hts _ hl) (hts _ hs) (hts _ hi) (hts _ hc) hf (by rw [zcat_eq]; exact hlo2) hR1 hR2 hd ?_
  have e1 : (if Int32.ofInt a < Int32.ofInt b then Int32.ofInt b else Int32.ofInt a) = Int32.ofInt (if a < b then b else a) := by
    simp only [zo_lt h2 h1]
    split <;> rfl
  rw [e1]
  exact h
theorem zA_min {a b : Int} (hl : Cond.methodLink own index Lib.Math.min.name ∈ zws) (hs : Cond.static Lib.Math.min.name ∈ zws) (hi : Cond.initialized "java/lang/Math" ∈ zws) (hc : Cond.code Lib.Math.min.name Lib.Math.min.code 2 (some .int) ∈ zws) (hd : decode cc pc = .ok (.invokestatic index, 3)) (hf : 1 ≤ R.frames) (hlo2 : zcat st + 13 ≤ R.locals) (hR1 : cs ≤ R.cells) (hR2 : 1000 * cs ≤ R.slots) (kk : zA own cc nL R X T cs μ (pc + 3) ls (zI (if b < a then b else a) :: st) P) : zA own cc nL R X T cs μ pc ls (zI b :: zI a :: st) P := by
  intro G p l e s m args below meth c H locs la Q hC hH hL hst hlo hQ
  have hts := hC.2.2.2.2.1
  have h1 : zr b := zhead hst
  have h2 : zr a := zhead (ztail hst)
  have h := kk G p l e s m args below meth c H locs la Q hC hH hL (zcons (v := zI (if b < a then b else a)) (by show zr _; split <;> assumption) (ztail (ztail hst))) hlo hQ
  refine va_mmin hC.1 hC.2.1 (by rw [hC.2.2.1]; exact hL.1.symm) hC.2.2.2.1 (hts _ hl) (hts _ hs) (hts _ hi) (hts _ hc) hf (by rw [zcat_eq]; exact hlo2) hR1 hR2 hd ?_
  have e1 : (if Int32.ofInt b < Int32.ofInt a then Int32.ofInt b else Int32.ofInt a) = Int32.ofInt (if b < a then b else a) := by
    simp only [zo_lt h1 h2]
    split <;> rfl
  rw [e1]
  exact h
/-- System.arraycopy of ints -/
theorem zA_copy {a b na nb : Nat} {sp dp n : Int} {ra rb : List (Option Nat)} (hT : Nat.ble 131 T.length = true) (hl : Cond.methodLink own index arraycopyName ∈ zws) (hnat : Cond.native arraycopyName ∈ zws) (hs : Cond.static arraycopyName ∈ zws) (hi : Cond.initialized "java/lang/System" ∈ zws) (hka : znth T a = some (10, na, ra)) (hkb : znth T b = some (10, nb, rb)) (h1 : 0 ≤ sp) (h2 : 0 ≤ dp) (h3 : 0 ≤ n) (h4 : sp + n ≤ na) (h5 : dp + n ≤ nb) (hd : decode cc pc = .ok (.invokestatic index, 3)) (hf : 1 ≤ R.frames) (hlo2 : zcat st + (nativeFrameWords "java/lang/System" "arraycopy" 5 + 11) ≤ R.locals)
    (kk : zA own cc nL R X T cs (zcp μ a sp.toNat b dp.toNat n.toNat) (pc + 3) ls st P) : zA own cc nL R X T cs μ pc ls (zI n :: zI dp :: zR b :: zI sp :: zR a :: st) P := by
  intro G p l e s m args below meth c H locs la Q hC hH hL hst hlo hQ
  have hts := hC.2.2.2.2.1
  have z1 : zr n := zhead hst
  have z2 : zr dp := zhead (ztail hst)
  have z3 : zr sp := zhead (ztail (ztail (ztail hst)))
  have hTl : 131 ≤ T.length := Nat.le_of_ble_eq_true hT
  obtain ⟨⟨hP, hsz, hrg, hzz⟩, hS, hb⟩ := hH
  have hn0 : ∀ {v : Int}, zr v → 0 ≤ v → ¬ Int32.ofInt v < 0 := fun {v} hv h0 => by rw [zo_0, zo_lt hv zr_0]; omega
  refine va_copyi (D := G.2.2.1) (A := fun q => G.1 ≤ q) (ty := .int) hC.1 hC.2.1 (by rw [hC.2.2.1]; exact hL.1.symm) hC.2.2.2.1 (hts _ hl) (hts _ hnat) (hts _ hs) (hts _ hi) hC.2.2.2.2.2.1.1 hP zW_D hS a b 0 0 (zW_at (G := G) (μ := μ) hka) (zW_at (G := G) (μ := μ) hkb) rfl rfl rfl (hn0 z3 h1) (hn0 z2 h2) (hn0 z1 h3) (by rw [zo_clamp z3, zo_clamp z1]; show _ ≤ na; omega) (by rw [zo_clamp z2, zo_clamp z1]; show _ ≤ nb; omega) (fun i _ => rfl) hf (by rw [zcat_eq]; exact hlo2) hd fun H1 locs1 hP1 hD1 hS1 => ?_
  rw [zo_clamp z1, zo_clamp z2, zo_clamp z3] at hP1
  have hx : zE G (10, nb, rb) (zcp μ a sp.toNat b dp.toNat n.toNat) b = .inl (G.2.2.2.1, nb, .inl (va_cpy (fun i => Int32.ofInt (μ a i)) (fun i => Int32.ofInt (μ b i)) sp.toNat dp.toNat n.toNat)) := by
    rw [zE_i]
    congr 4
    funext j
    unfold zcp va_cpy
    by_cases hj : dp.toNat ≤ j ∧ j < dp.toNat + n.toNat
    · rw [if_pos ⟨rfl, hj⟩, if_pos hj]
    · rw [if_neg (fun q => hj q.2), if_neg hj]
  have ho : ∀ j i, j ≠ b → zcp μ a sp.toNat b dp.toNat n.toNat j i = μ j i := fun j i hj => if_neg (fun q => hj q.1)
  rw [zW_set hkb hx ho] at hP1
  refine kk G p l e s m args below meth c H1 locs1 la Q hC ⟨⟨hP1, fun h => absurd h (by omega), fun k i => ?_, fun k i hk => ?_⟩, hS1, hb⟩ hL (ztail (ztail (ztail (ztail (ztail hst))))) hlo hQ
  · unfold zcp
    split
    · exact hrg _ _
    · exact hrg _ _
  · have := zlt hkb
    rw [ho k i (by omega)]
    exact hzz k i hk
end ZCall
