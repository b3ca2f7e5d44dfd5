/-! ===== the rules as a walk uses them ===== -/
def zPi (Q : Int → zM → Prop) : zP := fun r T' μ' => T' = TF ∧ ∃ v, r = some (zI v) ∧ Q v μ'
def zPv (Q : zM → Prop) : zP := fun r T' μ' => T' = TF ∧ r = none ∧ Q μ'
def zb (b : Bool) : Int := if b then 1 else 0
def zPb (Q : Bool → zM → Prop) : zP := fun r T' μ' => T' = TF ∧ ∃ b : Bool, r = some (zI (zb b)) ∧ Q b μ'
theorem zb_t : zb true = 1 := rfl
theorem zb_f : zb false = 0 := rfl
theorem zfit0 {E D nL : Nat} (h : D + 1 ≤ E) (hn : Nat.ble nL 81 = true) : zFit (zRm E 0) 0 D 0 nL := by
  have := Nat.le_of_ble_eq_true hn
  refine ⟨h, ?_, Nat.le_refl _, Nat.le_refl _⟩
  show 8 + (nL + 11) + 100 * D ≤ 100 * E
  omega
theorem zMi_of {d : Nat} {y : MethodName} {cc : ByteArray} {nL : Nat} {μ : zM} {avs : List zV} {Q : Int → zM → Prop} {ls : List (Option zV)} (own : String) (ho : y.cls = own) (hy : plainName y.cls = true) (hn : Nat.ble (zent avs).length nL = true) (hls : zpad nL (zent avs) = ls) (body : (∀ v, v ∈ avs → zok v) → zA own cc nL (zRm d 0) zN0 TF 0 μ 0 ls [] (zPi Q)) : zMet d 0 y cc nL (some .int) TF μ avs (zPi Q) :=
  zMet_of zN0 rfl (fun h => by cases h) hy (Nat.le_of_ble_eq_true hn) hls (fun r T' μ' h => by obtain ⟨-, v, hv, -⟩ := h; exact ⟨v, hv⟩) (by rw [ho]; exact body)
theorem zMv_of {d : Nat} {y : MethodName} {cc : ByteArray} {nL : Nat} {μ : zM} {avs : List zV} {Q : zM → Prop} {ls : List (Option zV)} (own : String) (ho : y.cls = own) (hy : plainName y.cls = true) (hn : Nat.ble (zent avs).length nL = true) (hls : zpad nL (zent avs) = ls) (body : (∀ v, v ∈ avs → zok v) → zA own cc nL (zRm d 0) zN0 TF 0 μ 0 ls [] (zPv Q)) : zMet d 0 y cc nL none TF μ avs (zPv Q) :=
  zMet_of zN0 rfl (fun h => by cases h) hy (Nat.le_of_ble_eq_true hn) hls (fun r T' μ' h => h.2.1) (by rw [ho]; exact body)
theorem zMb_of {d : Nat} {y : MethodName} {cc : ByteArray} {nL : Nat} {μ : zM} {avs : List zV} {Q : Bool → zM → Prop} {ls : List (Option zV)} (own : String) (ho : y.cls = own) (hy : plainName y.cls = true) (hn : Nat.ble (zent avs).length nL = true) (hls : zpad nL (zent avs) = ls) (body : (∀ v, v ∈ avs → zok v) → zA own cc nL (zRm d 0) zN0 TF 0 μ 0 ls [] (zPb Q)) : zMet d 0 y cc nL (some .boolean) TF μ avs (zPb Q) :=
  zMet_of zN0 rfl (fun h => by cases h) hy (Nat.le_of_ble_eq_true hn) hls (fun r T' μ' h => by obtain ⟨-, b, hv, -⟩ := h; cases b; exact Or.inl hv; exact Or.inr hv) (by rw [ho]; exact body)
def zno : List (Option zV) → Nat → List (Option zV)
  | [], _ => []
  | _ :: l, 0 => none :: l
  | o :: l, n + 1 => o :: zno l n
theorem zno_at : ∀ (ls : List (Option zV)) (i j : Nat) (v : zV), znth (zno ls i) j = some (some v) → znth ls j = some (some v)
  | [], i, j, v, h => by simp [zno, znth] at h
  | o :: l, 0, j, v, h => by
    cases j with
    | zero => simp [zno, znth] at h
    | succ j => simpa [zno, znth] using h
  | o :: l, i + 1, j, v, h => by
    cases j with
    | zero => simpa [zno, znth] using h
    | succ j => simp only [zno, znth] at h ⊢; exact zno_at l i j v h
theorem zMet_mono {d mc : Nat} {y : MethodName} {cc : ByteArray} {nL : Nat} {ret : Option FieldType} {T : zT} {μ : zM} {avs : List zV} {P P' : zP} (h : zMet d mc y cc nL ret T μ avs P) (hp : ∀ r T' μ', P r T' μ' → P' r T' μ') : zMet d mc y cc nL ret T μ avs P' := fun hok G l =>
  MetFree.mono (h hok G l) (fun _ _ q => q) (fun _ _ _ _ _ q => q) (fun _ _ _ _ _ q => by
    obtain ⟨⟨⟨r, T', μ', h1, h2, h3⟩, h4⟩, h5⟩ := q
    exact ⟨⟨⟨r, T', μ', h1, hp r T' μ' h2, h3⟩, h4⟩, h5⟩)
theorem zMi_mono {d : Nat} {y : MethodName} {cc : ByteArray} {nL : Nat} {μ : zM} {avs : List zV} {Q Q' : Int → zM → Prop} (h : zMet d 0 y cc nL (some .int) TF μ avs (zPi Q)) (hp : ∀ v μ', Q v μ' → Q' v μ') : zMet d 0 y cc nL (some .int) TF μ avs (zPi Q') :=
  zMet_mono h (fun r T' μ' q => by obtain ⟨h1, v, h2, h3⟩ := q; exact ⟨h1, v, h2, hp v μ' h3⟩)
theorem zMv_mono {d : Nat} {y : MethodName} {cc : ByteArray} {nL : Nat} {μ : zM} {avs : List zV} {Q Q' : zM → Prop} (h : zMet d 0 y cc nL none TF μ avs (zPv Q)) (hp : ∀ μ', Q μ' → Q' μ') : zMet d 0 y cc nL none TF μ avs (zPv Q') :=
  zMet_mono h (fun r T' μ' q => by obtain ⟨h1, h2, h3⟩ := q; exact ⟨h1, h2, hp μ' h3⟩)
theorem zMb_mono {d : Nat} {y : MethodName} {cc : ByteArray} {nL : Nat} {μ : zM} {avs : List zV} {Q Q' : Bool → zM → Prop} (h : zMet d 0 y cc nL (some .boolean) TF μ avs (zPb Q)) (hp : ∀ v μ', Q v μ' → Q' v μ') : zMet d 0 y cc nL (some .boolean) TF μ avs (zPb Q') :=
  zMet_mono h (fun r T' μ' q => by obtain ⟨h1, v, h2, h3⟩ := q; exact ⟨h1, v, h2, hp v μ' h3⟩)
/-- what is known of the memory at a method's start: every number is in range -/
theorem zMet_rg {d mc : Nat} {y : MethodName} {cc : ByteArray} {nL : Nat} {ret : Option FieldType} {T : zT} {μ : zM} {avs : List zV} {P : zP} (h : (∀ k i, zr (μ k i)) → (∀ v, v ∈ avs → zok v) → zMet d mc y cc nL ret T μ avs P) : zMet d mc y cc nL ret T μ avs P := by
  intro hok G l
  by_cases hr : ∀ k i, zr (μ k i)
  · exact h hr hok hok G l
  · intro p e ha hc hk s m args below hf happ hpre
    exact absurd hpre.2.1.2.2.1 hr
section ZWalk
variable {own : String} {cc : ByteArray} {nL : Nat} {R : Room} {X : zX} {T : zT} {cs : Nat} {μ : zM} {pc : Nat} {ls : List (Option zV)} {st st0 : List zV} {P : zP}
theorem zA_dr {ls' : List (Option zV)} (i : Nat) (h : zno ls i = ls') (kk : zA own cc nL R X T cs μ pc ls' st P) : zA own cc nL R X T cs μ pc ls st P := zA_wk (fun j v hj => zno_at ls i j v (by rw [h]; exact hj)) kk
theorem zA_eq {st' : List zV} (h : st = st') (kk : zA own cc nL R X T cs μ pc ls st' P) : zA own cc nL R X T cs μ pc ls st P := h ▸ kk
theorem zA_leq {ls' : List (Option zV)} (h : ls = ls') (kk : zA own cc nL R X T cs μ pc ls' st P) : zA own cc nL R X T cs μ pc ls st P := h ▸ kk
theorem zA_meq {μ' : zM} (h : μ = μ') (kk : zA own cc nL R X T cs μ' pc ls st P) : zA own cc nL R X T cs μ pc ls st P := h ▸ kk
theorem zA_iaddB {a b : Int} (hd : decode cc pc = .ok (.iadd, 1)) (hz : zr (a + b)) (kk : zA own cc nL R X T cs μ (pc + 1) ls (zI (a + b) :: st) P) : zA own cc nL R X T cs μ pc ls (zI b :: zI a :: st) P := zA_iadd hd (by rw [zwi_id hz]; exact kk)
theorem zA_isubB {a b : Int} (hd : decode cc pc = .ok (.isub, 1)) (hz : zr (a - b)) (kk : zA own cc nL R X T cs μ (pc + 1) ls (zI (a - b) :: st) P) : zA own cc nL R X T cs μ pc ls (zI b :: zI a :: st) P := zA_isub hd (by rw [zwi_id hz]; exact kk)
theorem zA_imulB {a b : Int} (hd : decode cc pc = .ok (.imul, 1)) (hz : zr (a * b)) (kk : zA own cc nL R X T cs μ (pc + 1) ls (zI (a * b) :: st) P) : zA own cc nL R X T cs μ pc ls (zI b :: zI a :: st) P := zA_imul hd (by rw [zwi_id hz]; exact kk)
theorem zA_iincB {i : Nat} {n v : Int} {ls' : List (Option zV)} (hd : decode cc pc = .ok (.iinc i n, 3)) (hn : Nat.blt i nL = true) (hv : znth ls i = some (some (zI v))) (hz : zr (v + n)) (hl : zst ls i (zI (v + n)) = ls') (kk : zA own cc nL R X T cs μ (pc + 3) ls' st P) : zA own cc nL R X T cs μ pc ls st P := zA_iinc hd hn hv (by rw [zwi_id hz]; exact hl) kk
theorem zA_idivB {a b : Int} (hd : decode cc pc = .ok (.idiv, 1)) (ha : 0 ≤ a) (hb : 0 < b) (kk : zA own cc nL R X T cs μ (pc + 1) ls (zI (a / b) :: st) P) : zA own cc nL R X T cs μ pc ls (zI b :: zI a :: st) P := by
  intro G p l e s m args below meth c H locs la Q hC hH hL hst hlo hQ
  have h2 : zr a := zhead (ztail hst)
  have h3 : zwi (a.tdiv b) = a / b := by
    rw [Int.tdiv_eq_ediv_of_nonneg ha]
    refine zwi_id ⟨?_, ?_⟩
    · have := Int.ediv_nonneg ha (Int.le_of_lt hb); omega
    · have h4 := Int.ediv_le_self b ha
      have := h2.2; omega
  refine zA_idiv hd (by omega) ?_ G p l e s m args below meth c H locs la Q hC hH hL hst hlo hQ
  rw [h3]
  exact kk
theorem zA_iremB {a b : Int} (hd : decode cc pc = .ok (.irem, 1)) (ha : 0 ≤ a) (hb : 0 < b) (kk : zA own cc nL R X T cs μ (pc + 1) ls (zI (a % b) :: st) P) : zA own cc nL R X T cs μ pc ls (zI b :: zI a :: st) P := zA_irem hd (by omega) (by rw [Int.tmod_eq_emod_of_nonneg ha]; exact kk)
theorem zA_getE {index ci j k n : Nat} {w : Int} {rs : List (Option Nat)} (hf : zFI own index ci j) (hk : znth T k = some (ci, n, rs)) (hd : decode cc pc = .ok (.getfield index, 3)) (hv : μ k j = w) (kk : zA own cc nL R X T cs μ (pc + 3) ls (zI w :: st) P) : zA own cc nL R X T cs μ pc ls (zR k :: st) P := zA_getI hf hk hd (by rw [hv]; exact kk)
theorem zA_ialE {k n j : Nat} {i w : Int} {rs : List (Option Nat)} (hk : znth T k = some (10, n, rs)) (h0 : 0 ≤ i) (h1 : i < n) (hd : decode cc pc = .ok (.iaload, 1)) (hj : i.toNat = j) (hv : μ k j = w) (kk : zA own cc nL R X T cs μ (pc + 1) ls (zI w :: st) P) : zA own cc nL R X T cs μ pc ls (zI i :: zR k :: st) P := zA_iald hk h0 h1 hd (by rw [hj, hv]; exact kk)
theorem zA_iasE {k n j : Nat} {i v : Int} {rs : List (Option Nat)} (hk : znth T k = some (10, n, rs)) (h0 : 0 ≤ i) (h1 : i < n) (hd : decode cc pc = .ok (.iastore, 1)) (hj : i.toNat = j) (kk : zA own cc nL R X T cs (zup μ k j v) (pc + 1) ls st P) : zA own cc nL R X T cs μ pc ls (zI v :: zI i :: zR k :: st) P := zA_iast hk h0 h1 hd (by rw [hj]; exact kk)
theorem zA_iaddE {a b w : Int} (hd : decode cc pc = .ok (.iadd, 1)) (hz : zr w) (hw : a + b = w) (kk : zA own cc nL R X T cs μ (pc + 1) ls (zI w :: st) P) : zA own cc nL R X T cs μ pc ls (zI b :: zI a :: st) P := by
  subst hw
  exact zA_iaddB hd hz kk
theorem zA_isubE {a b w : Int} (hd : decode cc pc = .ok (.isub, 1)) (hz : zr w) (hw : a - b = w) (kk : zA own cc nL R X T cs μ (pc + 1) ls (zI w :: st) P) : zA own cc nL R X T cs μ pc ls (zI b :: zI a :: st) P := by
  subst hw
  exact zA_isubB hd hz kk
theorem zA_imulE {a b w : Int} (hd : decode cc pc = .ok (.imul, 1)) (hz : zr w) (hw : a * b = w) (kk : zA own cc nL R X T cs μ (pc + 1) ls (zI w :: st) P) : zA own cc nL R X T cs μ pc ls (zI b :: zI a :: st) P := by
  subst hw
  exact zA_imulB hd hz kk
theorem zA_idivE {a b w : Int} (hd : decode cc pc = .ok (.idiv, 1)) (ha : 0 ≤ a) (hb : 0 < b) (hw : a / b = w) (kk : zA own cc nL R X T cs μ (pc + 1) ls (zI w :: st) P) : zA own cc nL R X T cs μ pc ls (zI b :: zI a :: st) P := by
  subst hw
  exact zA_idivB hd ha hb kk
theorem zA_iremE {a b w : Int} (hd : decode cc pc = .ok (.irem, 1)) (ha : 0 ≤ a) (hb : 0 < b) (hw : a % b = w) (kk : zA own cc nL R X T cs μ (pc + 1) ls (zI w :: st) P) : zA own cc nL R X T cs μ pc ls (zI b :: zI a :: st) P := by
  subst hw
  exact zA_iremB hd ha hb kk
theorem zA_iandE {a b w : Int} (hd : decode cc pc = .ok (.iand, 1)) (hw : zand a b = w) (kk : zA own cc nL R X T cs μ (pc + 1) ls (zI w :: st) P) : zA own cc nL R X T cs μ pc ls (zI b :: zI a :: st) P := by
  subst hw
  exact zA_iand hd kk
theorem zA_iorE {a b w : Int} (hd : decode cc pc = .ok (.ior, 1)) (hw : zor a b = w) (kk : zA own cc nL R X T cs μ (pc + 1) ls (zI w :: st) P) : zA own cc nL R X T cs μ pc ls (zI b :: zI a :: st) P := by
  subst hw
  exact zA_ior hd kk
theorem zA_ixorE {a b w : Int} (hd : decode cc pc = .ok (.ixor, 1)) (hw : zxor a b = w) (kk : zA own cc nL R X T cs μ (pc + 1) ls (zI w :: st) P) : zA own cc nL R X T cs μ pc ls (zI b :: zI a :: st) P := by
  subst hw
  exact zA_ixor hd kk
theorem zA_ishlE {a b w : Int} (hd : decode cc pc = .ok (.ishl, 1)) (hw : zshl a b = w) (kk : zA own cc nL R X T cs μ (pc + 1) ls (zI w :: st) P) : zA own cc nL R X T cs μ pc ls (zI b :: zI a :: st) P := by
  subst hw
  exact zA_ishl hd kk
theorem zA_ishrE {a b w : Int} (hd : decode cc pc = .ok (.ishr, 1)) (hw : zshr a b = w) (kk : zA own cc nL R X T cs μ (pc + 1) ls (zI w :: st) P) : zA own cc nL R X T cs μ pc ls (zI b :: zI a :: st) P := by
  subst hw
  exact zA_ishr hd kk
theorem zA_iincE {i : Nat} {n v w : Int} {ls' : List (Option zV)} (hd : decode cc pc = .ok (.iinc i n, 3)) (hn : Nat.blt i nL = true) (hv : znth ls i = some (some (zI v))) (hz : zr w) (hw : v + n = w) (hl : zst ls i (zI w) = ls') (kk : zA own cc nL R X T cs μ (pc + 3) ls' st P) : zA own cc nL R X T cs μ pc ls st P := by
  subst hw
  exact zA_iincB hd hn hv hz hl kk
theorem zA_tinE {dflt lo hi : Int} {offs : Array Int} {len : Nat} {a v off : Int} {tgt : Nat} (hv : a = v) (hd : decode cc pc = .ok (.tableswitch dflt lo hi offs, len)) (h1 : ¬ v < lo) (h2 : ¬ hi < v) (ho : offs[(v - lo).toNat]? = some off) (ht : (pc : Int) + off = (tgt : Int)) (kk : zA own cc nL R X T cs μ tgt ls st P) : zA own cc nL R X T cs μ pc ls (zI a :: st) P := by
  subst hv
  exact zA_tin hd h1 h2 ho ht kk
theorem zA_lswE {dflt : Int} {ps : Array (Int × Int)} {len : Nat} {a v off : Int} {tgt : Nat} (hv : a = v) (hd : decode cc pc = .ok (.lookupswitch dflt ps, len)) (hp : (ps.toList.zip (ps.toList.drop 1)).all (fun (a, next) => a.1 < next.1) = true) (ho : Op.lookupswitch.offset ps.toList dflt v = off) (ht : (pc : Int) + off = (tgt : Int)) (kk : zA own cc nL R X T cs μ tgt ls st P) : zA own cc nL R X T cs μ pc ls (zI a :: st) P := by
  subst hv
  exact zA_lsw hd hp ho ht kk
theorem zb_0 {b : Bool} : zb b = 0 ↔ b = false := by cases b <;> simp [zb]
theorem zA_ifb_eq {b : Bool} {off : Int} {tgt : Nat} (hd : decode cc pc = .ok (.ifCond .eq off, 3)) (ht : (pc : Int) + off = (tgt : Int)) (kt : b = false → zA own cc nL R X T cs μ tgt ls st P) (kf : b = true → zA own cc nL R X T cs μ (pc + 3) ls st P) : zA own cc nL R X T cs μ pc ls (zI (zb b) :: st) P := zA_if_eq hd ht (fun h => kt (zb_0.mp h)) (fun h => kf (by cases b; exact absurd rfl h; rfl))
theorem zA_ifb_ne {b : Bool} {off : Int} {tgt : Nat} (hd : decode cc pc = .ok (.ifCond .ne off, 3)) (ht : (pc : Int) + off = (tgt : Int)) (kt : b = true → zA own cc nL R X T cs μ tgt ls st P) (kf : b = false → zA own cc nL R X T cs μ (pc + 3) ls st P) : zA own cc nL R X T cs μ pc ls (zI (zb b) :: st) P := zA_if_ne hd ht (fun h => kt (by cases b; exact absurd rfl h; rfl)) (fun h => kf (zb_0.mp h))
end ZWalk
section ZWalk2
variable {own : String} {cc : ByteArray} {nL : Nat} {R : Room} {X : zX} {cs : Nat} {μ : zM} {pc : Nat} {ls : List (Option zV)} {st st0 : List zV} {P : zP}
variable {index d n : Nat} {y : MethodName} {cy : ByteArray} {ny : Nat} {ret : Option FieldType} {as : List zV}
theorem zA_cVi {k ci n0 : Nat} {rs : List (Option Nat)} {q : vw_C} {Q : Int → zM → Prop} (hc : zCV own index y cy ny (some .int) n) (hk : znth TF k = some (ci, n0, rs)) (hq : zCl[ci]? = some q) (hqy : q.1 = y.cls) (hM : zMet d 0 y cy ny (some .int) TF μ (zR k :: as) (zPi Q)) (hs : st0 = as.reverse ++ zR k :: st) (hn : as.length = n) (hw : Nat.ble (zcat st) 8 = true) (hd : decode cc pc = .ok (.invokevirtual index, 3)) (hR : zFit R cs d 0 ny) (kk : ∀ (v : Int) (μ' : zM), Q v μ' → zA own cc nL R X TF cs μ' (pc + 3) ls (zI v :: st) P) : zA own cc nL R X TF cs μ pc ls st0 P := zA_callV hc hk hq hqy hM hs hn hw hd hR (fun r T' μ' h => by obtain ⟨rfl, v, rfl, hq⟩ := h; exact kk v μ' hq)
theorem zA_cSi {Q : Int → zM → Prop} (hc : zCS own index y cy ny (some .int) n) (hM : zMet d 0 y cy ny (some .int) TF μ as (zPi Q)) (hs : st0 = as.reverse ++ st) (hn : as.length = n) (hw : Nat.ble (zcat st) 8 = true) (hd : decode cc pc = .ok (.invokestatic index, 3)) (hR : zFit R cs d 0 ny) (kk : ∀ (v : Int) (μ' : zM), Q v μ' → zA own cc nL R X TF cs μ' (pc + 3) ls (zI v :: st) P) : zA own cc nL R X TF cs μ pc ls st0 P := zA_callS hc hM hs hn hw hd hR (fun r T' μ' h => by obtain ⟨rfl, v, rfl, hq⟩ := h; exact kk v μ' hq)
theorem zA_cNi {Q : Int → zM → Prop} (hc : zCSN own index y cy ny (some .int) n) (hM : zMet d 0 y cy ny (some .int) TF μ as (zPi Q)) (hs : st0 = as.reverse ++ st) (hn : as.length = n) (hw : Nat.ble (zcat st) 8 = true) (hd : decode cc pc = .ok (.invokestatic index, 3)) (hR : zFit R cs d 0 ny) (kk : ∀ (v : Int) (μ' : zM), Q v μ' → zA own cc nL R X TF cs μ' (pc + 3) ls (zI v :: st) P) : zA own cc nL R X TF cs μ pc ls st0 P := zA_callSN hc hM hs hn hw hd hR (fun r T' μ' h => by obtain ⟨rfl, v, rfl, hq⟩ := h; exact kk v μ' hq)
theorem zA_cVv {k ci n0 : Nat} {rs : List (Option Nat)} {q : vw_C} {Q : zM → Prop} (hc : zCV own index y cy ny none n) (hk : znth TF k = some (ci, n0, rs)) (hq : zCl[ci]? = some q) (hqy : q.1 = y.cls) (hM : zMet d 0 y cy ny none TF μ (zR k :: as) (zPv Q)) (hs : st0 = as.reverse ++ zR k :: st) (hn : as.length = n) (hw : Nat.ble (zcat st) 8 = true) (hd : decode cc pc = .ok (.invokevirtual index, 3)) (hR : zFit R cs d 0 ny) (kk : ∀ (μ' : zM), Q μ' → zA own cc nL R X TF cs μ' (pc + 3) ls st P) : zA own cc nL R X TF cs μ pc ls st0 P := zA_callV hc hk hq hqy hM hs hn hw hd hR (fun r T' μ' h => by obtain ⟨rfl, rfl, hq⟩ := h; exact kk μ' hq)
theorem zA_cSv {Q : zM → Prop} (hc : zCS own index y cy ny none n) (hM : zMet d 0 y cy ny none TF μ as (zPv Q)) (hs : st0 = as.reverse ++ st) (hn : as.length = n) (hw : Nat.ble (zcat st) 8 = true) (hd : decode cc pc = .ok (.invokestatic index, 3)) (hR : zFit R cs d 0 ny) (kk : ∀ (μ' : zM), Q μ' → zA own cc nL R X TF cs μ' (pc + 3) ls st P) : zA own cc nL R X TF cs μ pc ls st0 P := zA_callS hc hM hs hn hw hd hR (fun r T' μ' h => by obtain ⟨rfl, rfl, hq⟩ := h; exact kk μ' hq)
theorem zA_cNv {Q : zM → Prop} (hc : zCSN own index y cy ny none n) (hM : zMet d 0 y cy ny none TF μ as (zPv Q)) (hs : st0 = as.reverse ++ st) (hn : as.length = n) (hw : Nat.ble (zcat st) 8 = true) (hd : decode cc pc = .ok (.invokestatic index, 3)) (hR : zFit R cs d 0 ny) (kk : ∀ (μ' : zM), Q μ' → zA own cc nL R X TF cs μ' (pc + 3) ls st P) : zA own cc nL R X TF cs μ pc ls st0 P := zA_callSN hc hM hs hn hw hd hR (fun r T' μ' h => by obtain ⟨rfl, rfl, hq⟩ := h; exact kk μ' hq)
theorem zA_cVb {k ci n0 : Nat} {rs : List (Option Nat)} {q : vw_C} {Q : Bool → zM → Prop} (hc : zCV own index y cy ny (some .boolean) n) (hk : znth TF k = some (ci, n0, rs)) (hq : zCl[ci]? = some q) (hqy : q.1 = y.cls) (hM : zMet d 0 y cy ny (some .boolean) TF μ (zR k :: as) (zPb Q)) (hs : st0 = as.reverse ++ zR k :: st) (hn : as.length = n) (hw : Nat.ble (zcat st) 8 = true) (hd : decode cc pc = .ok (.invokevirtual index, 3)) (hR : zFit R cs d 0 ny) (kk : ∀ (b : Bool) (μ' : zM), Q b μ' → zA own cc nL R X TF cs μ' (pc + 3) ls (zI (zb b) :: st) P) : zA own cc nL R X TF cs μ pc ls st0 P := zA_callV hc hk hq hqy hM hs hn hw hd hR (fun r T' μ' h => by obtain ⟨rfl, b, rfl, hq⟩ := h; exact kk b μ' hq)
theorem zA_cSb {Q : Bool → zM → Prop} (hc : zCS own index y cy ny (some .boolean) n) (hM : zMet d 0 y cy ny (some .boolean) TF μ as (zPb Q)) (hs : st0 = as.reverse ++ st) (hn : as.length = n) (hw : Nat.ble (zcat st) 8 = true) (hd : decode cc pc = .ok (.invokestatic index, 3)) (hR : zFit R cs d 0 ny) (kk : ∀ (b : Bool) (μ' : zM), Q b μ' → zA own cc nL R X TF cs μ' (pc + 3) ls (zI (zb b) :: st) P) : zA own cc nL R X TF cs μ pc ls st0 P := zA_callS hc hM hs hn hw hd hR (fun r T' μ' h => by obtain ⟨rfl, b, rfl, hq⟩ := h; exact kk b μ' hq)
theorem zA_cNb {Q : Bool → zM → Prop} (hc : zCSN own index y cy ny (some .boolean) n) (hM : zMet d 0 y cy ny (some .boolean) TF μ as (zPb Q)) (hs : st0 = as.reverse ++ st) (hn : as.length = n) (hw : Nat.ble (zcat st) 8 = true) (hd : decode cc pc = .ok (.invokestatic index, 3)) (hR : zFit R cs d 0 ny) (kk : ∀ (b : Bool) (μ' : zM), Q b μ' → zA own cc nL R X TF cs μ' (pc + 3) ls (zI (zb b) :: st) P) : zA own cc nL R X TF cs μ pc ls st0 P := zA_callSN hc hM hs hn hw hd hR (fun r T' μ' h => by obtain ⟨rfl, b, rfl, hq⟩ := h; exact kk b μ' hq)
end ZWalk2
section ZWalk3
variable {own : String} {cc : ByteArray} {nL d : Nat} {X : zX} {μ : zM} {pc : Nat} {ls : List (Option zV)}
theorem zA_ri {v : Int} {Q : Int → zM → Prop} (hd : decode cc pc = .ok (.ireturn, 1)) (hq : Q v μ) : zA own cc nL (zRm d 0) X TF 0 μ pc ls [zI v] (zPi Q) := zA_iret hd (Nat.zero_le _) (Nat.zero_le _) ⟨rfl, v, rfl, hq⟩
theorem zA_rb {b : Bool} {v : Int} {Q : Bool → zM → Prop} (hd : decode cc pc = .ok (.ireturn, 1)) (hv : v = zb b) (hq : Q b μ) : zA own cc nL (zRm d 0) X TF 0 μ pc ls [zI v] (zPb Q) := zA_iret hd (Nat.zero_le _) (Nat.zero_le _) ⟨rfl, b, by rw [hv], hq⟩
theorem zA_rv {Q : zM → Prop} (hd : decode cc pc = .ok (.return_, 1)) (hq : Q μ) : zA own cc nL (zRm d 0) X TF 0 μ pc ls [] (zPv Q) := zA_vret hd (Nat.zero_le _) (Nat.zero_le _) ⟨rfl, rfl, hq⟩
end ZWalk3
