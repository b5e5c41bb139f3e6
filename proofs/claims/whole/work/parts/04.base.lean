/-! THE BASE: a state is its numbers and its rows; a method's contract as a reader (nothing changes) or a writer (one world becomes another) -/
abbrev XS : Type := (Nat → Int32) × (Nat → Nat → Int32)
def pS (S : XS) (j : Nat) (v : Int32) : XS := (upd S.1 j v, S.2)
def pA (S : XS) (j : Nat) (i : Int32) (v : Int32) : XS := (S.1, fun q => if q = j then upd (S.2 j) i.toNatClampNeg v else S.2 q)
def bI (b : Bool) : Int32 := match b with
  | true => 1
  | false => 0
theorem bI_nar (b : Bool) : narrow .boolean (.int (bI b)) = .int (bI b) := by cases b <;> rfl
theorem bI_vnar (b : Bool) : vp_nar .boolean (bI b) = bI b := by cases b <;> rfl
theorem bI_fit (b : Bool) : fits .boolean (.int (bI b)) = true := by cases b <;> rfl
def ob {α β : Type} (x : Option α) (f : α → Option β) : Option β := match x with
  | none => none
  | some v => f v
theorem ob_some {α β : Type} {x : Option α} {f : α → Option β} {u : β} (h : ob x f = some u) : ∃ v, x = some v ∧ f v = some u := by
  cases x with
  | none => cases h
  | some v => exact ⟨v, rfl, h⟩
def gd (i : Int32) (n : Nat) : Option Unit := if i < 0 ∨ n ≤ i.toNatClampNeg then none else some ()
theorem gd_in {i : Int32} {n : Nat} {u : Unit} (h : gd i n = some u) : vp_in i n := by
  intro hq
  rw [gd, if_pos hq] at h
  cases h
theorem in_cmp {i : Int32} (h1 : ¬ i < 0) (h2 : ¬ (4096 : Int32) ≤ i) : vp_in i 4096 := by
  obtain ⟨j, hj, rfl⟩ := nI_of h1
  refine vp_in_nI ?_ (by omega)
  rcases Nat.lt_or_ge j 4096 with q | q
  · exact q
  · exact absurd (nI_le (a := 4096) (b := j) q hj) h2
/-- the words that every contract here asks for: all good ones of the tables -/
def gtb : List Cond := lw_tbl.filter goodWord
theorem gm {w : Cond} (i : Nat) (h : tables_1[i]? = some w) (hg : goodWord w = true) : w ∈ gtb := List.mem_filter.mpr ⟨List.mem_append_right _ (List.mem_of_getElem? h), hg⟩
theorem gp {w : Cond} (i : Nat) (h : (k2_sels lw_privs)[i]? = some w) (hg : goodWord w = true) : w ∈ gtb := List.mem_filter.mpr ⟨List.mem_append_left _ (List.mem_of_getElem? h), hg⟩
def cw (y : MethodName) (bytes : ByteArray) (maxL : Nat) (ret : Option FieldType) : List Cond := .code y bytes maxL ret :: gtb
theorem tbl_word {w : Cond} (h : w ∈ gtb) : (w.onTables && w.keeps) = true ∨ ∃ ty, w = .arrayClass ty := good_of_word (List.mem_filter.mp h).2
abbrev Cx (p : Program) (s : State) (m : MethodId) (c : Code) (args : Array Value) (own : String) (cc : ByteArray) (nL : Nat) (D : va_G) (ty : List (ClassId × FieldType)) : Prop := CallFix p m c cc nL s args gtb own ∧ va_K D vwCl ty s
def rmm (f n : Nat) : Room := { frames := f, cells := 0, slots := 0, locals := n }
/-- what the tables say of a method that is called on an object / of a static one -/
def Mi (y : MethodName) (bytes : ByteArray) (maxL : Nat) (ret : Option FieldType) (n : Nat) : Prop := Cond.instanceMethod y ∈ gtb ∧ Cond.selects y.cls y y ∈ gtb ∧ Cond.initialized y.cls ∈ gtb ∧ Cond.code y bytes maxL ret ∈ gtb ∧ (y.cls ≠ "java/lang/invoke/MethodHandle" ∧ y.cls ≠ "java/lang/invoke/VarHandle") ∧ (parseMethodDescriptor y.desc).map (fun d => d.parameters.length) = some n
def Ms (y : MethodName) (bytes : ByteArray) (maxL : Nat) (ret : Option FieldType) (n : Nat) : Prop := Cond.static y ∈ gtb ∧ Cond.initialized y.cls ∈ gtb ∧ Cond.code y bytes maxL ret ∈ gtb ∧ (y.cls ≠ "java/lang/invoke/MethodHandle" ∧ y.cls ≠ "java/lang/invoke/VarHandle") ∧ (parseMethodDescriptor y.desc).map (fun d => d.parameters.length) = some n
/-- what else holds of the cells that no method changes -/
abbrev Ety : Type := (Nat → Prop) → State → Heap → Prop
def Est (E : Ety) : Prop := (∀ (A B : Nat → Prop) (U : State) (H : Heap), (∀ q, B q → A q) → E A U H → E B U H) ∧ (∀ (A : Nat → Prop) (U : State) (H H1 : Heap), (∀ q : Nat, q < H.size → ¬ A q → H1[q]? = H[q]?) → E A U H → E A U H1) ∧ (∀ (A : Nat → Prop) (s U : State) (H : Heap), s.WarmedH U.vm → E A s H → E A U H) ∧ (∀ (A : Nat → Prop) (u U : State) (H : Heap), U.vm = u.vm → E A u H → E A U H)
def noE : Ety := fun _ _ _ => True
theorem noE_est : Est noE := ⟨fun _ _ _ _ _ _ => trivial, fun _ _ _ _ _ _ => trivial, fun _ _ _ _ _ _ => trivial, fun _ _ _ _ _ _ => trivial⟩
theorem ef {E : Ety} {A : Nat → Prop} {s : State} {H : Heap} {locs : List Loc} (hE : Est E) (hS : va_S A s.heap H locs) (h : E A s s.heap) : E (fun _ => False) s H := hE.1 _ _ _ _ (fun _ z => z.elim) (hE.2.1 _ _ _ _ hS.2.1 h)
def Rd (E : Ety) (l : Launch) (D : va_G) (ty : List (ClassId × FieldType)) (w : va_W) (y : MethodName) (bytes : ByteArray) (maxL : Nat) (ret : Option FieldType) (rm : Room) (As : List Value) (r : Int32) : Prop :=
  Met l y (cw y bytes maxL ret) rm (va_Pc As (fun U => va_P D vwCl w U.heap ∧ va_K D vwCl ty U ∧ E (fun _ => False) U U.heap)) (QcRead r) 0 0 (fun _ => False)
def Qw (D : va_G) (w' : va_W) (o : Option Value) (A : Nat → Prop) : Array Value → State → Outcome → State → Prop := fun _ st oc t => oc = .returned o ∧ va_P D vwCl w' t.heap ∧ va_F A st t
def Wr (E : Ety) (l : Launch) (D : va_G) (ty : List (ClassId × FieldType)) (w w' : va_W) (y : MethodName) (bytes : ByteArray) (maxL : Nat) (ret : Option FieldType) (rm : Room) (As : List Value) (o : Option Value) : Prop :=
  ∀ sz : Nat, Met l y (cw y bytes maxL ret) rm (va_Pc As (fun U => U.heap.size = sz ∧ va_P D vwCl w U.heap ∧ va_K D vwCl ty U ∧ va_D (fun _ => True) w ∧ E (va_A w sz) U U.heap)) (Qw D w' o (va_A w sz)) 0 0 (va_A w sz)
theorem rd_start {E : Ety} {l : Launch} {D : va_G} {ty : List (ClassId × FieldType)} {w : va_W} {y : MethodName} {bytes : ByteArray} {maxL : Nat} {ret : Option FieldType} {rm : Room} {As : List Value} {r : Int32} (hy : plainName y.cls = true) (hlen : (lg_sl As).length ≤ maxL)
    (body : ∀ (p : Program) (e : Env) (s : State) (m : MethodId) (below : List Frame) (meth : Method) (c : Code), Cx p s m c As.toArray y.cls bytes maxL D ty → meth.sig.returnType = ret → meth.locks = false → va_P D vwCl w s.heap → E (fun _ => False) s s.heap → ∀ ls : Array Slot, lv_has ls maxL (lv_args 0 As) →
      W p l e rm s m As.toArray below meth c s.heap [] 0 0 (MQ below (QcRead r) As.toArray s 0 0 (fun _ => False)) (F0 m 0 ls [])) : Rd E l D ty w y bytes maxL ret rm As r := by
  refine Met.ofW (cc := bytes) (maxL := maxL) (ret := ret) hy rfl ?_
  intro p e s m args below meth c s₁ B hml hv
  obtain ⟨rfl, hP, hK, hE⟩ := hv
  have hts := atoms_spec (ws := cw y bytes maxL ret) B.pre
  rw [lg_entry_eq]
  exact body p e s m below meth c ⟨⟨B.exec, B.bytes, hml, findClass_of_methodNamed B.named, fun w h => hts w (List.mem_cons_of_mem _ h)⟩, hK⟩ B.returns B.notSynchronized hP hE _ (lv_entry As hlen)
theorem wr_start {E : Ety} {l : Launch} {D : va_G} {ty : List (ClassId × FieldType)} {w w' : va_W} {y : MethodName} {bytes : ByteArray} {maxL : Nat} {ret : Option FieldType} {rm : Room} {As : List Value} {o : Option Value} (hy : plainName y.cls = true) (hlen : (lg_sl As).length ≤ maxL)
    (body : ∀ (p : Program) (e : Env) (s : State) (m : MethodId) (below : List Frame) (meth : Method) (c : Code) (A : Nat → Prop), Cx p s m c As.toArray y.cls bytes maxL D ty → meth.sig.returnType = ret → meth.locks = false → va_P D vwCl w s.heap → va_D A w → (∀ q, s.heap.size ≤ q → A q) → E A s s.heap → ∀ ls : Array Slot, lv_has ls maxL (lv_args 0 As) →
      W p l e rm s m As.toArray below meth c s.heap [] 0 0 (MQ below (Qw D w' o A) As.toArray s 0 0 A) (F0 m 0 ls [])) : Wr E l D ty w w' y bytes maxL ret rm As o := by
  intro sz
  refine Met.ofW (cc := bytes) (maxL := maxL) (ret := ret) hy rfl ?_
  intro p e s m args below meth c s₁ B hml hv
  obtain ⟨rfl, hsz, hP, hK, hD0, hE⟩ := hv
  subst hsz
  have hts := atoms_spec (ws := cw y bytes maxL ret) B.pre
  rw [lg_entry_eq]
  exact body p e s m below meth c (va_A w s.heap.size) ⟨⟨B.exec, B.bytes, hml, findClass_of_methodNamed B.named, fun w h => hts w (List.mem_cons_of_mem _ h)⟩, hK⟩ B.returns B.notSynchronized hP hD0.self (fun q h => Or.inr h) hE _ (lv_entry As hlen)
section CALLS
variable {p : Program} {l : Launch} {e : Env} {R : Room} {s : State} {m : MethodId} {args : Array Value} {below : List Frame} {meth : Method} {c : Code} {H : Heap} {locs : List Loc} {cells slots : Nat} {Q : State → Prop}
variable {E : Ety} {D : va_G} {ty : List (ClassId × FieldType)} {w w' : va_W} {y : MethodName} {bytes cc : ByteArray} {maxL nL n idx pc b : Nat} {ret : Option FieldType} {rm : Room} {As rest st0 : List Value} {r : Int32} {o : Option Value} {own : String} {ls : Array Slot} {A : Nat → Prop}
theorem cbM (hts : ∀ w ∈ gtb, w.before args s = true) (hc : Cond.code y bytes maxL ret ∈ gtb) (hi : Cond.initialized y.cls ∈ gtb) (hd : y.cls ≠ "java/lang/invoke/MethodHandle" ∧ y.cls ≠ "java/lang/invoke/VarHandle") (hn : (parseMethodDescriptor y.desc).map (fun d => d.parameters.length) = some n) (hl : Cond.methodLink own idx y ∈ gtb) (hR : rm.cells = 0 ∧ rm.slots = 0 ∧ rm.frames + 1 ≤ R.frames ∧ 8 + (maxL + 11) + rm.locals ≤ R.locals) : CallB R s args own idx y bytes maxL ret (cw y bytes maxL ret) rm 0 0 n := by
  refine ⟨hR.1, hR.2.1, hR.2.2.1, hR.2.2.2, fun w hw a' U hW => ?_, List.mem_cons_self, hts _ hc, hts _ hi, hd, fun sig h => ?_, hts _ hl⟩
  · rcases List.mem_cons.mp hw with rfl | hw
    · exact word_at hW (tbl_word hc) (hts _ hc)
    · exact word_at hW (tbl_word hw) (hts _ hw)
  · rw [h] at hn
    exact (Option.some.inj hn).symm
theorem cwM (hts : ∀ w ∈ gtb, w.before args s = true) (hy : Mi y bytes maxL ret n) (hl : Cond.methodLink own idx y ∈ gtb) (hR : rm.cells = 0 ∧ rm.slots = 0 ∧ rm.frames + 1 ≤ R.frames ∧ 8 + (maxL + 11) + rm.locals ≤ R.locals) : CallW R s args own y.cls idx y bytes maxL ret (cw y bytes maxL ret) rm 0 0 n :=
  ⟨cbM hts hy.2.2.2.1 hy.2.2.1 hy.2.2.2.2.1 hy.2.2.2.2.2 hl hR, hts _ hy.1, hts _ hy.2.1⟩
theorem csM (hts : ∀ w ∈ gtb, w.before args s = true) (hy : Ms y bytes maxL ret n) (hl : Cond.methodLink own idx y ∈ gtb) (hR : rm.cells = 0 ∧ rm.slots = 0 ∧ rm.frames + 1 ≤ R.frames ∧ 8 + (maxL + 11) + rm.locals ≤ R.locals) : CallB R s args own idx y bytes maxL ret (cw y bytes maxL ret) rm 0 0 n ∧ (Cond.static y).before args s = true :=
  ⟨cbM hts hy.2.2.1 hy.2.1 hy.2.2.2.1 hy.2.2.2.2 hl hR, hts _ hy.1⟩
theorem rd_blind (hE : Est E) : FrameBlind (va_Pc As (fun U => va_P D vwCl w U.heap ∧ va_K D vwCl ty U ∧ E (fun _ => False) U U.heap)) := fun a U g mk q => ⟨q.1, q.2.1, va_K.moved (u := U) (U := U.calling g mk a) (Vm.Alike.refl U.vm) q.2.2.1, hE.2.2.2 _ U (U.calling g mk a) _ rfl q.2.2.2⟩
theorem wr_blind (hE : Est E) {sz : Nat} : FrameBlind (va_Pc As (fun U => U.heap.size = sz ∧ va_P D vwCl w U.heap ∧ va_K D vwCl ty U ∧ va_D (fun _ => True) w ∧ E (va_A w sz) U U.heap)) := fun a U g mk q => ⟨q.1, q.2.1, q.2.2.1, va_K.moved (u := U) (U := U.calling g mk a) (Vm.Alike.refl U.vm) q.2.2.2.1, q.2.2.2.2.1, hE.2.2.2 _ U (U.calling g mk a) _ rfl q.2.2.2.2.2⟩
/-- a reader is called on an object -/
theorem rdV (hE : Est E) (C : Cx p s m c args own cc nL D ty) (hP : va_P D vwCl w H) (hEs : E (fun _ => False) s H) (hM : Rd E l D ty w y bytes maxL ret rm (.ref b :: As) r) (hy : Mi y bytes maxL ret n) (hl : Cond.methodLink own idx y ∈ gtb) (hrc : ∃ cellB : Cell, H[b]? = some cellB ∧ cellB.vm.isStatics = false ∧ s.vm.findClass y.cls = some cellB.cls) (hn : As.length = n) (hsize : ls.size = nL) (hstack : st0 = As.reverse ++ .ref b :: rest) (hW : (rest.map fun v => v.category).sum ≤ 8) (hR : rm.cells = 0 ∧ rm.slots = 0 ∧ rm.frames + 1 ≤ R.frames ∧ 8 + (maxL + 11) + rm.locals ≤ R.locals) (hf : cells ≤ R.cells ∧ slots ≤ R.slots) (hdg : decode cc pc = .ok (.invokevirtual idx, 3))
    (kk : W p l e R s m args below meth c H locs cells slots Q (F0 m (pc + 3) ls (.int r :: rest))) : W p l e R s m args below meth c H locs cells slots Q (F0 m pc ls st0) :=
  W.callR (W.runV (As := As) (rest := rest) C.1 hM (cwM C.1.2.2.2.2 hy hl hR) ⟨rd_blind hE, hrc, fun U hU hWu => ⟨rfl, by rw [hU]; exact hP, va_K.moved hWu.alike C.2, by rw [hU]; exact hE.2.2.1 _ _ _ _ hWu hEs⟩⟩ rfl hn hsize hstack (lv_room (m := m) (pc := pc) (ls := ls) (rest := st0) hW) hdg hf) kk
/-- a static reader -/
theorem rdS (hE : Est E) (C : Cx p s m c args own cc nL D ty) (hP : va_P D vwCl w H) (hEs : E (fun _ => False) s H) (hM : Rd E l D ty w y bytes maxL ret rm As r) (hy : Ms y bytes maxL ret n) (hl : Cond.methodLink own idx y ∈ gtb) (hn : As.length = n) (hsize : ls.size = nL) (hstack : st0 = As.reverse ++ rest) (hW : (rest.map fun v => v.category).sum ≤ 8) (hR : rm.cells = 0 ∧ rm.slots = 0 ∧ rm.frames + 1 ≤ R.frames ∧ 8 + (maxL + 11) + rm.locals ≤ R.locals) (hf : cells ≤ R.cells ∧ slots ≤ R.slots) (hdg : decode cc pc = .ok (.invokestatic idx, 3))
    (kk : W p l e R s m args below meth c H locs cells slots Q (F0 m (pc + 3) ls (.int r :: rest))) : W p l e R s m args below meth c H locs cells slots Q (F0 m pc ls st0) :=
  W.callR (W.runS (As := As) (rest := rest) C.1 hM (csM C.1.2.2.2.2 hy hl hR) ⟨rd_blind hE, fun U hU hWu => ⟨rfl, by rw [hU]; exact hP, va_K.moved hWu.alike C.2, by rw [hU]; exact hE.2.2.1 _ _ _ _ hWu hEs⟩⟩ rfl hn hsize hstack (lv_room (m := m) (pc := pc) (ls := ls) (rest := st0) hW) hdg hf) kk
/-- a writer is called on an object; what isn't its own stays -/
theorem wrV (hE : Est E) (C : Cx p s m c args own cc nL D ty) (hP : va_P D vwCl w H) (hD : va_D A w) (hA : ∀ q, s.heap.size ≤ q → A q) (hS : va_S A s.heap H locs) (hEs : E A s s.heap) (hM : Wr E l D ty w w' y bytes maxL ret rm (.ref b :: As) o) (hy : Mi y bytes maxL ret n) (hl : Cond.methodLink own idx y ∈ gtb) (hrc : ∃ cellB : Cell, H[b]? = some cellB ∧ cellB.vm.isStatics = false ∧ s.vm.findClass y.cls = some cellB.cls) (hn : As.length = n) (hsize : ls.size = nL) (hstack : st0 = As.reverse ++ .ref b :: rest) (hW : (rest.map fun v => v.category).sum ≤ 8) (hR : rm.cells = 0 ∧ rm.slots = 0 ∧ rm.frames + 1 ≤ R.frames ∧ 8 + (maxL + 11) + rm.locals ≤ R.locals) (hf : cells ≤ R.cells ∧ slots ≤ R.slots) (hdg : decode cc pc = .ok (.invokevirtual idx, 3))
    (kk : ∀ (H1 : Heap) (locs1 : List Loc), va_P D vwCl w' H1 → va_S A s.heap H1 locs1 → H.size ≤ H1.size → (∀ q : Nat, q < H.size → ¬ va_A w H.size q → H1[q]? = H[q]?) → W p l e R s m args below meth c H1 locs1 cells slots Q (F0 m (pc + 3) ls (o.toList ++ rest))) : W p l e R s m args below meth c H locs cells slots Q (F0 m pc ls st0) := by
  have hF : ∀ q, va_A w H.size q → A q := fun q h => h.elim (fun ⟨k, e, h⟩ => hD.2 k (q, e) h) (fun h => hA q (Nat.le_trans hS.1 h))
  have hr := W.runV (p := p) (l := l) (e := e) (R := R) (below := below) (meth := meth) (locs := locs) (cells := cells) (slots := slots) (As := As) (rest := rest) (g := F0 m pc ls st0) C.1 (hM H.size) (cwM C.1.2.2.2.2 hy hl hR) ⟨wr_blind hE, hrc, fun U hU hWu => ⟨rfl, by rw [hU], by rw [hU]; exact hP, va_K.moved hWu.alike C.2, hD.weaken (fun _ _ _ _ => trivial), by rw [hU]; exact hE.2.2.1 _ _ _ _ hWu (hE.1 _ _ _ _ hF (hE.2.1 _ _ _ _ hS.2.1 hEs))⟩⟩ rfl hn hsize hstack (lv_room (m := m) (pc := pc) (ls := ls) (rest := st0) hW) hdg hf
  intro T hT X
  obtain ⟨v, st₀, t, T', L, h0, X', hL, e1, ⟨hv, hp, hz, hk⟩, st⟩ := hr T hT X
  cases hv
  rw [h0] at hz hk
  obtain ⟨t2, a1, b1⟩ := kk T'.heap (locs ++ L) (by rw [e1]; exact hp) ⟨Nat.le_trans hS.1 (by rw [e1]; exact hz), fun q h1 h2 => by rw [e1, hk q (Nat.lt_of_lt_of_le h1 hS.1) (fun z => h2 (hF q z))]; exact hS.2.1 q h1 h2, fun q hq => by
      rcases List.mem_append.mp hq with h | h
      · exact hS.2.2 q h
      · exact hF _ (hL q h)⟩ (by rw [e1]; exact hz) (fun q h1 h2 => by rw [e1]; exact hk q h1 h2) T' rfl X'
  exact ⟨t2, st t2 a1, b1⟩
/-- returns -/
theorem rd_iret (C : Cx p s m c args own cc nL D ty) (hr : meth.sig.returnType = some .int) (hlocks : meth.locks = false) (hdg : decode cc pc = .ok (.ireturn, 1)) : W p l e R s m args below meth c s.heap [] 0 0 (MQ below (QcRead r) args s 0 0 (fun _ => False)) (F0 m pc ls [.int r]) :=
  W.iret C.1.1 C.1.2.1 hr (fun _ ht _ => ⟨rfl, ht⟩) (fun _ h => by cases h) hdg hlocks
theorem rd_zret {v : Bool} (C : Cx p s m c args own cc nL D ty) (hr : meth.sig.returnType = some .boolean) (hlocks : meth.locks = false) (hdg : decode cc pc = .ok (.ireturn, 1)) : W p l e R s m args below meth c s.heap [] 0 0 (MQ below (QcRead (bI v)) args s 0 0 (fun _ => False)) (F0 m pc ls [.int (bI v)]) :=
  W.zret C.1.1 C.1.2.1 hr (bI_nar v) (fun _ ht _ => ⟨rfl, ht⟩) (fun _ h => by cases h) hdg hlocks
theorem wr_iret (C : Cx p s m c args own cc nL D ty) (hr : meth.sig.returnType = some .int) (hlocks : meth.locks = false) (hP : va_P D vwCl w' H) (hS : va_S A s.heap H locs) (hdg : decode cc pc = .ok (.ireturn, 1)) : W p l e R s m args below meth c H locs 0 0 (MQ below (Qw D w' (some (.int r)) A) args s 0 0 A) (F0 m pc ls [.int r]) :=
  W.iret C.1.1 C.1.2.1 hr (fun _ ht _ => ⟨rfl, by rw [ht]; exact hP, hS.F ht⟩) hS.2.2 hdg hlocks
theorem wr_zret {v : Bool} (C : Cx p s m c args own cc nL D ty) (hr : meth.sig.returnType = some .boolean) (hlocks : meth.locks = false) (hP : va_P D vwCl w' H) (hS : va_S A s.heap H locs) (hdg : decode cc pc = .ok (.ireturn, 1)) : W p l e R s m args below meth c H locs 0 0 (MQ below (Qw D w' (some (.int (bI v))) A) args s 0 0 A) (F0 m pc ls [.int (bI v)]) :=
  W.zret C.1.1 C.1.2.1 hr (bI_nar v) (fun _ ht _ => ⟨rfl, by rw [ht]; exact hP, hS.F ht⟩) hS.2.2 hdg hlocks
theorem wr_vret (C : Cx p s m c args own cc nL D ty) (hr : meth.sig.returnType = none) (hlocks : meth.locks = false) (hP : va_P D vwCl w' H) (hS : va_S A s.heap H locs) (hdg : decode cc pc = .ok (.return_, 1)) : W p l e R s m args below meth c H locs 0 0 (MQ below (Qw D w' none A) args s 0 0 A) (F0 m pc ls []) :=
  W.vret C.1.1 C.1.2.1 hr (fun _ ht _ => ⟨rfl, by rw [ht]; exact hP, hS.F ht⟩) hS.2.2 hdg hlocks
end CALLS
