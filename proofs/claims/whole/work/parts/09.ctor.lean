/-! CONSTRUCTORS: a contract that makes cells; the new addresses come with it -/
def Qi (D : va_G) (post : (Nat → Nat) → va_W) (A : Nat → Prop) : Array Value → State → Outcome → State → Prop := fun _ st oc t => oc = .returned none ∧ (∃ q : Nat → Nat, va_P D vwCl (post q) t.heap ∧ va_D A (post q)) ∧ va_F A st t
def Ic (N : State → Prop) (l : Launch) (D : va_G) (ty : List (ClassId × FieldType)) (w : va_W) (post : (Nat → Nat) → va_W) (y : MethodName) (bytes : ByteArray) (maxL : Nat) (rm : Room) (As : List Value) (mc ms : Nat) : Prop :=
  ∀ sz : Nat, Met l y (cw y bytes maxL none) rm (va_Pc As (fun U => U.heap.size = sz ∧ va_P D vwCl w U.heap ∧ va_K D vwCl ty U ∧ va_D (fun _ => True) w ∧ N U)) (Qi D post (va_A w sz)) mc ms (va_A w sz)
theorem ic_start {N : State → Prop} {l : Launch} {D : va_G} {ty : List (ClassId × FieldType)} {w : va_W} {post : (Nat → Nat) → va_W} {y : MethodName} {bytes : ByteArray} {maxL mc ms : Nat} {rm : Room} {As : List Value} (hy : plainName y.cls = true) (hlen : (lg_sl As).length ≤ maxL) (hnm : y.name = "<init>")
    (body : ∀ (p : Program) (e : Env) (s : State) (m : MethodId) (below : List Frame) (meth : Method) (c : Code) (A : Nat → Prop), Cx p s m c As.toArray y.cls bytes maxL D ty → meth.sig.returnType = none → meth.locks = false → meth.name = "<init>" → va_P D vwCl w s.heap → va_D A w → (∀ q, s.heap.size ≤ q → A q) → N s → ∀ ls : Array Slot, lv_has ls maxL (lv_args 0 As) →
      W p l e rm s m As.toArray below meth c s.heap [] 0 0 (MQ below (Qi D post A) As.toArray s mc ms A) (F0 m 0 ls [])) : Ic N l D ty w post y bytes maxL rm As mc ms := by
  intro sz
  refine Met.ofW (cc := bytes) (maxL := maxL) (ret := none) hy rfl ?_
  intro p e s m args below meth c s₁ B hml hv
  obtain ⟨rfl, hsz, hP, hK, hD0, hN⟩ := hv
  subst hsz
  have hts := atoms_spec (ws := cw y bytes maxL none) B.pre
  rw [lg_entry_eq]
  exact body p e s m below meth c (va_A w s.heap.size) ⟨⟨B.exec, B.bytes, hml, findClass_of_methodNamed B.named, fun w h => hts w (List.mem_cons_of_mem _ h)⟩, hK⟩ B.returns B.notSynchronized ((name_of_methodNamed B.named B.method).1.trans hnm) hP hD0.self (fun q h => Or.inr h) hN _ (lv_entry As hlen)
def Mc (y : MethodName) (bytes : ByteArray) (maxL : Nat) (n : Nat) : Prop := y.name = "<init>" ∧ Cond.instanceMethod y ∈ gtb ∧ Cond.initialized y.cls ∈ gtb ∧ Cond.code y bytes maxL none ∈ gtb ∧ (y.cls ≠ "java/lang/invoke/MethodHandle" ∧ y.cls ≠ "java/lang/invoke/VarHandle") ∧ (parseMethodDescriptor y.desc).map (fun d => d.parameters.length) = some n
theorem oi_im : Cond.instanceMethod objectInit ∈ gtb := gm 22 (by decide +kernel) (by decide +kernel)
theorem oi_cd : Cond.code objectInit ⟨#[0xb1]⟩ 1 none ∈ gtb := gm 23 (by decide +kernel) (by decide +kernel)
theorem ini_L : Cond.initialized RL ∈ gtb := gm 0 (by decide +kernel) (by decide +kernel)
theorem ini_X7 : Cond.initialized RX7 ∈ gtb := gm 1 (by decide +kernel) (by decide +kernel)
theorem ini_J9 : Cond.initialized RJ9 ∈ gtb := gm 2 (by decide +kernel) (by decide +kernel)
theorem ini_X2 : Cond.initialized RX2 ∈ gtb := gm 3 (by decide +kernel) (by decide +kernel)
theorem ini_X0 : Cond.initialized RX0 ∈ gtb := gm 4 (by decide +kernel) (by decide +kernel)
theorem ini_X6 : Cond.initialized RX6 ∈ gtb := gm 5 (by decide +kernel) (by decide +kernel)
theorem ini_X3 : Cond.initialized RX3 ∈ gtb := gm 6 (by decide +kernel) (by decide +kernel)
theorem ini_X5 : Cond.initialized RX5 ∈ gtb := gm 7 (by decide +kernel) (by decide +kernel)
theorem ini_X4 : Cond.initialized RX4 ∈ gtb := gm 8 (by decide +kernel) (by decide +kernel)
theorem ini_X1 : Cond.initialized RX1 ∈ gtb := gm 9 (by decide +kernel) (by decide +kernel)
theorem ini_X8 : Cond.initialized RX8 ∈ gtb := gm 10 (by decide +kernel) (by decide +kernel)
theorem ini_J0 : Cond.initialized RJ0 ∈ gtb := gm 11 (by decide +kernel) (by decide +kernel)
theorem ini_J1 : Cond.initialized RJ1 ∈ gtb := gm 12 (by decide +kernel) (by decide +kernel)
theorem ini_J3 : Cond.initialized RJ3 ∈ gtb := gm 13 (by decide +kernel) (by decide +kernel)
theorem ini_J2 : Cond.initialized RJ2 ∈ gtb := gm 14 (by decide +kernel) (by decide +kernel)
theorem ini_J6 : Cond.initialized RJ6 ∈ gtb := gm 15 (by decide +kernel) (by decide +kernel)
theorem cl_L_7 : Cond.classLink RL 7 RX7 ∈ gtb := gm 16 (by decide +kernel) (by decide +kernel)
theorem in_X7 : Cond.instantiable RX7 11 ∈ gtb := gm 17 (by decide +kernel) (by decide +kernel)
theorem mo_X7_1 : Cond.methodLink RX7 1 objectInit ∈ gtb := gm 21 (by decide +kernel) (by decide +kernel)
theorem cl_X7_16 : Cond.classLink RX7 16 RX2 ∈ gtb := gm 30 (by decide +kernel) (by decide +kernel)
theorem in_X2 : Cond.instantiable RX2 1 ∈ gtb := gm 31 (by decide +kernel) (by decide +kernel)
theorem mo_X2_3 : Cond.methodLink RX2 3 objectInit ∈ gtb := gm 35 (by decide +kernel) (by decide +kernel)
theorem ar_byte : Cond.arrayClass .byte ∈ gtb := gm 40 (by decide +kernel) (by decide +kernel)
theorem cl_X7_29 : Cond.classLink RX7 29 RX0 ∈ gtb := gm 41 (by decide +kernel) (by decide +kernel)
theorem in_X0 : Cond.instantiable RX0 7 ∈ gtb := gm 42 (by decide +kernel) (by decide +kernel)
theorem mo_X0_3 : Cond.methodLink RX0 3 objectInit ∈ gtb := gm 46 (by decide +kernel) (by decide +kernel)
theorem cl_X7_38 : Cond.classLink RX7 38 RX6 ∈ gtb := gm 69 (by decide +kernel) (by decide +kernel)
theorem in_X6 : Cond.instantiable RX6 3 ∈ gtb := gm 70 (by decide +kernel) (by decide +kernel)
theorem mo_X6_3 : Cond.methodLink RX6 3 objectInit ∈ gtb := gm 74 (by decide +kernel) (by decide +kernel)
theorem ar_int : Cond.arrayClass .int ∈ gtb := gm 85 (by decide +kernel) (by decide +kernel)
theorem ar_boolean : Cond.arrayClass .boolean ∈ gtb := gm 86 (by decide +kernel) (by decide +kernel)
theorem cl_X7_47 : Cond.classLink RX7 47 RX3 ∈ gtb := gm 87 (by decide +kernel) (by decide +kernel)
theorem in_X3 : Cond.instantiable RX3 6 ∈ gtb := gm 88 (by decide +kernel) (by decide +kernel)
theorem mo_X3_3 : Cond.methodLink RX3 3 objectInit ∈ gtb := gm 92 (by decide +kernel) (by decide +kernel)
theorem cl_X7_56 : Cond.classLink RX7 56 RX5 ∈ gtb := gm 112 (by decide +kernel) (by decide +kernel)
theorem in_X5 : Cond.instantiable RX5 10 ∈ gtb := gm 113 (by decide +kernel) (by decide +kernel)
theorem mo_X5_3 : Cond.methodLink RX5 3 objectInit ∈ gtb := gm 117 (by decide +kernel) (by decide +kernel)
theorem cl_X5_19 : Cond.classLink RX5 19 RX4 ∈ gtb := gm 118 (by decide +kernel) (by decide +kernel)
theorem in_X4 : Cond.instantiable RX4 5 ∈ gtb := gm 119 (by decide +kernel) (by decide +kernel)
theorem mo_X4_1 : Cond.methodLink RX4 1 objectInit ∈ gtb := gm 123 (by decide +kernel) (by decide +kernel)
theorem cl_X7_65 : Cond.classLink RX7 65 RX1 ∈ gtb := gm 171 (by decide +kernel) (by decide +kernel)
theorem in_X1 : Cond.instantiable RX1 2 ∈ gtb := gm 172 (by decide +kernel) (by decide +kernel)
theorem mo_X1_3 : Cond.methodLink RX1 3 objectInit ∈ gtb := gm 176 (by decide +kernel) (by decide +kernel)
theorem cl_L_18 : Cond.classLink RL 18 RX8 ∈ gtb := gm 610 (by decide +kernel) (by decide +kernel)
theorem in_X8 : Cond.instantiable RX8 26 ∈ gtb := gm 611 (by decide +kernel) (by decide +kernel)
theorem mo_X8_1 : Cond.methodLink RX8 1 objectInit ∈ gtb := gm 615 (by decide +kernel) (by decide +kernel)
theorem mc_X0_init : Mc yX0_init cX0_init 4 3 := ⟨by decide +kernel, gm 44 (by decide +kernel) (by decide +kernel), gm 4 (by decide +kernel) (by decide +kernel), gm 45 (by decide +kernel) (by decide +kernel), ⟨by decide +kernel, by decide +kernel⟩, by decide +kernel⟩
theorem mc_X1_init : Mc yX1_init cX1_init 3 2 := ⟨by decide +kernel, gm 174 (by decide +kernel) (by decide +kernel), gm 9 (by decide +kernel) (by decide +kernel), gm 175 (by decide +kernel) (by decide +kernel), ⟨by decide +kernel, by decide +kernel⟩, by decide +kernel⟩
theorem mc_X2_init : Mc yX2_init cX2_init 1 0 := ⟨by decide +kernel, gm 33 (by decide +kernel) (by decide +kernel), gm 3 (by decide +kernel) (by decide +kernel), gm 34 (by decide +kernel) (by decide +kernel), ⟨by decide +kernel, by decide +kernel⟩, by decide +kernel⟩
theorem mc_X3_init : Mc yX3_init cX3_init 3 2 := ⟨by decide +kernel, gm 90 (by decide +kernel) (by decide +kernel), gm 6 (by decide +kernel) (by decide +kernel), gm 91 (by decide +kernel) (by decide +kernel), ⟨by decide +kernel, by decide +kernel⟩, by decide +kernel⟩
theorem mc_X4_init : Mc yX4_init cX4_init 2 1 := ⟨by decide +kernel, gm 121 (by decide +kernel) (by decide +kernel), gm 8 (by decide +kernel) (by decide +kernel), gm 122 (by decide +kernel) (by decide +kernel), ⟨by decide +kernel, by decide +kernel⟩, by decide +kernel⟩
theorem mc_X5_init : Mc yX5_init cX5_init 3 2 := ⟨by decide +kernel, gm 115 (by decide +kernel) (by decide +kernel), gm 7 (by decide +kernel) (by decide +kernel), gm 116 (by decide +kernel) (by decide +kernel), ⟨by decide +kernel, by decide +kernel⟩, by decide +kernel⟩
theorem mc_X6_init : Mc yX6_init cX6_init 2 1 := ⟨by decide +kernel, gm 72 (by decide +kernel) (by decide +kernel), gm 5 (by decide +kernel) (by decide +kernel), gm 73 (by decide +kernel) (by decide +kernel), ⟨by decide +kernel, by decide +kernel⟩, by decide +kernel⟩
theorem mc_X7_init : Mc yX7_init cX7_init 4 1 := ⟨by decide +kernel, gm 19 (by decide +kernel) (by decide +kernel), gm 1 (by decide +kernel) (by decide +kernel), gm 20 (by decide +kernel) (by decide +kernel), ⟨by decide +kernel, by decide +kernel⟩, by decide +kernel⟩
theorem mc_X8_init : Mc yX8_init cX8_init 2 1 := ⟨by decide +kernel, gm 613 (by decide +kernel) (by decide +kernel), gm 10 (by decide +kernel) (by decide +kernel), gm 614 (by decide +kernel) (by decide +kernel), ⟨by decide +kernel, by decide +kernel⟩, by decide +kernel⟩
section CT
variable {p : Program} {l : Launch} {e : Env} {R : Room} {s : State} {m : MethodId} {args : Array Value} {below : List Frame} {meth : Method} {c : Code} {H : Heap} {locs : List Loc} {cells slots : Nat} {Q : State → Prop}
variable {N : State → Prop} {D : va_G} {ty : List (ClassId × FieldType)} {ws wc wr : va_W} {post : (Nat → Nat) → va_W} {y : MethodName} {bytes cc : ByteArray} {maxL nL n idx pc b mc ms : Nat} {rm : Room} {As rest st0 : List Value} {own host : String} {ls : Array Slot} {A : Nat → Prop}
theorem ic_vret {q : Nat → Nat} (C : Cx p s m c args own cc nL D ty) (hr : meth.sig.returnType = none) (hlocks : meth.locks = false) (hP : va_P D vwCl (post q) H) (hD : va_D A (post q)) (hS : va_S A s.heap H locs) (hdg : decode cc pc = .ok (.return_, 1)) : W p l e R s m args below meth c H locs mc ms (MQ below (Qi D post A) args s mc ms A) (F0 m pc ls []) :=
  W.vret C.1.1 C.1.2.1 hr (fun _ ht _ => ⟨rfl, ⟨q, by rw [ht]; exact hP, hD⟩, hS.F ht⟩) hS.2.2 hdg hlocks
theorem ic_blind (hNb : ∀ (u U : State), U.vm = u.vm → N u → N U) {sz : Nat} : FrameBlind (va_Pc As (fun U => U.heap.size = sz ∧ va_P D vwCl wc U.heap ∧ va_K D vwCl ty U ∧ va_D (fun _ => True) wc ∧ N U)) := fun a U g mk q => ⟨q.1, q.2.1, q.2.2.1, va_K.moved (u := U) (U := U.calling g mk a) (Vm.Alike.refl U.vm) q.2.2.2.1, q.2.2.2.2.1, hNb U (U.calling g mk a) rfl q.2.2.2.2.2⟩
theorem ic_back (hP : va_P D vwCl ws H) (hD : va_D A ws) (hA : ∀ q, s.heap.size ≤ q → A q) (hS : va_S A s.heap H locs) (isC isR : List Nat) (hC : isC.map (fun i => ws[i]?) = wc.map some) (hRr : isR.map (fun i => ws[i]?) = wr.map some) (hn1 : va_nd isR = true) (hdis : ∀ i ∈ isR, i ∉ isC) {a : Array Value}
    (hr : va_Run p l e R s m args below meth c H locs cells slots mc ms (F0 m pc ls st0) rest (Qi D post (va_A wc H.size) a) (va_A wc H.size))
    (kk : ∀ (q : Nat → Nat) (H1 : Heap) (locs1 : List Loc), va_P D vwCl (wr ++ post q) H1 → va_D A (wr ++ post q) → va_S A s.heap H1 locs1 → W p l e R s m args below meth c H1 locs1 (cells + mc) (slots + ms) Q (F0 m (pc + 3) ls rest)) : W p l e R s m args below meth c H locs cells slots Q (F0 m pc ls st0) := by
  have hFc := va_free (wc := wc) hD hS hA isC hC
  intro T hT X
  obtain ⟨v, st₀, t, T', L, h0, X', hL, e1, -, ⟨hv, ⟨q, hp, hd⟩, hz, hk⟩, st⟩ := hr T hT X
  cases hv
  rw [h0] at hz hk
  obtain ⟨hP2, hD2⟩ := va_join (wr := wr) hP hD isC isR hC hRr hn1 hdis hk hFc hp hd
  obtain ⟨t2, a1, b1⟩ := kk q T'.heap (locs ++ L) (by rw [e1]; exact hP2) hD2 ⟨Nat.le_trans hS.1 (by rw [e1]; exact hz), fun q h1 h2 => by rw [e1, hk q (Nat.lt_of_lt_of_le h1 hS.1) (fun z => h2 (hFc q z))]; exact hS.2.1 q h1 h2, fun q hq => by
      rcases List.mem_append.mp hq with h | h
      · exact hS.2.2 q h
      · exact hFc _ (hL q h)⟩ T' rfl X'
  exact ⟨t2, st t2 a1, b1⟩
theorem cbI (hts : ∀ w ∈ gtb, w.before args s = true) (hy : Mc y bytes maxL n) (hl : Cond.methodLink own idx y ∈ gtb) (hR : rm.cells = mc ∧ rm.slots = ms ∧ rm.frames + 1 ≤ R.frames ∧ 8 + (maxL + 11) + rm.locals ≤ R.locals) : CallB R s args own idx y bytes maxL none (cw y bytes maxL none) rm mc ms n ∧ y.name = "<init>" ∧ (Cond.instanceMethod y).before args s = true := by
  refine ⟨⟨hR.1, hR.2.1, hR.2.2.1, hR.2.2.2, fun w hw a' U hW => ?_, List.mem_cons_self, hts _ hy.2.2.2.1, hts _ hy.2.2.1, hy.2.2.2.2.1, fun sig h => ?_, hts _ hl⟩, hy.1, hts _ hy.2.1⟩
  · rcases List.mem_cons.mp hw with rfl | hw
    · exact word_at hW (tbl_word hy.2.2.2.1) (hts _ hy.2.2.2.1)
    · exact word_at hW (tbl_word hw) (hts _ hw)
  · have h2 := hy.2.2.2.2.2
    rw [h] at h2
    exact (Option.some.inj h2).symm
theorem cnI (hts : ∀ w ∈ gtb, w.before args s = true) (hy : Mc y bytes maxL n) (hl : va_Nw (.methodLinkNest own idx y host) s) (hR : rm.cells = mc ∧ rm.slots = ms ∧ rm.frames + 1 ≤ R.frames ∧ 8 + (maxL + 11) + rm.locals ≤ R.locals) : va_CN R s args own idx y host bytes maxL none (cw y bytes maxL none) rm mc ms n ∧ y.name = "<init>" ∧ (Cond.instanceMethod y).before args s = true := by
  refine ⟨⟨⟨hR.1, hR.2.1, hR.2.2.1, hR.2.2.2, fun w hw a' U hW => ?_, List.mem_cons_self⟩, hts _ hy.2.2.2.1, hts _ hy.2.2.1, hy.2.2.2.2.1, fun sig h => ?_, va_Nw.use rfl hl⟩, hy.1, hts _ hy.2.1⟩
  · rcases List.mem_cons.mp hw with rfl | hw
    · exact word_at hW (tbl_word hy.2.2.2.1) (hts _ hy.2.2.2.1)
    · exact word_at hW (tbl_word hw) (hts _ hw)
  · have h2 := hy.2.2.2.2.2
    rw [h] at h2
    exact (Option.some.inj h2).symm
/-- a constructor is called -/
theorem icI (hNb : ∀ (u U : State), U.vm = u.vm → N u → N U) (hNw : ∀ U : State, s.WarmedH U.vm → N U) (C : Cx p s m c args own cc nL D ty) (hP : va_P D vwCl ws H) (hD : va_D A ws) (hA : ∀ q, s.heap.size ≤ q → A q) (hS : va_S A s.heap H locs) (hM : Ic N l D ty wc post y bytes maxL rm (.ref b :: As) mc ms) (hy : Mc y bytes maxL n) (hl : Cond.methodLink own idx y ∈ gtb) (isC isR : List Nat) (hC : isC.map (fun i => ws[i]?) = wc.map some) (hC' : isC.filterMap (fun i => ws[i]?) = wc) (hRr : isR.map (fun i => ws[i]?) = wr.map some) (hnC : va_nd isC = true) (hn1 : va_nd isR = true) (hdis : ∀ i ∈ isR, i ∉ isC) (hn : As.length = n) (hsize : ls.size = nL) (hstack : st0 = As.reverse ++ .ref b :: rest) (hW : (rest.map fun v => v.category).sum ≤ 8) (hR : rm.cells = mc ∧ rm.slots = ms ∧ rm.frames + 1 ≤ R.frames ∧ 8 + (maxL + 11) + rm.locals ≤ R.locals) (hf : cells + mc ≤ R.cells ∧ slots + ms ≤ R.slots) (hdg : decode cc pc = .ok (.invokespecial idx, 3))
    (kk : ∀ (q : Nat → Nat) (H1 : Heap) (locs1 : List Loc), va_P D vwCl (wr ++ post q) H1 → va_D A (wr ++ post q) → va_S A s.heap H1 locs1 → W p l e R s m args below meth c H1 locs1 (cells + mc) (slots + ms) Q (F0 m (pc + 3) ls rest)) : W p l e R s m args below meth c H locs cells slots Q (F0 m pc ls st0) :=
  ic_back hP hD hA hS isC isR hC hRr hn1 hdis (va_runI (As := As) (rest := rest) C.1 (hM H.size) (cbI C.1.2.2.2.2 hy hl hR) ⟨ic_blind hNb, fun U hU hWu => ⟨rfl, by rw [hU], by rw [hU]; exact hP.sub isC hC', va_K.moved hWu.alike C.2, (hD.sub isC hnC hC).weaken (fun _ _ _ _ => trivial), hNw U hWu⟩⟩ rfl hn hsize hstack (lv_room (m := m) (pc := pc) (ls := ls) (rest := st0) hW) hdg hf) kk
/-- a nest mate's private constructor is called -/
theorem icN (C : Cx p s m c args own cc nL D ty) (hP : va_P D vwCl ws H) (hD : va_D A ws) (hA : ∀ q, s.heap.size ≤ q → A q) (hS : va_S A s.heap H locs) (hM : Ic (fun _ => True) l D ty wc post y bytes maxL rm (.ref b :: As) mc ms) (hy : Mc y bytes maxL n) (hl : va_Nw (.methodLinkNest own idx y host) s) (isC isR : List Nat) (hC : isC.map (fun i => ws[i]?) = wc.map some) (hC' : isC.filterMap (fun i => ws[i]?) = wc) (hRr : isR.map (fun i => ws[i]?) = wr.map some) (hnC : va_nd isC = true) (hn1 : va_nd isR = true) (hdis : ∀ i ∈ isR, i ∉ isC) (hn : As.length = n) (hsize : ls.size = nL) (hstack : st0 = As.reverse ++ .ref b :: rest) (hW : (rest.map fun v => v.category).sum ≤ 8) (hR : rm.cells = mc ∧ rm.slots = ms ∧ rm.frames + 1 ≤ R.frames ∧ 8 + (maxL + 11) + rm.locals ≤ R.locals) (hf : cells + mc ≤ R.cells ∧ slots + ms ≤ R.slots) (hdg : decode cc pc = .ok (.invokespecial idx, 3))
    (kk : ∀ (q : Nat → Nat) (H1 : Heap) (locs1 : List Loc), va_P D vwCl (wr ++ post q) H1 → va_D A (wr ++ post q) → va_S A s.heap H1 locs1 → W p l e R s m args below meth c H1 locs1 (cells + mc) (slots + ms) Q (F0 m (pc + 3) ls rest)) : W p l e R s m args below meth c H locs cells slots Q (F0 m pc ls st0) :=
  ic_back hP hD hA hS isC isR hC hRr hn1 hdis (va_runIN (As := As) (rest := rest) C.1 (hM H.size) (cnI C.1.2.2.2.2 hy hl hR) ⟨ic_blind (fun _ _ _ _ => trivial), fun U hU hWu => ⟨rfl, by rw [hU], by rw [hU]; exact hP.sub isC hC', va_K.moved hWu.alike C.2, (hD.sub isC hnC hC).weaken (fun _ _ _ _ => trivial), trivial⟩⟩ rfl hn hsize hstack (lv_room (m := m) (pc := pc) (ls := ls) (rest := st0) hW) hdg hf) kk
/-- a new row of numbers; its class is the known one -/
theorem xnewa {atype : ArrayType} {t : FieldType} {t0 : Nat} {cK : ClassId} (C : Cx p s m c args own cc nL D ty) (hP : va_P D vwCl ws H) (hD : va_D A ws) (hA : ∀ q, s.heap.size ≤ q → A q) (hS : va_S A s.heap H locs) (harr : Cond.arrayClass t ∈ gtb) (hty : newarray.typeOf atype = t) (ht : ty[t0]? = some (cK, t)) (hpr : ∀ cA, va_RA s cA t → s.vm.findClass ("[" ++ t.toString) = some cA) {z : Int32} {N' : Nat} (ha : ∀ cA : ClassId, vp_cell cA (N', .inl (fun _ => 0)) = arrV cA N' (fun _ => defaultValue t)) (hn : ¬ z < 0) (hN : z.toNatClampNeg = N') (hbytes : N' * componentBytes t ≤ 536870912) (hcells : cells + 1 ≤ R.cells) (hslots : slots + N' ≤ R.slots) (hdg : decode cc pc = .ok (.newarray atype, 2))
    (kk : ∀ (q : Nat) (H1 : Heap), va_P D vwCl (ws ++ [(q, .inl (cK, N', .inl (fun _ => 0)))]) H1 → va_D A (ws ++ [(q, .inl (cK, N', .inl (fun _ => 0)))]) → va_S A s.heap H1 locs → W p l e R s m args below meth c H1 locs (cells + 1) (slots + N') Q (F0 m (pc + 2) ls (.ref q :: rest))) : W p l e R s m args below meth c H locs cells slots Q (F0 m pc ls (.int z :: rest)) := by
  refine va_newa C.1.1 C.1.2.1 (by rw [hty]; exact C.1.2.2.2.2 _ harr) hty C.2 hP hD hS hA ha hn hN hbytes hcells hslots hdg (fun q cA H1 hK1 hP1 hD1 hS1 => ?_)
  have h1 := hpr _ (hK1.2 ty.length (cA, t) (by simp)).2
  have h2 := hpr _ (C.2.2 t0 (cK, t) ht).2
  have e : cA = cK := Option.some.inj (h1.symm.trans h2)
  subst e
  exact kk q H1 hP1 hD1 hS1
/-- Object's own constructor -/
theorem xobj {cls : String} {a : Nat} (C : Cx p s m c args own cc nL D ty) (hl : Cond.methodLink own idx objectInit ∈ gtb) (hsize : ls.size = nL) (hdg : decode cc pc = .ok (.invokespecial idx, 3)) (hfr : 1 ≤ R.frames) (hlo : (rest.map fun v => v.category).sum + 12 ≤ R.locals)
    (kk : W p l e R s m args below meth c H locs cells slots Q (F0 m (pc + 3) ls rest)) : W p l e R s m args below meth c H locs cells slots Q (F0 m pc ls (.ref a :: rest)) :=
  W.objInit C.1.1 C.1.2.1 C.1.2.2.2.1 (C.1.2.2.2.2 _ hl) (C.1.2.2.2.2 _ oi_im) (C.1.2.2.2.2 _ oi_cd) (g := F0 m pc ls (.ref a :: rest)) rfl (hsize.trans C.1.2.2.1.symm) rfl hdg hfr (by show 2 * 0 + _ + 12 ≤ _; omega) kk
end CT
