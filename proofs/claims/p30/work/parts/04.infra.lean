def znest : List Cond := [Cond.methodLinkNest RX3 67 yX10_has RX10, Cond.methodLinkNest RX7 70 yX10_has RX10, Cond.methodLinkNest RX5 32 yX10_has RX10, Cond.methodLinkNest RX5 59 yX10_nearOrNone RX10, Cond.methodLinkNest RX2 77 yX10_has RX10]
theorem kn_3_67 : Cond.methodLinkNest RX3 67 yX10_has RX10 ∈ znest := List.mem_of_getElem? (i := 0) rfl
theorem kn_7_70 : Cond.methodLinkNest RX7 70 yX10_has RX10 ∈ znest := List.mem_of_getElem? (i := 1) rfl
theorem kn_5_32 : Cond.methodLinkNest RX5 32 yX10_has RX10 ∈ znest := List.mem_of_getElem? (i := 2) rfl
theorem kn_5_59 : Cond.methodLinkNest RX5 59 yX10_nearOrNone RX10 ∈ znest := List.mem_of_getElem? (i := 3) rfl
theorem kn_2_77 : Cond.methodLinkNest RX2 77 yX10_has RX10 ∈ znest := List.mem_of_getElem? (i := 4) rfl
theorem znest_form : ∀ w ∈ znest, ∃ a i y b, w = Cond.methodLinkNest a i y b := by
  intro w hw
  simp only [znest, List.mem_cons, List.not_mem_nil, or_false] at hw
  rcases hw with rfl | rfl | rfl | rfl | rfl <;> exact ⟨_, _, _, _, rfl⟩
theorem znest_in : ∀ w ∈ znest, w ∈ lw_tbl := by
  intro w hw
  simp only [znest, List.mem_cons, List.not_mem_nil, or_false] at hw
  rcases hw with rfl | rfl | rfl | rfl | rfl
  · exact List.mem_of_getElem? (i := 862) (by decide +kernel)
  · exact List.mem_of_getElem? (i := 936) (by decide +kernel)
  · exact List.mem_of_getElem? (i := 1141) (by decide +kernel)
  · exact List.mem_of_getElem? (i := 1148) (by decide +kernel)
  · exact List.mem_of_getElem? (i := 1231) (by decide +kernel)
def zb : List Cond := lw_tbl.filter goodWord
theorem zb_good : ∀ w ∈ zb, goodWord w = true := fun _ h => (List.mem_filter.mp h).2
theorem zb_at (i : Nat) {w : Cond} (h : lw_tbl[i]? = some w) (g : goodWord w = true) : w ∈ zb := List.mem_filter.mpr ⟨List.mem_of_getElem? h, g⟩
theorem zb_in {w : Cond} (h : w ∈ zb) : w ∈ lw_tbl := (List.mem_filter.mp h).1
theorem uw_of {ws : List Cond} (is : List Nat) (h : ws.map some = is.map (fun i => lw_tbl[i]?)) (g : ws.all goodWord = true) : ∀ w ∈ ws, w ∈ zb := by
  intro w hw
  have h1 : some w ∈ is.map (fun i => lw_tbl[i]?) := h ▸ List.mem_map.mpr ⟨w, hw, rfl⟩
  obtain ⟨i, _, hi⟩ := List.mem_map.mp h1
  exact zb_at i hi (List.all_eq_true.mp g w hw)
theorem zb_cons {cf cg : Cond} (h5 : cg ∈ zb) : GoodIn (cf :: zb) (cg :: zb) := by
  intro w hw
  have h : w ∈ zb := by
    rcases List.mem_cons.mp hw with h | h
    · rw [h]; exact h5
    · exact h
  exact ⟨List.mem_cons_of_mem _ h, good_of_word (zb_good w h)⟩
theorem zb_self {cg : Cond} (h5 : cg ∈ zb) : GoodIn zb (cg :: zb) := by
  intro w hw
  have h : w ∈ zb := by
    rcases List.mem_cons.mp hw with h | h
    · rw [h]; exact h5
    · exact h
  exact ⟨h, good_of_word (zb_good w h)⟩
/-- what holds of the method whose body is walked -/
def zC (p : Program) (s : State) (m : MethodId) (args : Array Value) (meth : Method) (c : Code) (cc : ByteArray) (nL : Nat) (own : String) (ret : Option FieldType) : Prop :=
  p.tables.exec = Jvm.exec ∧ c.code = cc ∧ c.maxLocals = nL ∧ s.vm.findClass own = some m.cls ∧ (∀ w ∈ zb, w.before args s = true) ∧ meth.sig.returnType = ret ∧ meth.locks = false
theorem zc_of {p : Program} {l : Launch} {y : MethodName} {w : Cond} {rm : Room} {cc : ByteArray} {maxL : Nat} {ret : Option FieldType} {e : Env} {s : State} {m : MethodId} {args : Array Value} {below : List Frame} {meth : Method} {c : Code} {s₁ : State}
    (B : BodyLoose p l y (headSpec (w :: zb) rm) cc maxL ret e s m args below meth c s₁) (hml : c.maxLocals = maxL) : zC p s m args meth c cc maxL y.cls ret :=
  ⟨B.exec, B.bytes, hml, findClass_of_methodNamed B.named, fun x hx => atoms_spec (ws := w :: zb) B.pre x (List.mem_cons_of_mem _ hx), B.returns, B.notSynchronized⟩
/-- what the tables say of a callee -/
def zY (C : String) (y : MethodName) (cg : Cond) (n : Nat) : Prop :=
  y.cls = C ∧ Cond.initialized C ∈ zb ∧ cg ∈ zb ∧ (y.cls ≠ "java/lang/invoke/MethodHandle" ∧ y.cls ≠ "java/lang/invoke/VarHandle" ∧ (parseMethodDescriptor y.desc).map (fun d => d.parameters.length) = some n)
abbrev zcl : List vw_C := [(RX0, TX0, 4), (RX1, TX1, 4), (RX2, TX2, 15), (RX3, TX3, 10), (RX4, TX4, 15), (RX5, TX5, 3), (RX6, TX6, 4), (RX7, TX7, 8), (RX8, TX8, 2), (RX9, TX9, 9), (RX10, TX10, 7), (RX11, TX11, 52)]
abbrev zE : Type := va_G × (Nat → ClassId)
abbrev zty (E : zE) : List (ClassId × FieldType) := [(E.2 0, .byte), (E.2 1, .int), (E.2 2, .long), (E.2 3, .boolean), (E.2 4, .object RX2), (E.2 5, .object RX1), (E.2 6, .object RX6), (E.2 7, .object RX0), (E.2 8, .object RX9)]
def zK (E : zE) (s : State) : Prop := va_K E.1 zcl (zty E) s ∧ ∀ w ∈ znest, va_Nw w s
theorem zK_moved {E : zE} {s U : State} (hW : s.WarmedH U.vm) (h : zK E s) : zK E U := by
  refine ⟨va_K.moved hW.alike h.1, fun w hw => ?_⟩
  have h2 := h.2 w hw
  obtain ⟨a, i, y, b, rfl⟩ := znest_form w hw
  exact va_Nw.warmM hW h2
theorem zK_calling {E : zE} {U : State} {gg : JFrame} {mk : MethodId} {a : Array Value} (h : zK E U) : zK E (U.calling gg mk a) := by
  refine ⟨va_K.moved (u := U) (U := U.calling gg mk a) (Vm.Alike.refl U.vm) h.1, fun w hw => ?_⟩
  have h2 := h.2 w hw
  obtain ⟨a, i, y, b, rfl⟩ := znest_form w hw
  exact va_Nw.same rfl rfl h2
/-- cells at neighbouring addresses -/
def zR (q n : Nat) : Nat → Prop := fun a => q ≤ a ∧ a < q + n
theorem zD_of {ws : va_W} {q n : Nat} (h : ws.map Prod.fst = (List.range n).map (fun k => q + k)) : va_D (zR q n) ws := by
  have h1 : ∀ (k : Nat) (x : Nat × va_E), ws[k]? = some x → k < n ∧ x.1 = q + k := by
    intro k x hx
    have h2 : (ws.map Prod.fst)[k]? = some x.1 := by rw [List.getElem?_map, hx]; rfl
    rw [h, List.getElem?_map] at h2
    cases h3 : (List.range n)[k]? with
    | none => rw [h3] at h2; cases h2
    | some j =>
      rw [h3] at h2
      have h4 := List.getElem?_eq_some_iff.mp h3
      obtain ⟨hlt, h5⟩ := h4
      simp at hlt h5
      have h6 : q + j = x.1 := Option.some.inj h2
      omega
  refine ⟨fun i j a b ha hb hab => ?_, fun k x hx => ?_⟩
  · have := h1 i a ha; have := h1 j b hb; omega
  · have := h1 k x hx
    exact ⟨by omega, by omega⟩
def zQi {S : Type} (post : Int32 → S → Prop) (B : S → Heap → Prop) (A : Nat → Prop) : Array Value → State → Outcome → State → Prop := va_Qi post (fun u t => B u t.heap) A
def zQl {S : Type} (post : Int64 → S → Prop) (B : S → Heap → Prop) (A : Nat → Prop) : Array Value → State → Outcome → State → Prop := va_Ql post (fun u t => B u t.heap) A
def zQv {S : Type} (post : S → Prop) (B : S → Heap → Prop) (A : Nat → Prop) : Array Value → State → Outcome → State → Prop := va_Qv post (fun u t => B u t.heap) A
theorem zD_nd {ws : va_W} {A : Nat → Prop} {as : List Nat} (h : ws.map Prod.fst = as) (hn : as.Nodup) (hA : ∀ a ∈ as, A a) : va_D A ws := by
  subst h
  have h1 : ∀ (k : Nat) (x : Nat × va_E), ws[k]? = some x → (ws.map Prod.fst)[k]? = some x.1 := by
    intro k x hx
    rw [List.getElem?_map, hx]; rfl
  refine ⟨fun i j a b ha hb hab => ?_, fun k x hx => hA _ (List.mem_of_getElem? (h1 k x hx))⟩
  have e1 := h1 i a ha
  have e2 := h1 j b hb
  rw [← hab] at e2
  have hi : i < (ws.map Prod.fst).length := (List.getElem?_eq_some_iff.mp e1).1
  exact (List.getElem?_inj hi hn).mp (e1.trans e2.symm)
section ZW
variable {p : Program} {l : Launch} {e : Env} {R : Room} {s : State} {m : MethodId} {args : Array Value} {below : List Frame} {meth : Method} {c : Code} {H : Heap} {locs : List Loc} {cells slots : Nat} {Q : State → Prop} {cc : ByteArray} {pc nL : Nat} {ls : Array Slot} {own C : String} {ret : Option FieldType} {y : MethodName} {bytes : ByteArray} {maxL n idx : Nat} {retc : Option FieldType} {rm : Room} {Pc : Array Value → State → Prop} {b : Addr}
/-- a virtual call that changes nothing: int, long, void -/
theorem zV_i {post : Int32 → Prop} (As rest : List Value) {st : List Value} (zc : zC p s m args meth c cc nL own ret) (ky : zY C y (Cond.code y bytes maxL retc) n) (k2 : Cond.instanceMethod y ∈ zb ∧ Cond.selects C y y ∈ zb) (hl : Cond.methodLink own idx y ∈ zb) (hM : Met l y (Cond.code y bytes maxL retc :: zb) rm Pc (vp_Si post) 0 0 (fun _ => False)) (hp : PreV s H C b Pc As) (hst : st = As.reverse ++ .ref b :: rest) (hn : As.length = n) (hsz : ls.size = nL) (hW : (rest.map fun v => v.category).sum ≤ 8) (hrm : rm.cells = 0 ∧ rm.slots = 0) (hR : rm.frames + 1 ≤ R.frames ∧ 8 + (maxL + 11) + rm.locals ≤ R.locals) (hcs : cells ≤ R.cells ∧ slots ≤ R.slots) (hdg : decode cc pc = .ok (.invokevirtual idx, 3))
    (kk : ∀ r : Int32, post r → W p l e R s m args below meth c H locs cells slots Q (F0 m (pc + 3) ls (.int r :: rest))) : W p l e R s m args below meth c H locs cells slots Q (F0 m pc ls st) := by
  obtain ⟨hx, hb, hml, hown, hz, hr, hlk⟩ := zc
  obtain ⟨y1, y2, y3, y4⟩ := ky
  subst hst
  have cw : CallW R s args own C idx y bytes maxL retc (Cond.code y bytes maxL retc :: zb) rm 0 0 n := ⟨callB_of n hz (zb_self y3) rfl hrm.1 hrm.2 (by rw [y1]; exact hz _ y2) (hz _ hl) y4 hR, hz _ k2.1, hz _ k2.2⟩
  exact vp_callSi (W.runV (As := As) (rest := rest) ⟨hx, hb, hml, hown, hz⟩ hM cw hp rfl hn hsz rfl (lv_room hW) hdg hcs) kk
theorem zV_l {post : Int64 → Prop} (As rest : List Value) {st : List Value} (zc : zC p s m args meth c cc nL own ret) (ky : zY C y (Cond.code y bytes maxL retc) n) (k2 : Cond.instanceMethod y ∈ zb ∧ Cond.selects C y y ∈ zb) (hl : Cond.methodLink own idx y ∈ zb) (hM : Met l y (Cond.code y bytes maxL retc :: zb) rm Pc (vp_Sl post) 0 0 (fun _ => False)) (hp : PreV s H C b Pc As) (hst : st = As.reverse ++ .ref b :: rest) (hn : As.length = n) (hsz : ls.size = nL) (hW : (rest.map fun v => v.category).sum ≤ 8) (hrm : rm.cells = 0 ∧ rm.slots = 0) (hR : rm.frames + 1 ≤ R.frames ∧ 8 + (maxL + 11) + rm.locals ≤ R.locals) (hcs : cells ≤ R.cells ∧ slots ≤ R.slots) (hdg : decode cc pc = .ok (.invokevirtual idx, 3))
    (kk : ∀ r : Int64, post r → W p l e R s m args below meth c H locs cells slots Q (F0 m (pc + 3) ls (.long r :: rest))) : W p l e R s m args below meth c H locs cells slots Q (F0 m pc ls st) := by
  obtain ⟨hx, hb, hml, hown, hz, hr, hlk⟩ := zc
  obtain ⟨y1, y2, y3, y4⟩ := ky
  subst hst
  have cw : CallW R s args own C idx y bytes maxL retc (Cond.code y bytes maxL retc :: zb) rm 0 0 n := ⟨callB_of n hz (zb_self y3) rfl hrm.1 hrm.2 (by rw [y1]; exact hz _ y2) (hz _ hl) y4 hR, hz _ k2.1, hz _ k2.2⟩
  exact vp_callSl (W.runV (As := As) (rest := rest) ⟨hx, hb, hml, hown, hz⟩ hM cw hp rfl hn hsz rfl (lv_room hW) hdg hcs) kk
theorem zV_r {post : Nat → Prop} {ad : Nat → Value} (As rest : List Value) {st : List Value} (zc : zC p s m args meth c cc nL own ret) (ky : zY C y (Cond.code y bytes maxL retc) n) (k2 : Cond.instanceMethod y ∈ zb ∧ Cond.selects C y y ∈ zb) (hl : Cond.methodLink own idx y ∈ zb) (hM : Met l y (Cond.code y bytes maxL retc :: zb) rm Pc (va_Sr post ad) 0 0 (fun _ => False)) (hp : PreV s H C b Pc As) (hst : st = As.reverse ++ .ref b :: rest) (hn : As.length = n) (hsz : ls.size = nL) (hW : (rest.map fun v => v.category).sum ≤ 8) (hrm : rm.cells = 0 ∧ rm.slots = 0) (hR : rm.frames + 1 ≤ R.frames ∧ 8 + (maxL + 11) + rm.locals ≤ R.locals) (hcs : cells ≤ R.cells ∧ slots ≤ R.slots) (hdg : decode cc pc = .ok (.invokevirtual idx, 3))
    (kk : ∀ r : Nat, post r → W p l e R s m args below meth c H locs cells slots Q (F0 m (pc + 3) ls (ad r :: rest))) : W p l e R s m args below meth c H locs cells slots Q (F0 m pc ls st) := by
  obtain ⟨hx, hb, hml, hown, hz, hr, hlk⟩ := zc
  obtain ⟨y1, y2, y3, y4⟩ := ky
  subst hst
  have cw : CallW R s args own C idx y bytes maxL retc (Cond.code y bytes maxL retc :: zb) rm 0 0 n := ⟨callB_of n hz (zb_self y3) rfl hrm.1 hrm.2 (by rw [y1]; exact hz _ y2) (hz _ hl) y4 hR, hz _ k2.1, hz _ k2.2⟩
  exact va_csr (W.runV (As := As) (rest := rest) ⟨hx, hb, hml, hown, hz⟩ hM cw hp rfl hn hsz rfl (lv_room hW) hdg hcs) kk
/-- a static call that changes nothing -/
theorem zS_i {post : Int32 → Prop} (As rest : List Value) {st : List Value} (zc : zC p s m args meth c cc nL own ret) (ky : zY C y (Cond.code y bytes maxL retc) n) (k2 : Cond.static y ∈ zb) (hl : Cond.methodLink own idx y ∈ zb) (hM : Met l y (Cond.code y bytes maxL retc :: zb) rm Pc (vp_Si post) 0 0 (fun _ => False)) (hp : PreS s H Pc As) (hst : st = As.reverse ++ rest) (hn : As.length = n) (hsz : ls.size = nL) (hW : (rest.map fun v => v.category).sum ≤ 8) (hrm : rm.cells = 0 ∧ rm.slots = 0) (hR : rm.frames + 1 ≤ R.frames ∧ 8 + (maxL + 11) + rm.locals ≤ R.locals) (hcs : cells ≤ R.cells ∧ slots ≤ R.slots) (hdg : decode cc pc = .ok (.invokestatic idx, 3))
    (kk : ∀ r : Int32, post r → W p l e R s m args below meth c H locs cells slots Q (F0 m (pc + 3) ls (.int r :: rest))) : W p l e R s m args below meth c H locs cells slots Q (F0 m pc ls st) := by
  obtain ⟨hx, hb, hml, hown, hz, hr, hlk⟩ := zc
  obtain ⟨y1, y2, y3, y4⟩ := ky
  subst hst
  have cw : CallB R s args own idx y bytes maxL retc (Cond.code y bytes maxL retc :: zb) rm 0 0 n := callB_of n hz (zb_self y3) rfl hrm.1 hrm.2 (by rw [y1]; exact hz _ y2) (hz _ hl) y4 hR
  exact vp_callSi (va_Run.run (va_runS (As := As) (rest := rest) ⟨hx, hb, hml, hown, hz⟩ hM ⟨cw, hz _ k2⟩ hp rfl hn hsz rfl (lv_room hW) hdg hcs)) kk
theorem zSN_i {post : Int32 → Prop} {host : String} (As rest : List Value) {st : List Value} (zc : zC p s m args meth c cc nL own ret) (ky : zY C y (Cond.code y bytes maxL retc) n) (k2 : Cond.static y ∈ zb) (hl : va_Nw (Cond.methodLinkNest own idx y host) s) (hM : Met l y (Cond.code y bytes maxL retc :: zb) rm Pc (vp_Si post) 0 0 (fun _ => False)) (hp : PreS s H Pc As) (hst : st = As.reverse ++ rest) (hn : As.length = n) (hsz : ls.size = nL) (hW : (rest.map fun v => v.category).sum ≤ 8) (hrm : rm.cells = 0 ∧ rm.slots = 0) (hR : rm.frames + 1 ≤ R.frames ∧ 8 + (maxL + 11) + rm.locals ≤ R.locals) (hcs : cells ≤ R.cells ∧ slots ≤ R.slots) (hdg : decode cc pc = .ok (.invokestatic idx, 3))
    (kk : ∀ r : Int32, post r → W p l e R s m args below meth c H locs cells slots Q (F0 m (pc + 3) ls (.int r :: rest))) : W p l e R s m args below meth c H locs cells slots Q (F0 m pc ls st) := by
  obtain ⟨hx, hb, hml, hown, hz, hr, hlk⟩ := zc
  obtain ⟨y1, y2, y3, y4⟩ := ky
  subst hst
  exact vp_callSi (va_Run.run (va_runSN (As := As) (rest := rest) ⟨hx, hb, hml, hown, hz⟩ hM ⟨va_cnB n hz (zb_self y3) rfl hrm.1 hrm.2 hl (by rw [y1]; exact hz _ y2) y4 hR, hz _ k2, trivial⟩ hp rfl hn hsz rfl (lv_room hW) hdg hcs)) kk
/-- a call that changes cells of a range -/
theorem zVw_i {S : Type} {post : Int32 → S → Prop} {B : S → Heap → Prop} {A : Nat → Prop} (As rest : List Value) {st : List Value} (zc : zC p s m args meth c cc nL own ret) (ky : zY C y (Cond.code y bytes maxL retc) n) (k2 : Cond.instanceMethod y ∈ zb ∧ Cond.selects C y y ∈ zb) (hl : Cond.methodLink own idx y ∈ zb) (hM : Met l y (Cond.code y bytes maxL retc :: zb) rm Pc (zQi post B A) 0 0 A) (hp : PreV s H C b Pc As) (hS : va_S A s.heap H locs) (hst : st = As.reverse ++ .ref b :: rest) (hn : As.length = n) (hsz : ls.size = nL) (hW : (rest.map fun v => v.category).sum ≤ 8) (hrm : rm.cells = 0 ∧ rm.slots = 0) (hR : rm.frames + 1 ≤ R.frames ∧ 8 + (maxL + 11) + rm.locals ≤ R.locals) (hcs : cells ≤ R.cells ∧ slots ≤ R.slots) (hdg : decode cc pc = .ok (.invokevirtual idx, 3))
    (kk : ∀ (r : Int32) (u : S) (H1 : Heap) (locs1 : List Loc), post r u → B u H1 → va_S A s.heap H1 locs1 → W p l e R s m args below meth c H1 locs1 cells slots Q (F0 m (pc + 3) ls (.int r :: rest))) : W p l e R s m args below meth c H locs cells slots Q (F0 m pc ls st) := by
  obtain ⟨hx, hb, hml, hown, hz, hr, hlk⟩ := zc
  obtain ⟨y1, y2, y3, y4⟩ := ky
  subst hst
  have cw : CallW R s args own C idx y bytes maxL retc (Cond.code y bytes maxL retc :: zb) rm 0 0 n := ⟨callB_of n hz (zb_self y3) rfl hrm.1 hrm.2 (by rw [y1]; exact hz _ y2) (hz _ hl) y4 hR, hz _ k2.1, hz _ k2.2⟩
  exact va_calli (va_runV (As := As) (rest := rest) ⟨hx, hb, hml, hown, hz⟩ hM cw hp rfl hn hsz rfl (lv_room hW) hdg hcs) hS (fun _ _ h => h) (fun _ h => h) (fun r u t H1 locs1 ht _ hpost hB _ _ hS1 => kk r u H1 locs1 hpost (ht ▸ hB) hS1)
theorem zVw_l {S : Type} {post : Int64 → S → Prop} {B : S → Heap → Prop} {A : Nat → Prop} (As rest : List Value) {st : List Value} (zc : zC p s m args meth c cc nL own ret) (ky : zY C y (Cond.code y bytes maxL retc) n) (k2 : Cond.instanceMethod y ∈ zb ∧ Cond.selects C y y ∈ zb) (hl : Cond.methodLink own idx y ∈ zb) (hM : Met l y (Cond.code y bytes maxL retc :: zb) rm Pc (zQl post B A) 0 0 A) (hp : PreV s H C b Pc As) (hS : va_S A s.heap H locs) (hst : st = As.reverse ++ .ref b :: rest) (hn : As.length = n) (hsz : ls.size = nL) (hW : (rest.map fun v => v.category).sum ≤ 8) (hrm : rm.cells = 0 ∧ rm.slots = 0) (hR : rm.frames + 1 ≤ R.frames ∧ 8 + (maxL + 11) + rm.locals ≤ R.locals) (hcs : cells ≤ R.cells ∧ slots ≤ R.slots) (hdg : decode cc pc = .ok (.invokevirtual idx, 3))
    (kk : ∀ (r : Int64) (u : S) (H1 : Heap) (locs1 : List Loc), post r u → B u H1 → va_S A s.heap H1 locs1 → W p l e R s m args below meth c H1 locs1 cells slots Q (F0 m (pc + 3) ls (.long r :: rest))) : W p l e R s m args below meth c H locs cells slots Q (F0 m pc ls st) := by
  obtain ⟨hx, hb, hml, hown, hz, hr, hlk⟩ := zc
  obtain ⟨y1, y2, y3, y4⟩ := ky
  subst hst
  have cw : CallW R s args own C idx y bytes maxL retc (Cond.code y bytes maxL retc :: zb) rm 0 0 n := ⟨callB_of n hz (zb_self y3) rfl hrm.1 hrm.2 (by rw [y1]; exact hz _ y2) (hz _ hl) y4 hR, hz _ k2.1, hz _ k2.2⟩
  exact va_calll (va_runV (As := As) (rest := rest) ⟨hx, hb, hml, hown, hz⟩ hM cw hp rfl hn hsz rfl (lv_room hW) hdg hcs) hS (fun _ _ h => h) (fun _ h => h) (fun r u t H1 locs1 ht _ hpost hB _ _ hS1 => kk r u H1 locs1 hpost (ht ▸ hB) hS1)
theorem zVw_v {S : Type} {post : S → Prop} {B : S → Heap → Prop} {A : Nat → Prop} (As rest : List Value) {st : List Value} (zc : zC p s m args meth c cc nL own ret) (ky : zY C y (Cond.code y bytes maxL retc) n) (k2 : Cond.instanceMethod y ∈ zb ∧ Cond.selects C y y ∈ zb) (hl : Cond.methodLink own idx y ∈ zb) (hM : Met l y (Cond.code y bytes maxL retc :: zb) rm Pc (zQv post B A) 0 0 A) (hp : PreV s H C b Pc As) (hS : va_S A s.heap H locs) (hst : st = As.reverse ++ .ref b :: rest) (hn : As.length = n) (hsz : ls.size = nL) (hW : (rest.map fun v => v.category).sum ≤ 8) (hrm : rm.cells = 0 ∧ rm.slots = 0) (hR : rm.frames + 1 ≤ R.frames ∧ 8 + (maxL + 11) + rm.locals ≤ R.locals) (hcs : cells ≤ R.cells ∧ slots ≤ R.slots) (hdg : decode cc pc = .ok (.invokevirtual idx, 3))
    (kk : ∀ (u : S) (H1 : Heap) (locs1 : List Loc), post u → B u H1 → va_S A s.heap H1 locs1 → W p l e R s m args below meth c H1 locs1 cells slots Q (F0 m (pc + 3) ls rest)) : W p l e R s m args below meth c H locs cells slots Q (F0 m pc ls st) := by
  obtain ⟨hx, hb, hml, hown, hz, hr, hlk⟩ := zc
  obtain ⟨y1, y2, y3, y4⟩ := ky
  subst hst
  have cw : CallW R s args own C idx y bytes maxL retc (Cond.code y bytes maxL retc :: zb) rm 0 0 n := ⟨callB_of n hz (zb_self y3) rfl hrm.1 hrm.2 (by rw [y1]; exact hz _ y2) (hz _ hl) y4 hR, hz _ k2.1, hz _ k2.2⟩
  exact va_callv (va_runV (As := As) (rest := rest) ⟨hx, hb, hml, hown, hz⟩ hM cw hp rfl hn hsz rfl (lv_room hW) hdg hcs) hS (fun _ _ h => h) (fun _ h => h) (fun u t H1 locs1 ht _ hpost hB _ _ hS1 => kk u H1 locs1 hpost (ht ▸ hB) hS1)
theorem zSw_v {S : Type} {post : S → Prop} {B : S → Heap → Prop} {A : Nat → Prop} (As rest : List Value) {st : List Value} (zc : zC p s m args meth c cc nL own ret) (ky : zY C y (Cond.code y bytes maxL retc) n) (k2 : Cond.static y ∈ zb) (hl : Cond.methodLink own idx y ∈ zb) (hM : Met l y (Cond.code y bytes maxL retc :: zb) rm Pc (zQv post B A) 0 0 A) (hp : PreS s H Pc As) (hS : va_S A s.heap H locs) (hst : st = As.reverse ++ rest) (hn : As.length = n) (hsz : ls.size = nL) (hW : (rest.map fun v => v.category).sum ≤ 8) (hrm : rm.cells = 0 ∧ rm.slots = 0) (hR : rm.frames + 1 ≤ R.frames ∧ 8 + (maxL + 11) + rm.locals ≤ R.locals) (hcs : cells ≤ R.cells ∧ slots ≤ R.slots) (hdg : decode cc pc = .ok (.invokestatic idx, 3))
    (kk : ∀ (u : S) (H1 : Heap) (locs1 : List Loc), post u → B u H1 → va_S A s.heap H1 locs1 → W p l e R s m args below meth c H1 locs1 cells slots Q (F0 m (pc + 3) ls rest)) : W p l e R s m args below meth c H locs cells slots Q (F0 m pc ls st) := by
  obtain ⟨hx, hb, hml, hown, hz, hr, hlk⟩ := zc
  obtain ⟨y1, y2, y3, y4⟩ := ky
  subst hst
  have cw : CallB R s args own idx y bytes maxL retc (Cond.code y bytes maxL retc :: zb) rm 0 0 n := callB_of n hz (zb_self y3) rfl hrm.1 hrm.2 (by rw [y1]; exact hz _ y2) (hz _ hl) y4 hR
  exact va_callv (va_runS (As := As) (rest := rest) ⟨hx, hb, hml, hown, hz⟩ hM ⟨cw, hz _ k2⟩ hp rfl hn hsz rfl (lv_room hW) hdg hcs) hS (fun _ _ h => h) (fun _ h => h) (fun u t H1 locs1 ht _ hpost hB _ _ hS1 => kk u H1 locs1 hpost (ht ▸ hB) hS1)
theorem zSw_i {S : Type} {post : Int32 → S → Prop} {B : S → Heap → Prop} {A : Nat → Prop} (As rest : List Value) {st : List Value} (zc : zC p s m args meth c cc nL own ret) (ky : zY C y (Cond.code y bytes maxL retc) n) (k2 : Cond.static y ∈ zb) (hl : Cond.methodLink own idx y ∈ zb) (hM : Met l y (Cond.code y bytes maxL retc :: zb) rm Pc (zQi post B A) 0 0 A) (hp : PreS s H Pc As) (hS : va_S A s.heap H locs) (hst : st = As.reverse ++ rest) (hn : As.length = n) (hsz : ls.size = nL) (hW : (rest.map fun v => v.category).sum ≤ 8) (hrm : rm.cells = 0 ∧ rm.slots = 0) (hR : rm.frames + 1 ≤ R.frames ∧ 8 + (maxL + 11) + rm.locals ≤ R.locals) (hcs : cells ≤ R.cells ∧ slots ≤ R.slots) (hdg : decode cc pc = .ok (.invokestatic idx, 3))
    (kk : ∀ (r : Int32) (u : S) (H1 : Heap) (locs1 : List Loc), post r u → B u H1 → va_S A s.heap H1 locs1 → W p l e R s m args below meth c H1 locs1 cells slots Q (F0 m (pc + 3) ls (.int r :: rest))) : W p l e R s m args below meth c H locs cells slots Q (F0 m pc ls st) := by
  obtain ⟨hx, hb, hml, hown, hz, hr, hlk⟩ := zc
  obtain ⟨y1, y2, y3, y4⟩ := ky
  subst hst
  have cw : CallB R s args own idx y bytes maxL retc (Cond.code y bytes maxL retc :: zb) rm 0 0 n := callB_of n hz (zb_self y3) rfl hrm.1 hrm.2 (by rw [y1]; exact hz _ y2) (hz _ hl) y4 hR
  exact va_calli (va_runS (As := As) (rest := rest) ⟨hx, hb, hml, hown, hz⟩ hM ⟨cw, hz _ k2⟩ hp rfl hn hsz rfl (lv_room hW) hdg hcs) hS (fun _ _ h => h) (fun _ h => h) (fun r u t H1 locs1 ht _ hpost hB _ _ hS1 => kk r u H1 locs1 hpost (ht ▸ hB) hS1)
theorem zVx_i {S : Type} {post : Int32 → S → Prop} {B : S → Heap → Prop} {A A1 : Nat → Prop} (As rest : List Value) {st : List Value} (zc : zC p s m args meth c cc nL own ret) (ky : zY C y (Cond.code y bytes maxL retc) n) (k2 : Cond.instanceMethod y ∈ zb ∧ Cond.selects C y y ∈ zb) (hl : Cond.methodLink own idx y ∈ zb) (hM : Met l y (Cond.code y bytes maxL retc :: zb) rm Pc (zQi post B A1) 0 0 A1) (hp : PreV s H C b Pc As) (hS : va_S A s.heap H locs) (hsub : ∀ q, A1 q → A q) (hst : st = As.reverse ++ .ref b :: rest) (hn : As.length = n) (hsz : ls.size = nL) (hW : (rest.map fun v => v.category).sum ≤ 8) (hrm : rm.cells = 0 ∧ rm.slots = 0) (hR : rm.frames + 1 ≤ R.frames ∧ 8 + (maxL + 11) + rm.locals ≤ R.locals) (hcs : cells ≤ R.cells ∧ slots ≤ R.slots) (hdg : decode cc pc = .ok (.invokevirtual idx, 3))
    (kk : ∀ (r : Int32) (u : S) (H1 : Heap) (locs1 : List Loc), post r u → B u H1 → (∀ q : Nat, q < H.size → ¬ A1 q → H1[q]? = H[q]?) → va_S A s.heap H1 locs1 → W p l e R s m args below meth c H1 locs1 cells slots Q (F0 m (pc + 3) ls (.int r :: rest))) : W p l e R s m args below meth c H locs cells slots Q (F0 m pc ls st) := by
  obtain ⟨hx, hb, hml, hown, hz, hr, hlk⟩ := zc
  obtain ⟨y1, y2, y3, y4⟩ := ky
  subst hst
  have cw : CallW R s args own C idx y bytes maxL retc (Cond.code y bytes maxL retc :: zb) rm 0 0 n := ⟨callB_of n hz (zb_self y3) rfl hrm.1 hrm.2 (by rw [y1]; exact hz _ y2) (hz _ hl) y4 hR, hz _ k2.1, hz _ k2.2⟩
  exact va_calli (va_runV (As := As) (rest := rest) ⟨hx, hb, hml, hown, hz⟩ hM cw hp rfl hn hsz rfl (lv_room hW) hdg hcs) hS (fun q _ h => hsub q h) hsub (fun r u t H1 locs1 ht _ hpost hB _ hk1 hS1 => kk r u H1 locs1 hpost (ht ▸ hB) hk1 hS1)
theorem zVx_l {S : Type} {post : Int64 → S → Prop} {B : S → Heap → Prop} {A A1 : Nat → Prop} (As rest : List Value) {st : List Value} (zc : zC p s m args meth c cc nL own ret) (ky : zY C y (Cond.code y bytes maxL retc) n) (k2 : Cond.instanceMethod y ∈ zb ∧ Cond.selects C y y ∈ zb) (hl : Cond.methodLink own idx y ∈ zb) (hM : Met l y (Cond.code y bytes maxL retc :: zb) rm Pc (zQl post B A1) 0 0 A1) (hp : PreV s H C b Pc As) (hS : va_S A s.heap H locs) (hsub : ∀ q, A1 q → A q) (hst : st = As.reverse ++ .ref b :: rest) (hn : As.length = n) (hsz : ls.size = nL) (hW : (rest.map fun v => v.category).sum ≤ 8) (hrm : rm.cells = 0 ∧ rm.slots = 0) (hR : rm.frames + 1 ≤ R.frames ∧ 8 + (maxL + 11) + rm.locals ≤ R.locals) (hcs : cells ≤ R.cells ∧ slots ≤ R.slots) (hdg : decode cc pc = .ok (.invokevirtual idx, 3))
    (kk : ∀ (r : Int64) (u : S) (H1 : Heap) (locs1 : List Loc), post r u → B u H1 → (∀ q : Nat, q < H.size → ¬ A1 q → H1[q]? = H[q]?) → va_S A s.heap H1 locs1 → W p l e R s m args below meth c H1 locs1 cells slots Q (F0 m (pc + 3) ls (.long r :: rest))) : W p l e R s m args below meth c H locs cells slots Q (F0 m pc ls st) := by
  obtain ⟨hx, hb, hml, hown, hz, hr, hlk⟩ := zc
  obtain ⟨y1, y2, y3, y4⟩ := ky
  subst hst
  have cw : CallW R s args own C idx y bytes maxL retc (Cond.code y bytes maxL retc :: zb) rm 0 0 n := ⟨callB_of n hz (zb_self y3) rfl hrm.1 hrm.2 (by rw [y1]; exact hz _ y2) (hz _ hl) y4 hR, hz _ k2.1, hz _ k2.2⟩
  exact va_calll (va_runV (As := As) (rest := rest) ⟨hx, hb, hml, hown, hz⟩ hM cw hp rfl hn hsz rfl (lv_room hW) hdg hcs) hS (fun q _ h => hsub q h) hsub (fun r u t H1 locs1 ht _ hpost hB _ hk1 hS1 => kk r u H1 locs1 hpost (ht ▸ hB) hk1 hS1)
theorem zVx_v {S : Type} {post : S → Prop} {B : S → Heap → Prop} {A A1 : Nat → Prop} (As rest : List Value) {st : List Value} (zc : zC p s m args meth c cc nL own ret) (ky : zY C y (Cond.code y bytes maxL retc) n) (k2 : Cond.instanceMethod y ∈ zb ∧ Cond.selects C y y ∈ zb) (hl : Cond.methodLink own idx y ∈ zb) (hM : Met l y (Cond.code y bytes maxL retc :: zb) rm Pc (zQv post B A1) 0 0 A1) (hp : PreV s H C b Pc As) (hS : va_S A s.heap H locs) (hsub : ∀ q, A1 q → A q) (hst : st = As.reverse ++ .ref b :: rest) (hn : As.length = n) (hsz : ls.size = nL) (hW : (rest.map fun v => v.category).sum ≤ 8) (hrm : rm.cells = 0 ∧ rm.slots = 0) (hR : rm.frames + 1 ≤ R.frames ∧ 8 + (maxL + 11) + rm.locals ≤ R.locals) (hcs : cells ≤ R.cells ∧ slots ≤ R.slots) (hdg : decode cc pc = .ok (.invokevirtual idx, 3))
    (kk : ∀ (u : S) (H1 : Heap) (locs1 : List Loc), post u → B u H1 → (∀ q : Nat, q < H.size → ¬ A1 q → H1[q]? = H[q]?) → va_S A s.heap H1 locs1 → W p l e R s m args below meth c H1 locs1 cells slots Q (F0 m (pc + 3) ls rest)) : W p l e R s m args below meth c H locs cells slots Q (F0 m pc ls st) := by
  obtain ⟨hx, hb, hml, hown, hz, hr, hlk⟩ := zc
  obtain ⟨y1, y2, y3, y4⟩ := ky
  subst hst
  have cw : CallW R s args own C idx y bytes maxL retc (Cond.code y bytes maxL retc :: zb) rm 0 0 n := ⟨callB_of n hz (zb_self y3) rfl hrm.1 hrm.2 (by rw [y1]; exact hz _ y2) (hz _ hl) y4 hR, hz _ k2.1, hz _ k2.2⟩
  exact va_callv (va_runV (As := As) (rest := rest) ⟨hx, hb, hml, hown, hz⟩ hM cw hp rfl hn hsz rfl (lv_room hW) hdg hcs) hS (fun q _ h => hsub q h) hsub (fun u t H1 locs1 ht _ hpost hB _ hk1 hS1 => kk u H1 locs1 hpost (ht ▸ hB) hk1 hS1)
/-- the ends -/
theorem zret_i {post : Int32 → Prop} {v : Int32} (zc : zC p s m args meth c cc nL own (some .int)) (hw : post v) (hdg : decode cc pc = .ok (.ireturn, 1)) : W p l e R s m args below meth c s.heap [] cells slots (MQ below (vp_Si post) args s cells slots (fun _ => False)) (F0 m pc ls [.int v]) := by
  obtain ⟨hx, hb, hml, hown, hz, hr, hlk⟩ := zc
  exact W.iret (v := v) hx hb hr (fun t ht hW => ⟨v, rfl, hw, ht⟩) (fun q hq => by cases hq) hdg
theorem zret_z {post : Int32 → Prop} {v : Int32} (zc : zC p s m args meth c cc nL own (some .boolean)) (hn : narrow .boolean (.int v) = .int v) (hw : post v) (hdg : decode cc pc = .ok (.ireturn, 1)) : W p l e R s m args below meth c s.heap [] cells slots (MQ below (vp_Si post) args s cells slots (fun _ => False)) (F0 m pc ls [.int v]) := by
  obtain ⟨hx, hb, hml, hown, hz, hr, hlk⟩ := zc
  exact W.zret (v := v) hx hb hr hn (fun t ht hW => ⟨v, rfl, hw, ht⟩) (fun q hq => by cases hq) hdg
theorem zret_l {post : Int64 → Prop} {v : Int64} (zc : zC p s m args meth c cc nL own (some .long)) (hw : post v) (hdg : decode cc pc = .ok (.lreturn, 1)) : W p l e R s m args below meth c s.heap [] cells slots (MQ below (vp_Sl post) args s cells slots (fun _ => False)) (F0 m pc ls [.long v]) := by
  obtain ⟨hx, hb, hml, hown, hz, hr, hlk⟩ := zc
  exact W.lret (v := v) hx hb hr (fun t ht hW => ⟨v, rfl, hw, ht⟩) (fun q hq => by cases hq) hdg
theorem zret_r {post : Nat → Prop} {ad : Nat → Value} {k : Nat} {rt : FieldType} {v : Value} (zc : zC p s m args meth c cc nL own (some rt)) (hv : ad k = .null ∨ ∃ a, ad k = .ref a) (hw : post k) (hdg : decode cc pc = .ok (.areturn, 1)) (hvk : v = ad k := by rfl) (hrt : (∃ n, rt = .object n) ∨ ∃ t, rt = .array t := by first | exact Or.inl ⟨_, rfl⟩ | exact Or.inr ⟨_, rfl⟩) : W p l e R s m args below meth c s.heap [] cells slots (MQ below (va_Sr post ad) args s cells slots (fun _ => False)) (F0 m pc ls [v]) := by
  obtain ⟨hx, hb, hml, hown, hz, hr, hlk⟩ := zc
  subst hvk
  exact W.aret (v := ad k) hx hb hr hrt hv (fun t ht hW => ⟨k, rfl, hw, ht⟩) (fun q hq => by cases hq) hdg
theorem zret_iw {S : Type} {post : Int32 → S → Prop} {B : S → Heap → Prop} {A : Nat → Prop} {v : Int32} (u : S) (zc : zC p s m args meth c cc nL own (some .int)) (hS : va_S A s.heap H locs) (hw : post v u) (hB : B u H) (hdg : decode cc pc = .ok (.ireturn, 1)) : W p l e R s m args below meth c H locs cells slots (MQ below (zQi post B A) args s cells slots A) (F0 m pc ls [.int v]) := by
  obtain ⟨hx, hb, hml, hown, hz, hr, hlk⟩ := zc
  exact W.iret (v := v) hx hb hr (fun t ht hW => ⟨⟨v, u, rfl, hw, (show B u t.heap from ht.symm ▸ hB)⟩, hS.F ht⟩) hS.2.2 hdg
theorem zret_zw {S : Type} {post : Int32 → S → Prop} {B : S → Heap → Prop} {A : Nat → Prop} {v : Int32} (u : S) (zc : zC p s m args meth c cc nL own (some .boolean)) (hS : va_S A s.heap H locs) (hn : narrow .boolean (.int v) = .int v) (hw : post v u) (hB : B u H) (hdg : decode cc pc = .ok (.ireturn, 1)) : W p l e R s m args below meth c H locs cells slots (MQ below (zQi post B A) args s cells slots A) (F0 m pc ls [.int v]) := by
  obtain ⟨hx, hb, hml, hown, hz, hr, hlk⟩ := zc
  exact W.zret (v := v) hx hb hr hn (fun t ht hW => ⟨⟨v, u, rfl, hw, (show B u t.heap from ht.symm ▸ hB)⟩, hS.F ht⟩) hS.2.2 hdg
theorem zret_lw {S : Type} {post : Int64 → S → Prop} {B : S → Heap → Prop} {A : Nat → Prop} {v : Int64} (u : S) (zc : zC p s m args meth c cc nL own (some .long)) (hS : va_S A s.heap H locs) (hw : post v u) (hB : B u H) (hdg : decode cc pc = .ok (.lreturn, 1)) : W p l e R s m args below meth c H locs cells slots (MQ below (zQl post B A) args s cells slots A) (F0 m pc ls [.long v]) := by
  obtain ⟨hx, hb, hml, hown, hz, hr, hlk⟩ := zc
  exact W.lret (v := v) hx hb hr (fun t ht hW => ⟨⟨v, u, rfl, hw, (show B u t.heap from ht.symm ▸ hB)⟩, hS.F ht⟩) hS.2.2 hdg
theorem zret_vw {S : Type} {post : S → Prop} {B : S → Heap → Prop} {A : Nat → Prop} (u : S) (zc : zC p s m args meth c cc nL own none) (hS : va_S A s.heap H locs) (hw : post u) (hB : B u H) (hdg : decode cc pc = .ok (.return_, 1)) : W p l e R s m args below meth c H locs cells slots (MQ below (zQv post B A) args s cells slots A) (F0 m pc ls []) := by
  obtain ⟨hx, hb, hml, hown, hz, hr, hlk⟩ := zc
  exact W.vret hx hb hr (fun t ht hW => ⟨⟨u, rfl, hw, (show B u t.heap from ht.symm ▸ hB)⟩, hS.F ht⟩) hS.2.2 hdg
theorem zPre0 (As : List Value) : PreS s H (va_Pc As (fun _ => True)) As := ⟨fun _ _ _ _ h => h, fun _ _ _ => ⟨rfl, trivial⟩⟩
end ZW
theorem zin2 {i : Int32} (h : vp_in i 2) (hc : ¬ i = 0) : i = 1 := by
  obtain ⟨j, hj, rfl⟩ := vp_in_of h (by decide)
  match j, hj with
  | 0, _ => exact absurd rfl hc
  | 1, _ => rfl
/-- the cells that a callee leaves alone -/
theorem zkeep {D : va_G} {cl : List vw_C} {wr : va_W} {H H1 : Heap} {A1 : Nat → Prop} (hP : va_P D cl wr H) (hk : ∀ q : Nat, q < H.size → ¬ A1 q → H1[q]? = H[q]?) (as : List Nat) (h : wr.map Prod.fst = as) (hn : ∀ a ∈ as, ¬ A1 a) : va_P D cl wr H1 := by
  subst h
  intro k q hq
  exact (hP k q hq).kept (hk q.1 (hP k q hq).lt (hn _ (List.mem_map_of_mem (List.mem_of_getElem? hq))))
theorem zkl {A1 : Nat → Prop} {b : Nat} {ks : List Nat} {p : Nat → Bool} (h : ks.all p = true) (hn : ∀ k, p k = true → ¬ A1 (b + k)) : ∀ a ∈ ks.map (fun k => b + k), ¬ A1 a := by
  intro a ha
  obtain ⟨k, hk, rfl⟩ := List.mem_map.mp ha
  exact hn k (List.all_eq_true.mp h k hk)
theorem zka {A1 : Nat → Prop} {l1 l2 : List Nat} (h1 : ∀ a ∈ l1, ¬ A1 a) (h2 : ∀ a ∈ l2, ¬ A1 a) : ∀ a ∈ l1 ++ l2, ¬ A1 a := fun a ha => (List.mem_append.mp ha).elim (h1 a) (h2 a)
theorem nd_map {b : Nat} {ks : List Nat} (h : ks.Nodup) : (ks.map (fun k => b + k)).Nodup := List.pairwise_map.mpr (List.Pairwise.imp (fun hne e => hne (Nat.add_left_cancel e)) h)
theorem nd_app {l1 l2 : List Nat} (h1 : l1.Nodup) (h2 : l2.Nodup) (h : ∀ a ∈ l1, ∀ b ∈ l2, a = b → False) : (l1 ++ l2).Nodup := List.pairwise_append.mpr ⟨h1, h2, fun a ha b hb e => h a ha b hb e⟩
theorem mem_mp {b lo hi : Nat} {ks : List Nat} (h : ks.all (fun k => decide (lo ≤ k ∧ k < hi)) = true) {a : Nat} (ha : a ∈ ks.map (fun k => b + k)) : b + lo ≤ a ∧ a < b + hi := by
  obtain ⟨k, hk, e⟩ := List.mem_map.mp ha
  have e1 : b + k = a := e
  have h1 := of_decide_eq_true (List.all_eq_true.mp h k hk)
  omega
def zmix : List Bool → va_W → va_W → va_W
  | true :: m, _ :: ws, v :: vs => v :: zmix m ws vs
  | false :: m, w :: ws, vs => w :: zmix m ws vs
  | _, _, _ => []
def zmixA : List Bool → va_W → List Nat
  | true :: m, _ :: ws => zmixA m ws
  | false :: m, w :: ws => w.1 :: zmixA m ws
  | _, _ => []
theorem vP_mem {D : va_G} {cl : List vw_C} {ws : va_W} {H : Heap} (h : va_P D cl ws H) : ∀ q, q ∈ ws → va_at D cl q H := fun q hq => by
  obtain ⟨k, e⟩ := List.getElem?_of_mem hq
  exact h k q e
theorem vP_of {D : va_G} {cl : List vw_C} {ws : va_W} {H : Heap} (h : ∀ q, q ∈ ws → va_at D cl q H) : va_P D cl ws H := fun _ q e => h q (List.mem_of_getElem? e)
theorem zmix_m {D : va_G} {cl : List vw_C} {H H1 : Heap} {A1 : Nat → Prop} (hk : ∀ q : Nat, q < H.size → ¬ A1 q → H1[q]? = H[q]?) : ∀ (m : List Bool) (ws vs : va_W), (∀ q, q ∈ ws → va_at D cl q H) → (∀ q, q ∈ vs → va_at D cl q H1) → (∀ a, a ∈ zmixA m ws → ¬ A1 a) → ∀ q, q ∈ zmix m ws vs → va_at D cl q H1
  | [], ws, vs, _, _, _, q, hq => by cases ws <;> cases vs <;> cases hq
  | b :: m, [], vs, _, _, _, q, hq => by cases b <;> cases vs <;> cases hq
  | true :: m, w :: ws, [], _, _, _, q, hq => by cases hq
  | true :: m, w :: ws, v :: vs, h, h1, hA, q, hq => by
    have hq' : q ∈ v :: zmix m ws vs := hq
    rcases List.mem_cons.mp hq' with rfl | h9
    · exact h1 _ (List.mem_cons_self ..)
    · exact zmix_m hk m ws vs (fun q hq => h q (List.mem_cons_of_mem _ hq)) (fun q hq => h1 q (List.mem_cons_of_mem _ hq)) hA q h9
  | false :: m, w :: ws, vs, h, h1, hA, q, hq => by
    have hq' : q ∈ w :: zmix m ws vs := by cases vs <;> exact hq
    have hA' : ∀ a, a ∈ w.1 :: zmixA m ws → ¬ A1 a := hA
    rcases List.mem_cons.mp hq' with rfl | h9
    · have g := h _ (List.mem_cons_self ..)
      exact g.kept (hk _ g.lt (hA' _ (List.mem_cons_self ..)))
    · exact zmix_m hk m ws vs (fun q hq => h q (List.mem_cons_of_mem _ hq)) h1 (fun a ha => hA' a (List.mem_cons_of_mem _ ha)) q h9
theorem zmix_P {D : va_G} {cl : List vw_C} {ws vs : va_W} {H H1 : Heap} {A1 : Nat → Prop} (hP : va_P D cl ws H) (h1 : va_P D cl vs H1) (hk : ∀ q : Nat, q < H.size → ¬ A1 q → H1[q]? = H[q]?) (m : List Bool) (as : List Nat) (e : zmixA m ws = as) (hn : ∀ a ∈ as, ¬ A1 a) : va_P D cl (zmix m ws vs) H1 := vP_of (zmix_m hk m ws vs (vP_mem hP) (vP_mem h1) (fun a ha => hn a (e ▸ ha)))
theorem zsw {x : Int32} {lo hi : Int} (h : ¬ (x.toInt < lo ∨ hi < x.toInt)) : lo ≤ x.toInt ∧ x.toInt ≤ hi := by omega
theorem zne {x y : Int32} (h : ¬ x = y) : x.toInt ≠ y.toInt := fun h2 => h (Int32.toInt_inj.mp h2)
def pickC : List Nat → List Cond → List Cond
  | [], _ => []
  | g :: gs, l => match l.drop g with
    | [] => []
    | x :: r => x :: pickC gs r
theorem pick_sub : ∀ (gs : List Nat) (l : List Cond) (w : Cond), w ∈ pickC gs l → w ∈ l
  | [], _, _, h => absurd h (List.not_mem_nil)
  | g :: gs, l, w, h => by
    unfold pickC at h
    cases e : l.drop g with
    | nil => rw [e] at h; exact absurd h (List.not_mem_nil)
    | cons x r =>
      rw [e] at h
      have hx : ∀ z, z ∈ x :: r → z ∈ l := fun z hz => List.mem_of_mem_drop (i := g) (by rw [e]; exact hz)
      rcases List.mem_cons.mp h with h1 | h1
      · exact hx w (List.mem_cons.mpr (Or.inl h1))
      · exact hx w (List.mem_cons.mpr (Or.inr (pick_sub gs r w h1)))
theorem pick_zb {gs : List Nat} {W : List Cond} (h : pickC gs lw_tbl = W) (g : W.all goodWord = true) : ∀ w ∈ W, w ∈ zb := fun w hw => List.mem_filter.mpr ⟨pick_sub gs lw_tbl w (by rw [h]; exact hw), List.all_eq_true.mp g w hw⟩
theorem pk_of {gs : List Nat} {L : List Cond} {n : Nat} {X : Nat → Cond} (h : pickC gs L = (List.range n).map X) : ∀ j, j < n → X j ∈ L := fun j hj => pick_sub gs L _ (by rw [h]; exact List.mem_map.mpr ⟨j, List.mem_range.mpr hj, rfl⟩)
theorem kyn_RX11 : RX11 ≠ "java/lang/invoke/MethodHandle" ∧ RX11 ≠ "java/lang/invoke/VarHandle" := ⟨by decide +kernel, by decide +kernel⟩
theorem kyn_RX2 : RX2 ≠ "java/lang/invoke/MethodHandle" ∧ RX2 ≠ "java/lang/invoke/VarHandle" := ⟨by decide +kernel, by decide +kernel⟩
theorem kyn_RX10 : RX10 ≠ "java/lang/invoke/MethodHandle" ∧ RX10 ≠ "java/lang/invoke/VarHandle" := ⟨by decide +kernel, by decide +kernel⟩
theorem kyn_RX0 : RX0 ≠ "java/lang/invoke/MethodHandle" ∧ RX0 ≠ "java/lang/invoke/VarHandle" := ⟨by decide +kernel, by decide +kernel⟩
theorem kyn_RJ7 : RJ7 ≠ "java/lang/invoke/MethodHandle" ∧ RJ7 ≠ "java/lang/invoke/VarHandle" := ⟨by decide +kernel, by decide +kernel⟩
theorem kyn_RX3 : RX3 ≠ "java/lang/invoke/MethodHandle" ∧ RX3 ≠ "java/lang/invoke/VarHandle" := ⟨by decide +kernel, by decide +kernel⟩
theorem kyn_RX7 : RX7 ≠ "java/lang/invoke/MethodHandle" ∧ RX7 ≠ "java/lang/invoke/VarHandle" := ⟨by decide +kernel, by decide +kernel⟩
theorem kyn_RJ6 : RJ6 ≠ "java/lang/invoke/MethodHandle" ∧ RJ6 ≠ "java/lang/invoke/VarHandle" := ⟨by decide +kernel, by decide +kernel⟩
theorem kyn_RX8 : RX8 ≠ "java/lang/invoke/MethodHandle" ∧ RX8 ≠ "java/lang/invoke/VarHandle" := ⟨by decide +kernel, by decide +kernel⟩
theorem kyn_RJ0 : RJ0 ≠ "java/lang/invoke/MethodHandle" ∧ RJ0 ≠ "java/lang/invoke/VarHandle" := ⟨by decide +kernel, by decide +kernel⟩
theorem kyn_RJ1 : RJ1 ≠ "java/lang/invoke/MethodHandle" ∧ RJ1 ≠ "java/lang/invoke/VarHandle" := ⟨by decide +kernel, by decide +kernel⟩
theorem kyn_RJ3 : RJ3 ≠ "java/lang/invoke/MethodHandle" ∧ RJ3 ≠ "java/lang/invoke/VarHandle" := ⟨by decide +kernel, by decide +kernel⟩
theorem kyn_RX4 : RX4 ≠ "java/lang/invoke/MethodHandle" ∧ RX4 ≠ "java/lang/invoke/VarHandle" := ⟨by decide +kernel, by decide +kernel⟩
theorem kyn_RX1 : RX1 ≠ "java/lang/invoke/MethodHandle" ∧ RX1 ≠ "java/lang/invoke/VarHandle" := ⟨by decide +kernel, by decide +kernel⟩
theorem kyn_RX6 : RX6 ≠ "java/lang/invoke/MethodHandle" ∧ RX6 ≠ "java/lang/invoke/VarHandle" := ⟨by decide +kernel, by decide +kernel⟩
theorem kyn_RX5 : RX5 ≠ "java/lang/invoke/MethodHandle" ∧ RX5 ≠ "java/lang/invoke/VarHandle" := ⟨by decide +kernel, by decide +kernel⟩
theorem kyn_RX9 : RX9 ≠ "java/lang/invoke/MethodHandle" ∧ RX9 ≠ "java/lang/invoke/VarHandle" := ⟨by decide +kernel, by decide +kernel⟩
theorem kyd_0 : (parseMethodDescriptor "(II)Z").map (fun d => d.parameters.length) = some 2 := by decide +kernel
theorem kyd_1 : (parseMethodDescriptor "([IIII)V").map (fun d => d.parameters.length) = some 4 := by decide +kernel
theorem kyd_2 : (parseMethodDescriptor "(III)Z").map (fun d => d.parameters.length) = some 3 := by decide +kernel
theorem kyd_3 : (parseMethodDescriptor "(I)V").map (fun d => d.parameters.length) = some 1 := by decide +kernel
theorem kyd_4 : (parseMethodDescriptor "()I").map (fun d => d.parameters.length) = some 0 := by decide +kernel
theorem kyd_5 : (parseMethodDescriptor "()Z").map (fun d => d.parameters.length) = some 0 := by decide +kernel
theorem kyd_6 : (parseMethodDescriptor "(II)V").map (fun d => d.parameters.length) = some 2 := by decide +kernel
theorem kyd_7 : (parseMethodDescriptor "()V").map (fun d => d.parameters.length) = some 0 := by decide +kernel
theorem kyd_8 : (parseMethodDescriptor "(IIII)Z").map (fun d => d.parameters.length) = some 4 := by decide +kernel
theorem kyd_9 : (parseMethodDescriptor "(II)I").map (fun d => d.parameters.length) = some 2 := by decide +kernel
theorem kyd_10 : (parseMethodDescriptor "(J)Z").map (fun d => d.parameters.length) = some 1 := by decide +kernel
theorem kyd_11 : (parseMethodDescriptor "(III)V").map (fun d => d.parameters.length) = some 3 := by decide +kernel
theorem kyd_12 : (parseMethodDescriptor "(I)Z").map (fun d => d.parameters.length) = some 1 := by decide +kernel
theorem kyd_13 : (parseMethodDescriptor "(J)I").map (fun d => d.parameters.length) = some 1 := by decide +kernel
theorem kyd_14 : (parseMethodDescriptor "(JI)Z").map (fun d => d.parameters.length) = some 2 := by decide +kernel
theorem kyd_15 : (parseMethodDescriptor "(IJI)Z").map (fun d => d.parameters.length) = some 3 := by decide +kernel
theorem kyd_16 : (parseMethodDescriptor "([III)V").map (fun d => d.parameters.length) = some 3 := by decide +kernel
theorem kyd_17 : (parseMethodDescriptor "(I)I").map (fun d => d.parameters.length) = some 1 := by decide +kernel
theorem kyd_18 : (parseMethodDescriptor "(IIZ)V").map (fun d => d.parameters.length) = some 3 := by decide +kernel
theorem kyd_19 : (parseMethodDescriptor "(I)J").map (fun d => d.parameters.length) = some 1 := by decide +kernel
theorem kyd_20 : (parseMethodDescriptor "(III)I").map (fun d => d.parameters.length) = some 3 := by decide +kernel
theorem kyd_21 : (parseMethodDescriptor "([II)V").map (fun d => d.parameters.length) = some 2 := by decide +kernel
theorem kyd_22 : (parseMethodDescriptor "(LDownhillSong$Land;I)I").map (fun d => d.parameters.length) = some 2 := by decide +kernel
theorem kyd_23 : (parseMethodDescriptor "(LDownhillSong$Land;I)Z").map (fun d => d.parameters.length) = some 2 := by decide +kernel
theorem kyd_24 : (parseMethodDescriptor "(LDownhillSong$Land;III)Z").map (fun d => d.parameters.length) = some 4 := by decide +kernel
theorem kyd_25 : (parseMethodDescriptor "(LDownhillSong$Land;II)Z").map (fun d => d.parameters.length) = some 3 := by decide +kernel
theorem kyd_26 : (parseMethodDescriptor "(LDownhillSong$Land;)V").map (fun d => d.parameters.length) = some 1 := by decide +kernel
theorem kyd_27 : (parseMethodDescriptor "(I[II)I").map (fun d => d.parameters.length) = some 3 := by decide +kernel
theorem kyd_28 : (parseMethodDescriptor "(LDownhillSong$Land;)I").map (fun d => d.parameters.length) = some 1 := by decide +kernel
theorem kyd_29 : (parseMethodDescriptor "(LDownhillSong$Land;II)I").map (fun d => d.parameters.length) = some 3 := by decide +kernel
theorem kyd_30 : (parseMethodDescriptor "(LDownhillSong$Land;I)V").map (fun d => d.parameters.length) = some 2 := by decide +kernel
theorem kyd_31 : (parseMethodDescriptor "(LDownhillSong$Sight;I)Z").map (fun d => d.parameters.length) = some 2 := by decide +kernel
theorem kyd_32 : (parseMethodDescriptor "(LDownhillSong$Land;III)I").map (fun d => d.parameters.length) = some 4 := by decide +kernel
theorem kyd_33 : (parseMethodDescriptor "()B").map (fun d => d.parameters.length) = some 0 := by decide +kernel
theorem kyd_34 : (parseMethodDescriptor "(I)C").map (fun d => d.parameters.length) = some 1 := by decide +kernel
theorem kyd_35 : (parseMethodDescriptor "([BI)C").map (fun d => d.parameters.length) = some 2 := by decide +kernel
theorem kyd_36 : (parseMethodDescriptor "(IILjava/util/function/BiFunction;)I").map (fun d => d.parameters.length) = some 3 := by decide +kernel
theorem kyd_37 : (parseMethodDescriptor "(I)Ljava/lang/String;").map (fun d => d.parameters.length) = some 1 := by decide +kernel
theorem kyd_38 : (parseMethodDescriptor "(B)Z").map (fun d => d.parameters.length) = some 1 := by decide +kernel
theorem kyd_39 : (parseMethodDescriptor "(Ljava/lang/String;)Z").map (fun d => d.parameters.length) = some 1 := by decide +kernel
theorem kyd_40 : (parseMethodDescriptor "(IIII)V").map (fun d => d.parameters.length) = some 4 := by decide +kernel
theorem kyd_41 : (parseMethodDescriptor "(LDownhillSong$Choir;)V").map (fun d => d.parameters.length) = some 1 := by decide +kernel
theorem kyd_42 : (parseMethodDescriptor "()[I").map (fun d => d.parameters.length) = some 0 := by decide +kernel
theorem kyd_43 : (parseMethodDescriptor "([III)I").map (fun d => d.parameters.length) = some 3 := by decide +kernel
theorem kyd_44 : (parseMethodDescriptor "([IIII)I").map (fun d => d.parameters.length) = some 4 := by decide +kernel
theorem kyd_45 : (parseMethodDescriptor "(LDownhillSong$Sight;)V").map (fun d => d.parameters.length) = some 1 := by decide +kernel
theorem kyd_46 : (parseMethodDescriptor "(LDownhillSong$Evening;)V").map (fun d => d.parameters.length) = some 1 := by decide +kernel
theorem kyd_47 : (parseMethodDescriptor "([BII)V").map (fun d => d.parameters.length) = some 3 := by decide +kernel
theorem kyd_48 : (parseMethodDescriptor "(I)LDownhillSong$Land;").map (fun d => d.parameters.length) = some 1 := by decide +kernel
theorem kyd_49 : (parseMethodDescriptor "(I)LDownhillSong$Evening;").map (fun d => d.parameters.length) = some 1 := by decide +kernel
theorem kyd_50 : (parseMethodDescriptor "(LDownhillSong$Land;LDownhillSong$Evening;I)I").map (fun d => d.parameters.length) = some 3 := by decide +kernel
theorem kyd_51 : (parseMethodDescriptor "(I)LDownhillSong$Sight;").map (fun d => d.parameters.length) = some 1 := by decide +kernel
theorem kyd_52 : (parseMethodDescriptor "(LDownhillSong$Land;LDownhillSong$Sight;)I").map (fun d => d.parameters.length) = some 2 := by decide +kernel
theorem kyd_53 : (parseMethodDescriptor "(I)LDownhillSong$Choir;").map (fun d => d.parameters.length) = some 1 := by decide +kernel
theorem kyd_54 : (parseMethodDescriptor "(II)J").map (fun d => d.parameters.length) = some 2 := by decide +kernel
theorem kyd_55 : (parseMethodDescriptor "(LDownhillSong$Land;II)V").map (fun d => d.parameters.length) = some 3 := by decide +kernel
theorem kyd_56 : (parseMethodDescriptor "(LDownhillSong$Land;[IIIZ)I").map (fun d => d.parameters.length) = some 5 := by decide +kernel
theorem kyd_57 : (parseMethodDescriptor "(LDownhillSong$Land;IZ)I").map (fun d => d.parameters.length) = some 3 := by decide +kernel
theorem kyd_58 : (parseMethodDescriptor "(LDownhillSong$Choir;)I").map (fun d => d.parameters.length) = some 1 := by decide +kernel
theorem kyd_59 : (parseMethodDescriptor "(LDownhillSong$Choir;I)I").map (fun d => d.parameters.length) = some 2 := by decide +kernel
theorem kyd_60 : (parseMethodDescriptor "(LDownhillSong$Told;)V").map (fun d => d.parameters.length) = some 1 := by decide +kernel
theorem kyd_61 : (parseMethodDescriptor "(IZ)I").map (fun d => d.parameters.length) = some 2 := by decide +kernel
theorem kyd_62 : (parseMethodDescriptor "(IIZ)I").map (fun d => d.parameters.length) = some 3 := by decide +kernel
theorem kyd_63 : (parseMethodDescriptor "(IIII)I").map (fun d => d.parameters.length) = some 4 := by decide +kernel
theorem kyd_64 : (parseMethodDescriptor "(IIIII)I").map (fun d => d.parameters.length) = some 5 := by decide +kernel
theorem kyd_65 : (parseMethodDescriptor "(IIIZ)I").map (fun d => d.parameters.length) = some 4 := by decide +kernel
theorem kyd_66 : (parseMethodDescriptor "(III)J").map (fun d => d.parameters.length) = some 3 := by decide +kernel
