
def zQr {S : Type} (post : S → Prop) (B : S → Nat → Heap → Prop) (A : Nat → Prop) : Array Value → State → Outcome → State → Prop := va_Qr post (fun u a t => B u a t.heap) A
theorem zVa_i {p : Program} {l : Launch} {e : Env} {R : Room} {s : State} {m : MethodId} {args : Array Value} {below : List Frame} {meth : Method} {c : Code} {H : Heap} {locs : List Loc} {cells slots : Nat} {Q : State → Prop} {cc : ByteArray} {pc nL : Nat} {ls : Array Slot} {own C : String} {ret : Option FieldType} {y : MethodName} {bytes : ByteArray} {maxL n idx mc ms : Nat} {retc : Option FieldType} {rm : Room} {Pc : Array Value → State → Prop} {b : Addr} {S : Type} {post : Int32 → S → Prop} {B : S → Heap → Prop} {A A1 : Nat → Prop} (As rest : List Value) {st : List Value} (zc : zC p s m args meth c cc nL own ret) (ky : zY C y (Cond.code y bytes maxL retc) n) (k2 : Cond.instanceMethod y ∈ zb ∧ Cond.selects C y y ∈ zb) (hl : Cond.methodLink own idx y ∈ zb) (hM : Met l y (Cond.code y bytes maxL retc :: zb) rm Pc (zQi post B A1) mc ms A1) (hp : PreV s H C b Pc As) (hS : va_S A s.heap H locs) (hsub : ∀ q, A1 q → A q) (hst : st = As.reverse ++ .ref b :: rest) (hn : As.length = n) (hsz : ls.size = nL) (hW : (rest.map fun v => v.category).sum ≤ 8) (hrm : rm.cells = mc ∧ rm.slots = ms) (hR : rm.frames + 1 ≤ R.frames ∧ 8 + (maxL + 11) + rm.locals ≤ R.locals) (hcs : cells + mc ≤ R.cells ∧ slots + ms ≤ R.slots) (hdg : decode cc pc = .ok (.invokevirtual idx, 3))
    (kk : ∀ (r : Int32) (u : S) (H1 : Heap) (locs1 : List Loc), post r u → B u H1 → H.size ≤ H1.size → (∀ q : Nat, q < H.size → ¬ A1 q → H1[q]? = H[q]?) → va_S A s.heap H1 locs1 → W p l e R s m args below meth c H1 locs1 (cells + mc) (slots + ms) Q (F0 m (pc + 3) ls (.int r :: rest))) : W p l e R s m args below meth c H locs cells slots Q (F0 m pc ls st) := by
  obtain ⟨hx, hb, hml, hown, hz, hr, hlk⟩ := zc
  obtain ⟨y1, y2, y3, y4⟩ := ky
  subst hst
  have cw : CallW R s args own C idx y bytes maxL retc (Cond.code y bytes maxL retc :: zb) rm mc ms n := ⟨callB_of n hz (zb_self y3) rfl hrm.1 hrm.2 (by rw [y1]; exact hz _ y2) (hz _ hl) y4 hR, hz _ k2.1, hz _ k2.2⟩
  exact va_calli (va_runV (As := As) (rest := rest) ⟨hx, hb, hml, hown, hz⟩ hM cw hp rfl hn hsz rfl (lv_room hW) hdg hcs) hS (fun q _ h => hsub q h) hsub (fun r u t H1 locs1 ht _ hpost hB hsz1 hk1 hS1 => kk r u H1 locs1 hpost (ht ▸ hB) hsz1 hk1 hS1)
theorem zVa_l {p : Program} {l : Launch} {e : Env} {R : Room} {s : State} {m : MethodId} {args : Array Value} {below : List Frame} {meth : Method} {c : Code} {H : Heap} {locs : List Loc} {cells slots : Nat} {Q : State → Prop} {cc : ByteArray} {pc nL : Nat} {ls : Array Slot} {own C : String} {ret : Option FieldType} {y : MethodName} {bytes : ByteArray} {maxL n idx mc ms : Nat} {retc : Option FieldType} {rm : Room} {Pc : Array Value → State → Prop} {b : Addr} {S : Type} {post : Int64 → S → Prop} {B : S → Heap → Prop} {A A1 : Nat → Prop} (As rest : List Value) {st : List Value} (zc : zC p s m args meth c cc nL own ret) (ky : zY C y (Cond.code y bytes maxL retc) n) (k2 : Cond.instanceMethod y ∈ zb ∧ Cond.selects C y y ∈ zb) (hl : Cond.methodLink own idx y ∈ zb) (hM : Met l y (Cond.code y bytes maxL retc :: zb) rm Pc (zQl post B A1) mc ms A1) (hp : PreV s H C b Pc As) (hS : va_S A s.heap H locs) (hsub : ∀ q, A1 q → A q) (hst : st = As.reverse ++ .ref b :: rest) (hn : As.length = n) (hsz : ls.size = nL) (hW : (rest.map fun v => v.category).sum ≤ 8) (hrm : rm.cells = mc ∧ rm.slots = ms) (hR : rm.frames + 1 ≤ R.frames ∧ 8 + (maxL + 11) + rm.locals ≤ R.locals) (hcs : cells + mc ≤ R.cells ∧ slots + ms ≤ R.slots) (hdg : decode cc pc = .ok (.invokevirtual idx, 3))
    (kk : ∀ (r : Int64) (u : S) (H1 : Heap) (locs1 : List Loc), post r u → B u H1 → H.size ≤ H1.size → (∀ q : Nat, q < H.size → ¬ A1 q → H1[q]? = H[q]?) → va_S A s.heap H1 locs1 → W p l e R s m args below meth c H1 locs1 (cells + mc) (slots + ms) Q (F0 m (pc + 3) ls (.long r :: rest))) : W p l e R s m args below meth c H locs cells slots Q (F0 m pc ls st) := by
  obtain ⟨hx, hb, hml, hown, hz, hr, hlk⟩ := zc
  obtain ⟨y1, y2, y3, y4⟩ := ky
  subst hst
  have cw : CallW R s args own C idx y bytes maxL retc (Cond.code y bytes maxL retc :: zb) rm mc ms n := ⟨callB_of n hz (zb_self y3) rfl hrm.1 hrm.2 (by rw [y1]; exact hz _ y2) (hz _ hl) y4 hR, hz _ k2.1, hz _ k2.2⟩
  exact va_calll (va_runV (As := As) (rest := rest) ⟨hx, hb, hml, hown, hz⟩ hM cw hp rfl hn hsz rfl (lv_room hW) hdg hcs) hS (fun q _ h => hsub q h) hsub (fun r u t H1 locs1 ht _ hpost hB hsz1 hk1 hS1 => kk r u H1 locs1 hpost (ht ▸ hB) hsz1 hk1 hS1)
theorem zVa_v {p : Program} {l : Launch} {e : Env} {R : Room} {s : State} {m : MethodId} {args : Array Value} {below : List Frame} {meth : Method} {c : Code} {H : Heap} {locs : List Loc} {cells slots : Nat} {Q : State → Prop} {cc : ByteArray} {pc nL : Nat} {ls : Array Slot} {own C : String} {ret : Option FieldType} {y : MethodName} {bytes : ByteArray} {maxL n idx mc ms : Nat} {retc : Option FieldType} {rm : Room} {Pc : Array Value → State → Prop} {b : Addr} {S : Type} {post : S → Prop} {B : S → Heap → Prop} {A A1 : Nat → Prop} (As rest : List Value) {st : List Value} (zc : zC p s m args meth c cc nL own ret) (ky : zY C y (Cond.code y bytes maxL retc) n) (k2 : Cond.instanceMethod y ∈ zb ∧ Cond.selects C y y ∈ zb) (hl : Cond.methodLink own idx y ∈ zb) (hM : Met l y (Cond.code y bytes maxL retc :: zb) rm Pc (zQv post B A1) mc ms A1) (hp : PreV s H C b Pc As) (hS : va_S A s.heap H locs) (hsub : ∀ q, A1 q → A q) (hst : st = As.reverse ++ .ref b :: rest) (hn : As.length = n) (hsz : ls.size = nL) (hW : (rest.map fun v => v.category).sum ≤ 8) (hrm : rm.cells = mc ∧ rm.slots = ms) (hR : rm.frames + 1 ≤ R.frames ∧ 8 + (maxL + 11) + rm.locals ≤ R.locals) (hcs : cells + mc ≤ R.cells ∧ slots + ms ≤ R.slots) (hdg : decode cc pc = .ok (.invokevirtual idx, 3))
    (kk : ∀ (u : S) (H1 : Heap) (locs1 : List Loc), post u → B u H1 → H.size ≤ H1.size → (∀ q : Nat, q < H.size → ¬ A1 q → H1[q]? = H[q]?) → va_S A s.heap H1 locs1 → W p l e R s m args below meth c H1 locs1 (cells + mc) (slots + ms) Q (F0 m (pc + 3) ls rest)) : W p l e R s m args below meth c H locs cells slots Q (F0 m pc ls st) := by
  obtain ⟨hx, hb, hml, hown, hz, hr, hlk⟩ := zc
  obtain ⟨y1, y2, y3, y4⟩ := ky
  subst hst
  have cw : CallW R s args own C idx y bytes maxL retc (Cond.code y bytes maxL retc :: zb) rm mc ms n := ⟨callB_of n hz (zb_self y3) rfl hrm.1 hrm.2 (by rw [y1]; exact hz _ y2) (hz _ hl) y4 hR, hz _ k2.1, hz _ k2.2⟩
  exact va_callv (va_runV (As := As) (rest := rest) ⟨hx, hb, hml, hown, hz⟩ hM cw hp rfl hn hsz rfl (lv_room hW) hdg hcs) hS (fun q _ h => hsub q h) hsub (fun u t H1 locs1 ht _ hpost hB hsz1 hk1 hS1 => kk u H1 locs1 hpost (ht ▸ hB) hsz1 hk1 hS1)
theorem zVa_r {p : Program} {l : Launch} {e : Env} {R : Room} {s : State} {m : MethodId} {args : Array Value} {below : List Frame} {meth : Method} {c : Code} {H : Heap} {locs : List Loc} {cells slots : Nat} {Q : State → Prop} {cc : ByteArray} {pc nL : Nat} {ls : Array Slot} {own C : String} {ret : Option FieldType} {y : MethodName} {bytes : ByteArray} {maxL n idx mc ms : Nat} {retc : Option FieldType} {rm : Room} {Pc : Array Value → State → Prop} {b : Addr} {S : Type} {post : S → Prop} {B : S → Nat → Heap → Prop} {A A1 : Nat → Prop} (As rest : List Value) {st : List Value} (zc : zC p s m args meth c cc nL own ret) (ky : zY C y (Cond.code y bytes maxL retc) n) (k2 : Cond.instanceMethod y ∈ zb ∧ Cond.selects C y y ∈ zb) (hl : Cond.methodLink own idx y ∈ zb) (hM : Met l y (Cond.code y bytes maxL retc :: zb) rm Pc (zQr post B A1) mc ms A1) (hp : PreV s H C b Pc As) (hS : va_S A s.heap H locs) (hsub : ∀ q, A1 q → A q) (hst : st = As.reverse ++ .ref b :: rest) (hn : As.length = n) (hsz : ls.size = nL) (hW : (rest.map fun v => v.category).sum ≤ 8) (hrm : rm.cells = mc ∧ rm.slots = ms) (hR : rm.frames + 1 ≤ R.frames ∧ 8 + (maxL + 11) + rm.locals ≤ R.locals) (hcs : cells + mc ≤ R.cells ∧ slots + ms ≤ R.slots) (hdg : decode cc pc = .ok (.invokevirtual idx, 3))
    (kk : ∀ (u : S) (ra : Nat) (H1 : Heap) (locs1 : List Loc), post u → B u ra H1 → H.size ≤ H1.size → (∀ q : Nat, q < H.size → ¬ A1 q → H1[q]? = H[q]?) → va_S A s.heap H1 locs1 → W p l e R s m args below meth c H1 locs1 (cells + mc) (slots + ms) Q (F0 m (pc + 3) ls (.ref ra :: rest))) : W p l e R s m args below meth c H locs cells slots Q (F0 m pc ls st) := by
  obtain ⟨hx, hb, hml, hown, hz, hr, hlk⟩ := zc
  obtain ⟨y1, y2, y3, y4⟩ := ky
  subst hst
  have cw : CallW R s args own C idx y bytes maxL retc (Cond.code y bytes maxL retc :: zb) rm mc ms n := ⟨callB_of n hz (zb_self y3) rfl hrm.1 hrm.2 (by rw [y1]; exact hz _ y2) (hz _ hl) y4 hR, hz _ k2.1, hz _ k2.2⟩
  exact va_callr (va_runV (As := As) (rest := rest) ⟨hx, hb, hml, hown, hz⟩ hM cw hp rfl hn hsz rfl (lv_room hW) hdg hcs) hS (fun q _ h => hsub q h) hsub (fun u ra t H1 locs1 ht _ hpost hB hsz1 hk1 hS1 => kk u ra H1 locs1 hpost (ht ▸ hB) hsz1 hk1 hS1)
section ZK
variable {p : Program} {l : Launch} {e : Env} {R : Room} {s : State} {m : MethodId} {args : Array Value} {below : List Frame} {meth : Method} {c : Code} {H : Heap} {locs : List Loc} {cells slots : Nat} {Q : State → Prop} {cc : ByteArray} {pc nL : Nat} {ls : Array Slot} {own : String} {ret : Option FieldType} {g : JFrame}
theorem zret_ar {S : Type} {post : S → Prop} {B : S → Nat → Heap → Prop} {A : Nat → Prop} {a : Nat} {rt : FieldType} (u : S) (zc : zC p s m args meth c cc nL own (some rt)) (hS : va_S A s.heap H locs) (hw : post u) (hB : B u a H) (hrt : (∃ n, rt = .object n) ∨ ∃ t, rt = .array t) (hdg : decode cc pc = .ok (.areturn, 1)) : W p l e R s m args below meth c H locs cells slots (MQ below (zQr post B A) args s cells slots A) (F0 m pc ls [.ref a]) := by
  obtain ⟨hx, hb, hml, hown, hz, hr, hlk⟩ := zc
  exact W.aret (v := .ref a) hx hb hr hrt (Or.inr ⟨a, rfl⟩) (fun t ht hW => ⟨⟨u, a, rfl, hw, (show B u a t.heap from ht.symm ▸ hB)⟩, hS.F ht⟩) hS.2.2 hdg
/-- a weaker end -/
theorem zW_cons {Q1 Q2 : Array Value → State → Outcome → State → Prop} {A1 A2 : Nat → Prop} {k n : Nat} (h : W p l e R s m args below meth c H locs cells slots (MQ below Q1 args s k n A1) g) (hQ : ∀ o t, Q1 args s o t → Q2 args s o t) (hA : ∀ q, A1 q → A2 q) : W p l e R s m args below meth c H locs cells slots (MQ below Q2 args s k n A2) g := by
  intro T hT X
  obtain ⟨t, st, o, h1, h2, h3, L, h4, h5⟩ := h T hT X
  exact ⟨t, st, o, h1, h2, hQ _ _ h3, L, h4, fun q hq => hA _ (h5 q hq)⟩
/-- what is new need not be told -/
theorem zW_chg {A A2 : Nat → Prop} (hS : va_S A s.heap H locs) (hA : ∀ q, q < s.heap.size → A q → A2 q) (k : ∀ locs1, va_S A2 s.heap H locs1 → W p l e R s m args below meth c H locs1 cells slots Q g) : W p l e R s m args below meth c H locs cells slots Q g := by
  intro T hT X
  refine k (locs.filter (fun y => decide (y.base < s.heap.size))) ⟨hS.1, fun q h1 h2 => hS.2.1 q h1 (fun h3 => h2 (hA q h1 h3)), fun y hy => ?_⟩ T hT { X with same := X.same.weaken (fun y hy hlt => List.mem_filter.mpr ⟨hy, by simpa using hlt⟩) (Nat.le_refl _) (Nat.le_refl _) }
  have h1 := List.mem_filter.mp hy
  exact hA _ (by simpa using h1.2) (hS.2.2 y h1.1)
theorem va_F_mono {A1 A2 : Nat → Prop} {st t : State} (h : va_F A1 st t) (hA : ∀ q, A1 q → A2 q) : va_F A2 st t := ⟨h.1, fun q h1 h2 => h.2 q h1 (fun h3 => h2 (hA q h3))⟩
end ZK
def k0A (qk qc h : Nat) : Nat → Prop := fun q => wk0A qk qc q ∨ h ≤ q
def k0T (E : zE) (a : Nat) (t : Nat → Int32) (H : Heap) : Prop := va_P E.1 zcl [(a, .inl (E.2 1, 4608, .inl t))] H
def k0B (E : zE) (qk qc h : Nat) (cf_voices cf_step : Int32) (ca_parts ca_heights : Nat → Int32) (H : Heap) : Prop := ∃ a g bh t, h ≤ a ∧ wk0W E qk qc (some a) g bh cf_voices cf_step ca_parts ca_heights H ∧ k0T E a t H ∧ ∀ j, iv 0 511 (bh j)
def k0P (E : zE) (qk qc h : Nat) (a_gaps a_behind : Nat → Int32) (cf_voices cf_step : Int32) (ca_parts ca_heights : Nat → Int32) (U : State) : Prop := h ≤ U.heap.size ∧ wk0W E qk qc none a_gaps a_behind cf_voices cf_step ca_parts ca_heights U.heap ∧ zK E U
def k0Q (E : zE) (qk qc h : Nat) (a_gaps a_behind : Nat → Int32) (cf_voices cf_step : Int32) (ca_parts ca_heights : Nat → Int32) (U : State) : Prop := U.heap.size = h ∧ wk0W E qk qc none a_gaps a_behind cf_voices cf_step ca_parts ca_heights U.heap ∧ zK E U
theorem k0PreV {E : zE} {qk qc h : Nat} {a_gaps a_behind : Nat → Int32} {cf_voices cf_step : Int32} {ca_parts ca_heights : Nat → Int32} {s : State} {H : Heap} {As : List Value} (hh : h ≤ H.size) (hM : wk0W E qk qc none a_gaps a_behind cf_voices cf_step ca_parts ca_heights H) (hK : zK E s) : PreV s H RX5 qk (va_Pc (.ref qk :: As) (k0P E qk qc h a_gaps a_behind cf_voices cf_step ca_parts ca_heights)) As := ⟨fun _ _ _ _ h => ⟨h.1, h.2.1, h.2.2.1, zK_calling h.2.2.2⟩, va_recv hK.1 hM.1 (ci := 5) (q0 := 0) rfl rfl, fun U hU hW => ⟨rfl, by rw [hU]; exact hh, by rw [hU]; exact hM, zK_moved hW hK⟩⟩
theorem k0PreQ {E : zE} {qk qc h : Nat} {a_gaps a_behind : Nat → Int32} {cf_voices cf_step : Int32} {ca_parts ca_heights : Nat → Int32} {s : State} {H : Heap} {As : List Value} (hh : H.size = h) (hM : wk0W E qk qc none a_gaps a_behind cf_voices cf_step ca_parts ca_heights H) (hK : zK E s) : PreV s H RX5 qk (va_Pc (.ref qk :: As) (k0Q E qk qc h a_gaps a_behind cf_voices cf_step ca_parts ca_heights)) As := ⟨fun _ _ _ _ h => ⟨h.1, h.2.1, h.2.2.1, zK_calling h.2.2.2⟩, va_recv hK.1 hM.1 (ci := 5) (q0 := 0) rfl rfl, fun U hU hW => ⟨rfl, by rw [hU]; exact hh, by rw [hU]; exact hM, zK_moved hW hK⟩⟩
set_option maxRecDepth 20000 in
theorem k0_split {E : zE} {qk qc a : Nat} {a_gaps a_behind : Nat → Int32} {cf_voices cf_step : Int32} {ca_parts ca_heights : Nat → Int32} {z_tab : Nat → Int32} {H : Heap} (h : wkW E qk qc a a_gaps a_behind cf_voices cf_step ca_parts ca_heights z_tab H) : wk0W E qk qc (some a) a_gaps a_behind cf_voices cf_step ca_parts ca_heights H ∧ k0T E a z_tab H := ⟨⟨va_P.sub h.1 [0, 1, 2, 3, 4, 5] rfl, by have := h.2; unfold wkQ at this; unfold wk0Q; omega⟩, va_P.sub h.1 [6] rfl⟩
abbrev rm0_table : Room := { frames := 0, cells := 1, slots := 4608, locals := 0 }
set_option maxRecDepth 40000 in
set_option maxHeartbeats 4000000 in
theorem c0_table (l : Launch) {E : zE} {qk qc h : Nat} {a_gaps a_behind : Nat → Int32} {cf_voices cf_step : Int32} {ca_parts ca_heights : Nat → Int32}  : Met l yX5_table (Cond.code yX5_table cX5_table 1 (some (.array .int)) :: zb) rm0_table (va_Pc [.ref qk] (k0P E qk qc h a_gaps a_behind cf_voices cf_step ca_parts ca_heights)) (zQr (S := Unit) (fun _ => True) (fun _ a H => h ≤ a ∧ wkW E qk qc a a_gaps a_behind cf_voices cf_step ca_parts ca_heights (fun _ => 0) H) (k0A qk qc h)) 1 4608 (k0A qk qc h) := by
  refine Met.ofW (cc := cX5_table) (maxL := 1) (ret := (some (.array .int))) (by decide) rfl ?_
  intro p e s m args below meth c s₁ B hml hv
  obtain ⟨rfl, hh, hM, hK⟩ := hv
  have zc := zc_of B hml
  have hx := zc.1
  have hb := zc.2.1
  have hz := zc.2.2.2.2.1
  have hS : va_S (k0A qk qc h) s.heap s.heap [] := va_S.rf
  have hl := lv_entry ([.ref qk]) (n := 1) (Nat.le_of_ble_eq_true rfl)
  rw [lg_entry_eq]
  generalize (lg_sl ([.ref qk]) ++ List.replicate (1 - (lg_sl ([.ref qk])).length) Slot.unset).toArray = ls at hl ⊢
  have hl : lv_has ls 1 [(0, .ref qk)] := hl
  refine lv_aload_n hx hb dX5_table_0 rfl (lv_at hl 0 rfl) ?_
  refine va_get (D := E.1) (ci := 5) (v := .null) (C := RX5) (T := TX5) (N := 3) hx hb hz uw5 zc.2.2.2.1 hK.1 hM.1 0 rfl rfl 0 (by decide) (hz _ kf_5_66) (fun _ h9 => h9) rfl dX5_table_1 ?_
  refine lv_ifnonnullN hx hb dX5_table_4 ?_
  refine lv_aload_n hx hb dX5_table_7 rfl (lv_at hl 0 rfl) ?_
  refine lv_sipush (v := (4608 : Int32)) hx hb dX5_table_8 (by decide) ?_
  obtain ⟨a, ha⟩ : ∃ a, a = s.heap.size := ⟨_, rfl⟩
  have b1 := (hM.1 2 _ rfl).lt
  have b2 := (hM.1 5 _ rfl).lt
  refine zNewa (ws := wk0L E qk qc none a_gaps a_behind cf_voices cf_step ca_parts ca_heights) (atype := .int) (t := 1) (N := 4608) (a0 := (4608, .inl (fun _ => 0))) zc hK hM.1 hS ha.symm kac_I rfl (fun _ => rfl) (by decide) (by decide) (by decide) (Nat.le_of_ble_eq_true rfl) (Nat.le_of_ble_eq_true rfl) dX5_table_11 (fun H1 hN o1 hz1 hS => ?_)
  refine W.cs (cells' := 1) (slots' := 4608) rfl rfl ?_
  have hD : va_D (k0A qk qc h) (wk0L E qk qc none a_gaps a_behind cf_voices cf_step ca_parts ca_heights ++ [(a, .inl (E.2 1, 4608, .inl (fun _ => 0)))]) := by
    refine zD_nd (as := [qk, qk + 1, qk + 2, qc, qc + 1, qc + 2, a]) (by rfl) ?_ ?_
    · have hq := hM.2
      unfold wk0Q at hq
      simp at b1 b2 ⊢
      omega
    · intro q hq
      simp at hq
      unfold k0A wk0A
      omega
  refine zPut (C := RX5) (T := TX5) (N := 3) (ci := 5) (v := .ref a) (ty := .array .int) zc hK hN hD hS uw5 tyX5 tyX5_ok nmX5 0 rfl rfl 0 (by decide) kf_5_66 (fun _ h9 => h9) (Or.inl rfl) (by decide +kernel) rfl rfl (Nat.le_of_ble_eq_true rfl) dX5_table_13 (fun H2 locs hN oq hz2 hS => ?_)
  have hW : wkW E qk qc a a_gaps a_behind cf_voices cf_step ca_parts ca_heights (fun _ => 0) H2 := ⟨hN, by
    have hq := hM.2
    unfold wk0Q at hq
    unfold wkQ
    simp at b1 b2
    omega⟩
  refine lv_aload_n hx hb dX5_table_16 rfl (lv_at hl 0 rfl) ?_
  refine wkg_5_66_0 zc hK hW dX5_table_17 ?_
  exact zret_ar () zc hS trivial ⟨by omega, hW⟩ (Or.inr ⟨_, rfl⟩) dX5_table_20
set_option maxRecDepth 40000 in
set_option maxHeartbeats 4000000 in
theorem c0_fill (l : Launch) {E : zE} {qk qc h : Nat} {a_gaps a_behind : Nat → Int32} {cf_voices cf_step : Int32} {ca_parts ca_heights : Nat → Int32} (k_cf_voices : iv 0 9 cf_voices) (k_cf_step : iv 0 9 cf_step) (k_ca_parts : ∀ j, iv 0 3 (ca_parts j)) (k_ca_heights : ∀ j, iv 0 9 (ca_heights j)) (k_a_behind : ∀ j, iv 0 511 (a_behind j)) : Met l yX5_fill (Cond.code yX5_fill cX5_fill 6 none :: zb) (rm_wk_X5_fill_3 1 4608) (va_Pc [.ref qk, .ref qc] (k0Q E qk qc h a_gaps a_behind cf_voices cf_step ca_parts ca_heights)) (zQv (S := Unit) (fun _ => True) (fun _ H => k0B E qk qc h cf_voices cf_step ca_parts ca_heights H) (k0A qk qc h)) 1 4608 (k0A qk qc h) := by
  refine Met.ofW (cc := cX5_fill) (maxL := 6) (ret := none) (by decide) rfl ?_
  intro p e s m args below meth c s₁ B hml hv
  obtain ⟨rfl, hh, hM, hK⟩ := hv
  have zc := zc_of B hml
  have hx := zc.1
  have hb := zc.2.1
  have hz := zc.2.2.2.2.1
  have hS : va_S (k0A qk qc h) s.heap s.heap [] := va_S.rf
  have hl := lv_entry ([.ref qk, .ref qc]) (n := 6) (Nat.le_of_ble_eq_true rfl)
  rw [lg_entry_eq]
  generalize (lg_sl ([.ref qk, .ref qc]) ++ List.replicate (6 - (lg_sl ([.ref qk, .ref qc])).length) Slot.unset).toArray = ls at hl ⊢
  have hl : lv_has ls 6 [(0, .ref qk), (1, .ref qc)] := hl
  refine lv_aload_n hx hb dX5_fill_0 rfl (lv_at hl 0 rfl) ?_
  refine lv_aload_n hx hb dX5_fill_1 rfl (lv_at hl 1 rfl) ?_
  refine zVa_v [.ref qc] [] zc ky_X5_measure kz_X5_measure km_5_18 (c_wk0_X5_measure_3 l (post := fun g bh => ∀ j, iv 0 511 (bh j)) (s_wk0_X5_measure_3_0 k_a_behind k_cf_voices k_cf_step k_ca_parts k_ca_heights (fun _ _ hb => hb))) (wk0PreV0 hK hM) hS (fun q hq => Or.inl hq) rfl rfl hl.1 (Nat.le_of_ble_eq_true rfl) ⟨rfl, rfl⟩ ⟨(Nat.le_of_ble_eq_true rfl), (Nat.le_of_ble_eq_true rfl)⟩ ⟨(Nat.le_of_ble_eq_true rfl), (Nat.le_of_ble_eq_true rfl)⟩  dX5_fill_2 (fun u H1 locs hbh hM hsz1 hk hS => ?_)
  obtain ⟨g, bh⟩ := u
  have hh1 : h ≤ H1.size := Nat.le_trans (Nat.le_of_eq hh.symm) hsz1
  refine lv_aload_n hx hb dX5_fill_5 rfl (lv_at hl 0 rfl) ?_
  refine zVa_r [] [] zc ky_X5_table kz_X5_table km_5_22 (c0_table l) (k0PreV hh1 hM hK) hS (fun q hq => hq) rfl rfl hl.1 (Nat.le_of_ble_eq_true rfl) ⟨rfl, rfl⟩ ⟨(Nat.le_of_ble_eq_true rfl), (Nat.le_of_ble_eq_true rfl)⟩ ⟨(Nat.le_of_ble_eq_true rfl), (Nat.le_of_ble_eq_true rfl)⟩  dX5_fill_6 (fun _ a H2 locs _ hB hsz2 hk hS => ?_)
  obtain ⟨hha, hW⟩ := hB
  refine W.cs (cells' := 1) (slots' := 4608) rfl rfl ?_
  refine lv_astore_n (lv' := [(2, .ref a), (0, .ref qk), (1, .ref qc)]) hx hb dX5_fill_9 rfl hl (by decide) rfl (fun ls hl => ?_)
  refine zW_chg (A2 := wkA qk qc a) hS (fun q h1 h2 => ?_) (fun locs hS => ?_)
  · unfold k0A wk0A at h2; unfold wkA; omega
  refine zW_cons (t_wk_X5_fill_3_10 (kc := 1) (ks := 4608) (post := fun _ bh _ => ∀ j, iv 0 511 (bh j)) zc hK hW hS (lv_sub hl [1, 2, 0] rfl) (s_wk_X5_fill_3_10 hbh k_cf_voices k_cf_step k_ca_parts k_ca_heights (fun _ _ _ hb => hb))) (fun o t ht => ?_) (fun q hq => ?_)
  · obtain ⟨⟨u, e1, e2, e3⟩, hF⟩ := ht
    have hs2 := k0_split e3
    exact ⟨⟨(), e1, trivial, ⟨a, _, _, _, hha, hs2.1, hs2.2, e2⟩⟩, va_F_mono hF (fun q hq => by unfold wkA at hq; unfold k0A wk0A; omega)⟩
  · unfold wkA at hq; unfold k0A wk0A; omega
def k0C (E : zE) (qk qc h : Nat) (cf_voices cf_step : Int32) (ca_parts ca_heights : Nat → Int32) (H : Heap) : Prop := ∃ o g bh, wk0W E qk qc o g bh cf_voices cf_step ca_parts ca_heights H ∧ (∀ j, iv 0 511 (bh j)) ∧ (o = none ∨ ∃ a t, o = some a ∧ h ≤ a ∧ k0T E a t H)
set_option maxRecDepth 40000 in
set_option maxHeartbeats 4000000 in
theorem c0_leastStep (l : Launch) {E : zE} {qk qc h : Nat} {a_gaps a_behind : Nat → Int32} {cf_voices cf_step : Int32} {ca_parts ca_heights : Nat → Int32} (k_cf_voices : iv 0 9 cf_voices) (k_cf_step : iv 0 9 cf_step) (k_ca_parts : ∀ j, iv 0 3 (ca_parts j)) (k_ca_heights : ∀ j, iv 0 9 (ca_heights j)) (k_a_behind : ∀ j, iv 0 511 (a_behind j)) : Met l yX5_leastStep (Cond.code yX5_leastStep cX5_leastStep 6 (some .int) :: zb) (rm_wk_X5_leastStep_3 1 4608) (va_Pc [.ref qk, .ref qc] (k0Q E qk qc h a_gaps a_behind cf_voices cf_step ca_parts ca_heights)) (zQi (S := Unit) (fun _ _ => True) (fun _ H => k0C E qk qc h cf_voices cf_step ca_parts ca_heights H) (k0A qk qc h)) 1 4608 (k0A qk qc h) := by
  refine Met.ofW (cc := cX5_leastStep) (maxL := 6) (ret := (some .int)) (by decide) rfl ?_
  intro p e s m args below meth c s₁ B hml hv
  obtain ⟨rfl, hh, hM, hK⟩ := hv
  have zc := zc_of B hml
  have hx := zc.1
  have hb := zc.2.1
  have hz := zc.2.2.2.2.1
  have hS : va_S (k0A qk qc h) s.heap s.heap [] := va_S.rf
  have hl := lv_entry ([.ref qk, .ref qc]) (n := 6) (Nat.le_of_ble_eq_true rfl)
  rw [lg_entry_eq]
  generalize (lg_sl ([.ref qk, .ref qc]) ++ List.replicate (6 - (lg_sl ([.ref qk, .ref qc])).length) Slot.unset).toArray = ls at hl ⊢
  have hl : lv_has ls 6 [(0, .ref qk), (1, .ref qc)] := hl
  refine lv_aload_n hx hb dX5_leastStep_0 rfl (lv_at hl 1 rfl) ?_
  refine wk0g_5_26_3 zc hK hM dX5_leastStep_1 ?_
  refine lv_if_ne (tgt := 9) hx hb dX5_leastStep_4 (by decide) (fun hc => ?_) (fun hc => ?_)
  rotate_left
  · refine lv_iconst (v := (0 : Int32)) hx hb dX5_leastStep_7 (by decide) ?_
    refine W.widen (k := 1) (n := 4608) (by omega) (by omega) ?_
    exact zret_iw () zc hS trivial ⟨none, _, _, hM, k_a_behind, Or.inl rfl⟩ dX5_leastStep_8
  refine lv_aload_n hx hb dX5_leastStep_9 rfl (lv_at hl 0 rfl) ?_
  refine lv_aload_n hx hb dX5_leastStep_10 rfl (lv_at hl 1 rfl) ?_
  refine zVa_v [.ref qc] [] zc ky_X5_measure kz_X5_measure km_5_18 (c_wk0_X5_measure_3 l (post := fun g bh => ∀ j, iv 0 511 (bh j)) (s_wk0_X5_measure_3_0 k_a_behind k_cf_voices k_cf_step k_ca_parts k_ca_heights (fun _ _ hb => hb))) (wk0PreV0 hK hM) hS (fun q hq => Or.inl hq) rfl rfl hl.1 (Nat.le_of_ble_eq_true rfl) ⟨rfl, rfl⟩ ⟨(Nat.le_of_ble_eq_true rfl), (Nat.le_of_ble_eq_true rfl)⟩ ⟨(Nat.le_of_ble_eq_true rfl), (Nat.le_of_ble_eq_true rfl)⟩  dX5_leastStep_11 (fun u H1 locs hbh hM hsz1 hk hS => ?_)
  obtain ⟨g, bh⟩ := u
  have hh1 : h ≤ H1.size := Nat.le_trans (Nat.le_of_eq hh.symm) hsz1
  refine lv_aload_n hx hb dX5_leastStep_14 rfl (lv_at hl 0 rfl) ?_
  refine zVa_r [] [] zc ky_X5_table kz_X5_table km_5_22 (c0_table l) (k0PreV hh1 hM hK) hS (fun q hq => hq) rfl rfl hl.1 (Nat.le_of_ble_eq_true rfl) ⟨rfl, rfl⟩ ⟨(Nat.le_of_ble_eq_true rfl), (Nat.le_of_ble_eq_true rfl)⟩ ⟨(Nat.le_of_ble_eq_true rfl), (Nat.le_of_ble_eq_true rfl)⟩  dX5_leastStep_15 (fun _ a H2 locs _ hB hsz2 hk hS => ?_)
  obtain ⟨hha, hW⟩ := hB
  refine W.cs (cells' := 1) (slots' := 4608) rfl rfl ?_
  refine lv_astore_n (lv' := [(2, .ref a), (0, .ref qk), (1, .ref qc)]) hx hb dX5_leastStep_18 rfl hl (by decide) rfl (fun ls hl => ?_)
  refine zW_chg (A2 := wkA qk qc a) hS (fun q h1 h2 => ?_) (fun locs hS => ?_)
  · unfold k0A wk0A at h2; unfold wkA; omega
  refine zW_cons (t_wk_X5_leastStep_3_19 (kc := 1) (ks := 4608) (post := fun _ _ bh _ => ∀ j, iv 0 511 (bh j)) zc hK hW hS (lv_sub hl [1, 2, 0] rfl) (s_wk_X5_leastStep_3_19 hbh (iv_ne (l := 1) (h := 9) hc k_cf_voices (iv_lit (l := 0) (h := 0) (x := 0) (by decide)) (by decide)) k_cf_step k_ca_parts k_ca_heights (fun _ _ _ _ _ hb => hb))) (fun o t ht => ?_) (fun q hq => ?_)
  · obtain ⟨⟨r, u, e1, e2, e3⟩, hF⟩ := ht
    have hs2 := k0_split e3
    exact ⟨⟨r, (), e1, trivial, ⟨some a, _, _, hs2.1, e2, Or.inr ⟨a, _, rfl, hha, hs2.2⟩⟩⟩, va_F_mono hF (fun q hq => by unfold wkA at hq; unfold k0A wk0A; omega)⟩
  · unfold wkA at hq; unfold k0A wk0A; omega
