section ZW
variable {p : Program} {l : Launch} {e : Env} {R : Room} {s : State} {m : MethodId} {args : Array Value} {below : List Frame} {meth : Method} {c : Code} {H : Heap} {locs : List Loc} {cells slots : Nat} {Q : State → Prop} {cc : ByteArray} {pc nL : Nat} {ls : Array Slot} {own C : String} {ret : Option FieldType} {y : MethodName} {bytes : ByteArray} {maxL n idx : Nat} {retc : Option FieldType} {rm : Room} {Pc : Array Value → State → Prop} {b : Addr}
theorem zS_l {post : Int64 → Prop} (As rest : List Value) {st : List Value} (zc : zC p s m args meth c cc nL own ret) (ky : zY C y (Cond.code y bytes maxL retc) n) (k2 : Cond.static y ∈ zb) (hl : Cond.methodLink own idx y ∈ zb) (hM : Met l y (Cond.code y bytes maxL retc :: zb) rm Pc (vp_Sl post) 0 0 (fun _ => False)) (hp : PreS s H Pc As) (hst : st = As.reverse ++ rest) (hn : As.length = n) (hsz : ls.size = nL) (hW : (rest.map fun v => v.category).sum ≤ 8) (hrm : rm.cells = 0 ∧ rm.slots = 0) (hR : rm.frames + 1 ≤ R.frames ∧ 8 + (maxL + 11) + rm.locals ≤ R.locals) (hcs : cells ≤ R.cells ∧ slots ≤ R.slots) (hdg : decode cc pc = .ok (.invokestatic idx, 3))
    (kk : ∀ r : Int64, post r → W p l e R s m args below meth c H locs cells slots Q (F0 m (pc + 3) ls (.long r :: rest))) : W p l e R s m args below meth c H locs cells slots Q (F0 m pc ls st) := by
  obtain ⟨hx, hb, hml, hown, hz, hr, hlk⟩ := zc
  obtain ⟨y1, y2, y3, y4⟩ := ky
  subst hst
  have cw : CallB R s args own idx y bytes maxL retc (Cond.code y bytes maxL retc :: zb) rm 0 0 n := callB_of n hz (zb_self y3) rfl hrm.1 hrm.2 (by rw [y1]; exact hz _ y2) (hz _ hl) y4 hR
  exact vp_callSl (va_Run.run (va_runS (As := As) (rest := rest) ⟨hx, hb, hml, hown, hz⟩ hM ⟨cw, hz _ k2⟩ hp rfl hn hsz rfl (lv_room hW) hdg hcs)) kk
end ZW
