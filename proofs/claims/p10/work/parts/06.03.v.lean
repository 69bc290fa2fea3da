abbrev wvL (E : zE) (qv : Nat) (f_deeds : Int32) (a_kinds : Nat → Int32) (a_firsts : Nat → Int32) (a_seconds : Nat → Int32) : va_W := [(qv, .inr (1, [.int f_deeds, .ref (qv + 1), .ref (qv + 2), .ref (qv + 3)])), ((qv + 1), .inl (E.2 1, 40, .inl a_kinds)), ((qv + 2), .inl (E.2 1, 40, .inl a_firsts)), ((qv + 3), .inl (E.2 1, 40, .inl a_seconds))]
def wvW (E : zE) (qv : Nat) (f_deeds : Int32) (a_kinds : Nat → Int32) (a_firsts : Nat → Int32) (a_seconds : Nat → Int32) (H : Heap) : Prop := va_P E.1 zcl (wvL E qv f_deeds a_kinds a_firsts a_seconds) H
abbrev wvA (qv : Nat) : Nat → Prop := zR qv 4
section
variable {p : Program} {l : Launch} {e : Env} {R : Room} {s : State} {m : MethodId} {args : Array Value} {below : List Frame} {meth : Method} {c : Code} {H : Heap} {locs : List Loc} {cells slots : Nat} {Q : State → Prop} {cc : ByteArray} {pc nL : Nat} {ls : Array Slot} {rest : List Value} {own : String} {ret : Option FieldType} {E : zE} {qv : Nat} {f_deeds : Int32} {a_kinds : Nat → Int32} {a_firsts : Nat → Int32} {a_seconds : Nat → Int32}
theorem wvg_1_9_0 (zc : zC p s m args meth c cc nL RX1 ret) (hK : zK E s) (hM : wvW E qv f_deeds a_kinds a_firsts a_seconds H) (hdg : decode cc pc = .ok (.getfield 9, 3)) (kk : W p l e R s m args below meth c H locs cells slots Q (F0 m (pc + 3) ls (.ref (qv + 1) :: rest))) : W p l e R s m args below meth c H locs cells slots Q (F0 m pc ls (.ref qv :: rest)) := by
  obtain ⟨hx, hb, hml, hown, hz, hr, hlk⟩ := zc
  exact va_get (D := E.1) (ci := 1) (v := .ref (qv + 1)) (C := RX1) (T := TX1) (N := 4) hx hb hz uw1 hown hK.1 hM 0 rfl rfl 1 (by decide) (hz _ kf_1_9) (fun _ h9 => h9) rfl hdg kk
theorem wvg_1_15_0 (zc : zC p s m args meth c cc nL RX1 ret) (hK : zK E s) (hM : wvW E qv f_deeds a_kinds a_firsts a_seconds H) (hdg : decode cc pc = .ok (.getfield 15, 3)) (kk : W p l e R s m args below meth c H locs cells slots Q (F0 m (pc + 3) ls (.ref (qv + 2) :: rest))) : W p l e R s m args below meth c H locs cells slots Q (F0 m pc ls (.ref qv :: rest)) := by
  obtain ⟨hx, hb, hml, hown, hz, hr, hlk⟩ := zc
  exact va_get (D := E.1) (ci := 1) (v := .ref (qv + 2)) (C := RX1) (T := TX1) (N := 4) hx hb hz uw1 hown hK.1 hM 0 rfl rfl 2 (by decide) (hz _ kf_1_15) (fun _ h9 => h9) rfl hdg kk
theorem wvg_1_18_0 (zc : zC p s m args meth c cc nL RX1 ret) (hK : zK E s) (hM : wvW E qv f_deeds a_kinds a_firsts a_seconds H) (hdg : decode cc pc = .ok (.getfield 18, 3)) (kk : W p l e R s m args below meth c H locs cells slots Q (F0 m (pc + 3) ls (.ref (qv + 3) :: rest))) : W p l e R s m args below meth c H locs cells slots Q (F0 m pc ls (.ref qv :: rest)) := by
  obtain ⟨hx, hb, hml, hown, hz, hr, hlk⟩ := zc
  exact va_get (D := E.1) (ci := 1) (v := .ref (qv + 3)) (C := RX1) (T := TX1) (N := 4) hx hb hz uw1 hown hK.1 hM 0 rfl rfl 3 (by decide) (hz _ kf_1_18) (fun _ h9 => h9) rfl hdg kk
theorem wvld_1 {i : Int32} (zc : zC p s m args meth c cc nL own ret) (hK : zK E s) (hM : wvW E qv f_deeds a_kinds a_firsts a_seconds H) (hin : vp_in i 40) (hdg : decode cc pc = .ok (.iaload, 1)) (kk : W p l e R s m args below meth c H locs cells slots Q (F0 m (pc + 1) ls (.int (a_kinds i.toNatClampNeg) :: rest))) : W p l e R s m args below meth c H locs cells slots Q (F0 m pc ls (.int i :: .ref (qv + 1) :: rest)) := by
  obtain ⟨hx, hb, hml, hown, hz, hr, hlk⟩ := zc
  exact va_iald hx hb hK.1 hM 1 1 rfl rfl hin hdg kk
theorem wvld_2 {i : Int32} (zc : zC p s m args meth c cc nL own ret) (hK : zK E s) (hM : wvW E qv f_deeds a_kinds a_firsts a_seconds H) (hin : vp_in i 40) (hdg : decode cc pc = .ok (.iaload, 1)) (kk : W p l e R s m args below meth c H locs cells slots Q (F0 m (pc + 1) ls (.int (a_firsts i.toNatClampNeg) :: rest))) : W p l e R s m args below meth c H locs cells slots Q (F0 m pc ls (.int i :: .ref (qv + 2) :: rest)) := by
  obtain ⟨hx, hb, hml, hown, hz, hr, hlk⟩ := zc
  exact va_iald hx hb hK.1 hM 2 1 rfl rfl hin hdg kk
theorem wvld_3 {i : Int32} (zc : zC p s m args meth c cc nL own ret) (hK : zK E s) (hM : wvW E qv f_deeds a_kinds a_firsts a_seconds H) (hin : vp_in i 40) (hdg : decode cc pc = .ok (.iaload, 1)) (kk : W p l e R s m args below meth c H locs cells slots Q (F0 m (pc + 1) ls (.int (a_seconds i.toNatClampNeg) :: rest))) : W p l e R s m args below meth c H locs cells slots Q (F0 m pc ls (.int i :: .ref (qv + 3) :: rest)) := by
  obtain ⟨hx, hb, hml, hown, hz, hr, hlk⟩ := zc
  exact va_iald hx hb hK.1 hM 3 1 rfl rfl hin hdg kk
end
section
variable {p : Program} {l : Launch} {e : Env} {R : Room} {s : State} {m : MethodId} {args : Array Value} {below : List Frame} {meth : Method} {c : Code} {H : Heap} {locs : List Loc} {cells slots : Nat} {Q : State → Prop} {cc : ByteArray} {pc nL : Nat} {ls : Array Slot} {rest : List Value} {own : String} {ret : Option FieldType} {E : zE} {qv : Nat} {f_deeds : Int32} {a_kinds : Nat → Int32} {a_firsts : Nat → Int32} {a_seconds : Nat → Int32}
end
section
variable {s : State} {H : Heap} {E : zE} {qv : Nat} {f_deeds : Int32} {a_kinds : Nat → Int32} {a_firsts : Nat → Int32} {a_seconds : Nat → Int32}
theorem wvFB {av : List Value} : FrameBlind (va_Pc av (fun U => wvW E qv f_deeds a_kinds a_firsts a_seconds U.heap ∧ zK E U)) := fun a U gg mk h => ⟨h.1, h.2.1, zK_calling h.2.2⟩
theorem wvPreV0 {As : List Value} (hK : zK E s) (hM : wvW E qv f_deeds a_kinds a_firsts a_seconds H) : PreV s H RX1 qv (va_Pc (.ref qv :: As) (fun U => wvW E qv f_deeds a_kinds a_firsts a_seconds U.heap ∧ zK E U)) As := ⟨wvFB, va_recv hK.1 hM (ci := 1) (q0 := 0) rfl rfl, fun U hU hW => ⟨rfl, by rw [hU]; exact hM, zK_moved hW hK⟩⟩
end
