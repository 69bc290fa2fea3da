abbrev wcL (E : zE) (qc : Nat) (f_voices : Int32) (f_step : Int32) (a_parts : Nat → Int32) (a_heights : Nat → Int32) : va_W := [(qc, .inr (0, [.int f_voices, .int f_step, .ref (qc + 1), .ref (qc + 2)])), ((qc + 1), .inl (E.2 1, 9, .inl a_parts)), ((qc + 2), .inl (E.2 1, 9, .inl a_heights))]
def wcW (E : zE) (qc : Nat) (f_voices : Int32) (f_step : Int32) (a_parts : Nat → Int32) (a_heights : Nat → Int32) (H : Heap) : Prop := va_P E.1 zcl (wcL E qc f_voices f_step a_parts a_heights) H
abbrev wcA (qc : Nat) : Nat → Prop := zR qc 3
section
variable {p : Program} {l : Launch} {e : Env} {R : Room} {s : State} {m : MethodId} {args : Array Value} {below : List Frame} {meth : Method} {c : Code} {H : Heap} {locs : List Loc} {cells slots : Nat} {Q : State → Prop} {cc : ByteArray} {pc nL : Nat} {ls : Array Slot} {rest : List Value} {own : String} {ret : Option FieldType} {E : zE} {qc : Nat} {f_voices : Int32} {f_step : Int32} {a_parts : Nat → Int32} {a_heights : Nat → Int32}
theorem wcg_0_9_0 (zc : zC p s m args meth c cc nL RX0 ret) (hK : zK E s) (hM : wcW E qc f_voices f_step a_parts a_heights H) (hdg : decode cc pc = .ok (.getfield 9, 3)) (kk : W p l e R s m args below meth c H locs cells slots Q (F0 m (pc + 3) ls (.ref (qc + 1) :: rest))) : W p l e R s m args below meth c H locs cells slots Q (F0 m pc ls (.ref qc :: rest)) := by
  obtain ⟨hx, hb, hml, hown, hz, hr, hlk⟩ := zc
  exact va_get (D := E.1) (ci := 0) (v := .ref (qc + 1)) (C := RX0) (T := TX0) (N := 4) hx hb hz uw0 hown hK.1 hM 0 rfl rfl 2 (by decide) (hz _ kf_0_9) (fun _ h9 => h9) rfl hdg kk
theorem wcg_0_15_0 (zc : zC p s m args meth c cc nL RX0 ret) (hK : zK E s) (hM : wcW E qc f_voices f_step a_parts a_heights H) (hdg : decode cc pc = .ok (.getfield 15, 3)) (kk : W p l e R s m args below meth c H locs cells slots Q (F0 m (pc + 3) ls (.ref (qc + 2) :: rest))) : W p l e R s m args below meth c H locs cells slots Q (F0 m pc ls (.ref qc :: rest)) := by
  obtain ⟨hx, hb, hml, hown, hz, hr, hlk⟩ := zc
  exact va_get (D := E.1) (ci := 0) (v := .ref (qc + 2)) (C := RX0) (T := TX0) (N := 4) hx hb hz uw0 hown hK.1 hM 0 rfl rfl 3 (by decide) (hz _ kf_0_15) (fun _ h9 => h9) rfl hdg kk
theorem wcg_0_18_0 (zc : zC p s m args meth c cc nL RX0 ret) (hK : zK E s) (hM : wcW E qc f_voices f_step a_parts a_heights H) (hdg : decode cc pc = .ok (.getfield 18, 3)) (kk : W p l e R s m args below meth c H locs cells slots Q (F0 m (pc + 3) ls (.int f_voices :: rest))) : W p l e R s m args below meth c H locs cells slots Q (F0 m pc ls (.ref qc :: rest)) := by
  obtain ⟨hx, hb, hml, hown, hz, hr, hlk⟩ := zc
  exact va_get (D := E.1) (ci := 0) (v := .int f_voices) (C := RX0) (T := TX0) (N := 4) hx hb hz uw0 hown hK.1 hM 0 rfl rfl 0 (by decide) (hz _ kf_0_18) (fun _ h9 => h9) rfl hdg kk
theorem wcg_0_22_0 (zc : zC p s m args meth c cc nL RX0 ret) (hK : zK E s) (hM : wcW E qc f_voices f_step a_parts a_heights H) (hdg : decode cc pc = .ok (.getfield 22, 3)) (kk : W p l e R s m args below meth c H locs cells slots Q (F0 m (pc + 3) ls (.int f_step :: rest))) : W p l e R s m args below meth c H locs cells slots Q (F0 m pc ls (.ref qc :: rest)) := by
  obtain ⟨hx, hb, hml, hown, hz, hr, hlk⟩ := zc
  exact va_get (D := E.1) (ci := 0) (v := .int f_step) (C := RX0) (T := TX0) (N := 4) hx hb hz uw0 hown hK.1 hM 0 rfl rfl 1 (by decide) (hz _ kf_0_22) (fun _ h9 => h9) rfl hdg kk
theorem wcld_1 {i : Int32} (zc : zC p s m args meth c cc nL own ret) (hK : zK E s) (hM : wcW E qc f_voices f_step a_parts a_heights H) (hin : vp_in i 9) (hdg : decode cc pc = .ok (.iaload, 1)) (kk : W p l e R s m args below meth c H locs cells slots Q (F0 m (pc + 1) ls (.int (a_parts i.toNatClampNeg) :: rest))) : W p l e R s m args below meth c H locs cells slots Q (F0 m pc ls (.int i :: .ref (qc + 1) :: rest)) := by
  obtain ⟨hx, hb, hml, hown, hz, hr, hlk⟩ := zc
  exact va_iald hx hb hK.1 hM 1 1 rfl rfl hin hdg kk
theorem wcld_2 {i : Int32} (zc : zC p s m args meth c cc nL own ret) (hK : zK E s) (hM : wcW E qc f_voices f_step a_parts a_heights H) (hin : vp_in i 9) (hdg : decode cc pc = .ok (.iaload, 1)) (kk : W p l e R s m args below meth c H locs cells slots Q (F0 m (pc + 1) ls (.int (a_heights i.toNatClampNeg) :: rest))) : W p l e R s m args below meth c H locs cells slots Q (F0 m pc ls (.int i :: .ref (qc + 2) :: rest)) := by
  obtain ⟨hx, hb, hml, hown, hz, hr, hlk⟩ := zc
  exact va_iald hx hb hK.1 hM 2 1 rfl rfl hin hdg kk
end
section
variable {p : Program} {l : Launch} {e : Env} {R : Room} {s : State} {m : MethodId} {args : Array Value} {below : List Frame} {meth : Method} {c : Code} {H : Heap} {locs : List Loc} {cells slots : Nat} {Q : State → Prop} {cc : ByteArray} {pc nL : Nat} {ls : Array Slot} {rest : List Value} {own : String} {ret : Option FieldType} {E : zE} {qc : Nat} {f_voices : Int32} {f_step : Int32} {a_parts : Nat → Int32} {a_heights : Nat → Int32}
end
section
variable {s : State} {H : Heap} {E : zE} {qc : Nat} {f_voices : Int32} {f_step : Int32} {a_parts : Nat → Int32} {a_heights : Nat → Int32}
theorem wcFB {av : List Value} : FrameBlind (va_Pc av (fun U => wcW E qc f_voices f_step a_parts a_heights U.heap ∧ zK E U)) := fun a U gg mk h => ⟨h.1, h.2.1, zK_calling h.2.2⟩
theorem wcPreV0 {As : List Value} (hK : zK E s) (hM : wcW E qc f_voices f_step a_parts a_heights H) : PreV s H RX0 qc (va_Pc (.ref qc :: As) (fun U => wcW E qc f_voices f_step a_parts a_heights U.heap ∧ zK E U)) As := ⟨wcFB, va_recv hK.1 hM (ci := 0) (q0 := 0) rfl rfl, fun U hU hW => ⟨rfl, by rw [hU]; exact hM, zK_moved hW hK⟩⟩
end
