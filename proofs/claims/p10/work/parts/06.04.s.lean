abbrev wsL (E : zE) (qs : Nat) (f_facts : Int32) (a_heard : Nat → Int32) (a_huts : Nat → Int32) (a_minutes : Nat → Int32) : va_W := [(qs, .inr (6, [.int f_facts, .ref (qs + 1), .ref (qs + 2), .ref (qs + 3)])), ((qs + 1), .inl (E.2 1, 10, .inl a_heard)), ((qs + 2), .inl (E.2 1, 10, .inl a_huts)), ((qs + 3), .inl (E.2 1, 10, .inl a_minutes))]
def wsW (E : zE) (qs : Nat) (f_facts : Int32) (a_heard : Nat → Int32) (a_huts : Nat → Int32) (a_minutes : Nat → Int32) (H : Heap) : Prop := va_P E.1 zcl (wsL E qs f_facts a_heard a_huts a_minutes) H
abbrev wsA (qs : Nat) : Nat → Prop := zR qs 4
section
variable {p : Program} {l : Launch} {e : Env} {R : Room} {s : State} {m : MethodId} {args : Array Value} {below : List Frame} {meth : Method} {c : Code} {H : Heap} {locs : List Loc} {cells slots : Nat} {Q : State → Prop} {cc : ByteArray} {pc nL : Nat} {ls : Array Slot} {rest : List Value} {own : String} {ret : Option FieldType} {E : zE} {qs : Nat} {f_facts : Int32} {a_heard : Nat → Int32} {a_huts : Nat → Int32} {a_minutes : Nat → Int32}
theorem wsg_6_9_0 (zc : zC p s m args meth c cc nL RX6 ret) (hK : zK E s) (hM : wsW E qs f_facts a_heard a_huts a_minutes H) (hdg : decode cc pc = .ok (.getfield 9, 3)) (kk : W p l e R s m args below meth c H locs cells slots Q (F0 m (pc + 3) ls (.ref (qs + 1) :: rest))) : W p l e R s m args below meth c H locs cells slots Q (F0 m pc ls (.ref qs :: rest)) := by
  obtain ⟨hx, hb, hml, hown, hz, hr, hlk⟩ := zc
  exact va_get (D := E.1) (ci := 6) (v := .ref (qs + 1)) (C := RX6) (T := TX6) (N := 4) hx hb hz uw6 hown hK.1 hM 0 rfl rfl 1 (by decide) (hz _ kf_6_9) (fun _ h9 => h9) rfl hdg kk
theorem wsg_6_15_0 (zc : zC p s m args meth c cc nL RX6 ret) (hK : zK E s) (hM : wsW E qs f_facts a_heard a_huts a_minutes H) (hdg : decode cc pc = .ok (.getfield 15, 3)) (kk : W p l e R s m args below meth c H locs cells slots Q (F0 m (pc + 3) ls (.ref (qs + 2) :: rest))) : W p l e R s m args below meth c H locs cells slots Q (F0 m pc ls (.ref qs :: rest)) := by
  obtain ⟨hx, hb, hml, hown, hz, hr, hlk⟩ := zc
  exact va_get (D := E.1) (ci := 6) (v := .ref (qs + 2)) (C := RX6) (T := TX6) (N := 4) hx hb hz uw6 hown hK.1 hM 0 rfl rfl 2 (by decide) (hz _ kf_6_15) (fun _ h9 => h9) rfl hdg kk
theorem wsg_6_18_0 (zc : zC p s m args meth c cc nL RX6 ret) (hK : zK E s) (hM : wsW E qs f_facts a_heard a_huts a_minutes H) (hdg : decode cc pc = .ok (.getfield 18, 3)) (kk : W p l e R s m args below meth c H locs cells slots Q (F0 m (pc + 3) ls (.ref (qs + 3) :: rest))) : W p l e R s m args below meth c H locs cells slots Q (F0 m pc ls (.ref qs :: rest)) := by
  obtain ⟨hx, hb, hml, hown, hz, hr, hlk⟩ := zc
  exact va_get (D := E.1) (ci := 6) (v := .ref (qs + 3)) (C := RX6) (T := TX6) (N := 4) hx hb hz uw6 hown hK.1 hM 0 rfl rfl 3 (by decide) (hz _ kf_6_18) (fun _ h9 => h9) rfl hdg kk
theorem wsg_6_21_0 (zc : zC p s m args meth c cc nL RX6 ret) (hK : zK E s) (hM : wsW E qs f_facts a_heard a_huts a_minutes H) (hdg : decode cc pc = .ok (.getfield 21, 3)) (kk : W p l e R s m args below meth c H locs cells slots Q (F0 m (pc + 3) ls (.int f_facts :: rest))) : W p l e R s m args below meth c H locs cells slots Q (F0 m pc ls (.ref qs :: rest)) := by
  obtain ⟨hx, hb, hml, hown, hz, hr, hlk⟩ := zc
  exact va_get (D := E.1) (ci := 6) (v := .int f_facts) (C := RX6) (T := TX6) (N := 4) hx hb hz uw6 hown hK.1 hM 0 rfl rfl 0 (by decide) (hz _ kf_6_21) (fun _ h9 => h9) rfl hdg kk
theorem wsld_1 {i : Int32} (zc : zC p s m args meth c cc nL own ret) (hK : zK E s) (hM : wsW E qs f_facts a_heard a_huts a_minutes H) (hin : vp_in i 10) (hdg : decode cc pc = .ok (.iaload, 1)) (kk : W p l e R s m args below meth c H locs cells slots Q (F0 m (pc + 1) ls (.int (a_heard i.toNatClampNeg) :: rest))) : W p l e R s m args below meth c H locs cells slots Q (F0 m pc ls (.int i :: .ref (qs + 1) :: rest)) := by
  obtain ⟨hx, hb, hml, hown, hz, hr, hlk⟩ := zc
  exact va_iald hx hb hK.1 hM 1 1 rfl rfl hin hdg kk
theorem wsld_2 {i : Int32} (zc : zC p s m args meth c cc nL own ret) (hK : zK E s) (hM : wsW E qs f_facts a_heard a_huts a_minutes H) (hin : vp_in i 10) (hdg : decode cc pc = .ok (.iaload, 1)) (kk : W p l e R s m args below meth c H locs cells slots Q (F0 m (pc + 1) ls (.int (a_huts i.toNatClampNeg) :: rest))) : W p l e R s m args below meth c H locs cells slots Q (F0 m pc ls (.int i :: .ref (qs + 2) :: rest)) := by
  obtain ⟨hx, hb, hml, hown, hz, hr, hlk⟩ := zc
  exact va_iald hx hb hK.1 hM 2 1 rfl rfl hin hdg kk
theorem wsld_3 {i : Int32} (zc : zC p s m args meth c cc nL own ret) (hK : zK E s) (hM : wsW E qs f_facts a_heard a_huts a_minutes H) (hin : vp_in i 10) (hdg : decode cc pc = .ok (.iaload, 1)) (kk : W p l e R s m args below meth c H locs cells slots Q (F0 m (pc + 1) ls (.int (a_minutes i.toNatClampNeg) :: rest))) : W p l e R s m args below meth c H locs cells slots Q (F0 m pc ls (.int i :: .ref (qs + 3) :: rest)) := by
  obtain ⟨hx, hb, hml, hown, hz, hr, hlk⟩ := zc
  exact va_iald hx hb hK.1 hM 3 1 rfl rfl hin hdg kk
end
section
variable {p : Program} {l : Launch} {e : Env} {R : Room} {s : State} {m : MethodId} {args : Array Value} {below : List Frame} {meth : Method} {c : Code} {H : Heap} {locs : List Loc} {cells slots : Nat} {Q : State → Prop} {cc : ByteArray} {pc nL : Nat} {ls : Array Slot} {rest : List Value} {own : String} {ret : Option FieldType} {E : zE} {qs : Nat} {f_facts : Int32} {a_heard : Nat → Int32} {a_huts : Nat → Int32} {a_minutes : Nat → Int32}
end
section
variable {s : State} {H : Heap} {E : zE} {qs : Nat} {f_facts : Int32} {a_heard : Nat → Int32} {a_huts : Nat → Int32} {a_minutes : Nat → Int32}
theorem wsFB {av : List Value} : FrameBlind (va_Pc av (fun U => wsW E qs f_facts a_heard a_huts a_minutes U.heap ∧ zK E U)) := fun a U gg mk h => ⟨h.1, h.2.1, zK_calling h.2.2⟩
theorem wsPreV0 {As : List Value} (hK : zK E s) (hM : wsW E qs f_facts a_heard a_huts a_minutes H) : PreV s H RX6 qs (va_Pc (.ref qs :: As) (fun U => wsW E qs f_facts a_heard a_huts a_minutes U.heap ∧ zK E U)) As := ⟨wsFB, va_recv hK.1 hM (ci := 6) (q0 := 0) rfl rfl, fun U hU hW => ⟨rfl, by rw [hU]; exact hM, zK_moved hW hK⟩⟩
end
