abbrev wbL (E : zE) (qb : Nat) (a_less : Nat → Int32) (a_full : Nat → Int32) : va_W := [(qb, .inr (8, [.ref (qb + 1), .ref (qb + 2)])), ((qb + 1), .inl (E.2 1, 61, .inl a_less)), ((qb + 2), .inl (E.2 1, 61, .inl a_full))]
def wbW (E : zE) (qb : Nat) (a_less : Nat → Int32) (a_full : Nat → Int32) (H : Heap) : Prop := va_P E.1 zcl (wbL E qb a_less a_full) H
abbrev wbA (qb : Nat) : Nat → Prop := zR qb 3
set_option maxRecDepth 20000 in
theorem wbD (E : zE) (qb : Nat) (a_less : Nat → Int32) (a_full : Nat → Int32) : va_D (wbA qb) (wbL E qb a_less a_full) := zD_of (by rfl)
section
variable {p : Program} {l : Launch} {e : Env} {R : Room} {s : State} {m : MethodId} {args : Array Value} {below : List Frame} {meth : Method} {c : Code} {H : Heap} {locs : List Loc} {cells slots : Nat} {Q : State → Prop} {cc : ByteArray} {pc nL : Nat} {ls : Array Slot} {rest : List Value} {own : String} {ret : Option FieldType} {E : zE} {qb : Nat} {a_less : Nat → Int32} {a_full : Nat → Int32}
theorem wbg_8_9_0 (zc : zC p s m args meth c cc nL RX8 ret) (hK : zK E s) (hM : wbW E qb a_less a_full H) (hdg : decode cc pc = .ok (.getfield 9, 3)) (kk : W p l e R s m args below meth c H locs cells slots Q (F0 m (pc + 3) ls (.ref (qb + 1) :: rest))) : W p l e R s m args below meth c H locs cells slots Q (F0 m pc ls (.ref qb :: rest)) := by
  obtain ⟨hx, hb, hml, hown, hz, hr, hlk⟩ := zc
  exact va_get (D := E.1) (ci := 8) (v := .ref (qb + 1)) (C := RX8) (T := TX8) (N := 2) hx hb hz uw8 hown hK.1 hM 0 rfl rfl 0 (by decide) (hz _ kf_8_9) (fun _ h9 => h9) rfl hdg kk
theorem wbg_8_15_0 (zc : zC p s m args meth c cc nL RX8 ret) (hK : zK E s) (hM : wbW E qb a_less a_full H) (hdg : decode cc pc = .ok (.getfield 15, 3)) (kk : W p l e R s m args below meth c H locs cells slots Q (F0 m (pc + 3) ls (.ref (qb + 2) :: rest))) : W p l e R s m args below meth c H locs cells slots Q (F0 m pc ls (.ref qb :: rest)) := by
  obtain ⟨hx, hb, hml, hown, hz, hr, hlk⟩ := zc
  exact va_get (D := E.1) (ci := 8) (v := .ref (qb + 2)) (C := RX8) (T := TX8) (N := 2) hx hb hz uw8 hown hK.1 hM 0 rfl rfl 1 (by decide) (hz _ kf_8_15) (fun _ h9 => h9) rfl hdg kk
theorem wbld_1 {i : Int32} (zc : zC p s m args meth c cc nL own ret) (hK : zK E s) (hM : wbW E qb a_less a_full H) (hin : vp_in i 61) (hdg : decode cc pc = .ok (.iaload, 1)) (kk : W p l e R s m args below meth c H locs cells slots Q (F0 m (pc + 1) ls (.int (a_less i.toNatClampNeg) :: rest))) : W p l e R s m args below meth c H locs cells slots Q (F0 m pc ls (.int i :: .ref (qb + 1) :: rest)) := by
  obtain ⟨hx, hb, hml, hown, hz, hr, hlk⟩ := zc
  exact va_iald hx hb hK.1 hM 1 1 rfl rfl hin hdg kk
theorem wbld_2 {i : Int32} (zc : zC p s m args meth c cc nL own ret) (hK : zK E s) (hM : wbW E qb a_less a_full H) (hin : vp_in i 61) (hdg : decode cc pc = .ok (.iaload, 1)) (kk : W p l e R s m args below meth c H locs cells slots Q (F0 m (pc + 1) ls (.int (a_full i.toNatClampNeg) :: rest))) : W p l e R s m args below meth c H locs cells slots Q (F0 m pc ls (.int i :: .ref (qb + 2) :: rest)) := by
  obtain ⟨hx, hb, hml, hown, hz, hr, hlk⟩ := zc
  exact va_iald hx hb hK.1 hM 2 1 rfl rfl hin hdg kk
theorem wbst_2 {i : Int32} {x : Int32} (zc : zC p s m args meth c cc nL own ret) (hK : zK E s) (hM : wbW E qb a_less a_full H) (hS : va_S (wbA qb) s.heap H locs) (hin : vp_in i 61) (hdg : decode cc pc = .ok (.iastore, 1)) (kk : ∀ (g : Nat → Int32) (H1 : Heap) (locs1 : List Loc), g = upd a_full i.toNatClampNeg x → wbW E qb a_less g H1 → va_S (wbA qb) s.heap H1 locs1 → W p l e R s m args below meth c H1 locs1 cells slots Q (F0 m (pc + 1) ls rest)) : W p l e R s m args below meth c H locs cells slots Q (F0 m pc ls (.int x :: .int i :: .ref (qb + 2) :: rest)) := by
  obtain ⟨hx, hb, hml, hown, hz, hr, hlk⟩ := zc
  exact va_iast hx hb hK.1 hM (wbD E qb a_less a_full) hS 2 1 rfl rfl hin hdg (fun H1 locs1 hP _ hS => kk _ H1 locs1 rfl hP hS)
end
section
variable {p : Program} {l : Launch} {e : Env} {R : Room} {s : State} {m : MethodId} {args : Array Value} {below : List Frame} {meth : Method} {c : Code} {H : Heap} {locs : List Loc} {cells slots : Nat} {Q : State → Prop} {cc : ByteArray} {pc nL : Nat} {ls : Array Slot} {rest : List Value} {own : String} {ret : Option FieldType} {E : zE} {qb : Nat} {a_less : Nat → Int32} {a_full : Nat → Int32}
theorem wbcp_2_1 {sp dp n : Int32} {idx : Nat} (zc : zC p s m args meth c cc nL own ret) (hK : zK E s) (hM : wbW E qb a_less a_full H) (hS : va_S (wbA qb) s.heap H locs) (hsz : ls.size = nL) (hlink : (Cond.methodLink own idx arraycopyName).before args s = true) (h1 : ¬ sp < 0) (h2 : ¬ dp < 0) (h3 : ¬ n < 0) (h4 : Int32.toNatClampNeg sp + Int32.toNatClampNeg n ≤ 61) (h5 : Int32.toNatClampNeg dp + Int32.toNatClampNeg n ≤ 61) (hfit : ∀ i, i < Int32.toNatClampNeg n → fits .int (.int (a_full (Int32.toNatClampNeg sp + i))) = true) (hR : 1 ≤ R.frames) (hR2 : (rest.map fun v => v.category).sum + (nativeFrameWords "java/lang/System" "arraycopy" 5 + 11) ≤ R.locals) (hdg : decode cc pc = .ok (.invokestatic idx, 3)) (kk : ∀ (g : Nat → Int32) (H1 : Heap) (locs1 : List Loc), g = va_cpy a_full a_less (Int32.toNatClampNeg sp) (Int32.toNatClampNeg dp) (Int32.toNatClampNeg n) → wbW E qb g a_full H1 → va_S (wbA qb) s.heap H1 locs1 → W p l e R s m args below meth c H1 locs1 cells slots Q (F0 m (pc + 3) ls rest)) : W p l e R s m args below meth c H locs cells slots Q (F0 m pc ls (.int n :: .int dp :: .ref (qb + 1) :: .int sp :: .ref (qb + 2) :: rest)) := by
  obtain ⟨hx, hb, hml, hown, hz, hr, hlk⟩ := zc
  exact va_copyi hx hb (hml.trans hsz.symm) hown hlink (hz _ k_acn) (hz _ k_acs) (hz _ k_aci) hK.1 hM (wbD E qb a_less a_full) hS 2 1 1 1 rfl rfl rfl rfl rfl h1 h2 h3 h4 h5 hfit hR hR2 hdg (fun H1 locs1 hP _ hS => kk _ H1 locs1 rfl hP hS)
end
section
variable {s : State} {H : Heap} {E : zE} {qb : Nat} {a_less : Nat → Int32} {a_full : Nat → Int32}
theorem wbFB {av : List Value} : FrameBlind (va_Pc av (fun U => wbW E qb a_less a_full U.heap ∧ zK E U)) := fun a U gg mk h => ⟨h.1, h.2.1, zK_calling h.2.2⟩
theorem wbPreV0 {As : List Value} (hK : zK E s) (hM : wbW E qb a_less a_full H) : PreV s H RX8 qb (va_Pc (.ref qb :: As) (fun U => wbW E qb a_less a_full U.heap ∧ zK E U)) As := ⟨wbFB, va_recv hK.1 hM (ci := 8) (q0 := 0) rfl rfl, fun U hU hW => ⟨rfl, by rw [hU]; exact hM, zK_moved hW hK⟩⟩
end
