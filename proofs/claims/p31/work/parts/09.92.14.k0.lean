section
abbrev wk0L (E : zE) (qk qc : Nat) (o_stands : Option Nat) (a_gaps : Nat → Int32) (a_behind : Nat → Int32) (cf_voices : Int32) (cf_step : Int32) (ca_parts : Nat → Int32) (ca_heights : Nat → Int32) : va_W := [(qk, .inr (5, [va_rf o_stands, .ref (qk + 1), .ref (qk + 2)])), ((qk + 1), .inl (E.2 1, 81, .inl a_gaps)), ((qk + 2), .inl (E.2 1, 9, .inl a_behind)), (qc, .inr (0, [.int cf_voices, .int cf_step, .ref (qc + 1), .ref (qc + 2)])), ((qc + 1), .inl (E.2 1, 9, .inl ca_parts)), ((qc + 2), .inl (E.2 1, 9, .inl ca_heights))]
def wk0Q (qk qc : Nat) : Prop := (qk + 3 ≤ qc ∨ qc + 3 ≤ qk)
def wk0W (E : zE) (qk qc : Nat) (o_stands : Option Nat) (a_gaps : Nat → Int32) (a_behind : Nat → Int32) (cf_voices : Int32) (cf_step : Int32) (ca_parts : Nat → Int32) (ca_heights : Nat → Int32) (H : Heap) : Prop := va_P E.1 zcl (wk0L E qk qc o_stands a_gaps a_behind cf_voices cf_step ca_parts ca_heights) H ∧ wk0Q qk qc
def wk0A (qk qc : Nat) : Nat → Prop := fun a => (qk ≤ a ∧ a < qk + 3) ∨ (qc ≤ a ∧ a < qc + 3)
set_option maxRecDepth 20000 in
theorem wk0D (E : zE) (qk qc : Nat) (o_stands : Option Nat) (a_gaps : Nat → Int32) (a_behind : Nat → Int32) (cf_voices : Int32) (cf_step : Int32) (ca_parts : Nat → Int32) (ca_heights : Nat → Int32) (h : wk0Q qk qc) : va_D (wk0A qk qc) (wk0L E qk qc o_stands a_gaps a_behind cf_voices cf_step ca_parts ca_heights) := by
  refine zD_nd (as := (([0, 1, 2] : List Nat).map (fun k => qk + k) ++ ([0, 1, 2] : List Nat).map (fun k => qc + k))) (by rfl) (nd_app (nd_map (by decide +kernel)) (nd_map (by decide +kernel)) (fun a ha c hc e => ?_)) (fun a ha => ?_)
  · subst e
    unfold wk0Q at h
    have g0 := mem_mp (lo := 0) (hi := 3) (by decide +kernel) ha
    have g := mem_mp (lo := 0) (hi := 3) (by decide +kernel) hc
    omega
  · unfold wk0A
    rcases List.mem_append.mp ha with h0 | h0
    ·
      have g := mem_mp (lo := 0) (hi := 3) (by decide +kernel) h0
      omega
    ·
      have g := mem_mp (lo := 0) (hi := 3) (by decide +kernel) h0
      omega
section
variable {p : Program} {l : Launch} {e : Env} {R : Room} {s : State} {m : MethodId} {args : Array Value} {below : List Frame} {meth : Method} {c : Code} {H : Heap} {locs : List Loc} {cells slots : Nat} {Q : State → Prop} {cc : ByteArray} {pc nL : Nat} {ls : Array Slot} {rest : List Value} {own : String} {ret : Option FieldType} {E : zE} {qk qc : Nat} {o_stands : Option Nat} {a_gaps : Nat → Int32} {a_behind : Nat → Int32} {cf_voices : Int32} {cf_step : Int32} {ca_parts : Nat → Int32} {ca_heights : Nat → Int32}
theorem wk0g_5_9_0 (zc : zC p s m args meth c cc nL RX5 ret) (hK : zK E s) (hM : wk0W E qk qc o_stands a_gaps a_behind cf_voices cf_step ca_parts ca_heights H) (hdg : decode cc pc = .ok (.getfield 9, 3)) (kk : W p l e R s m args below meth c H locs cells slots Q (F0 m (pc + 3) ls (.ref (qk + 1) :: rest))) : W p l e R s m args below meth c H locs cells slots Q (F0 m pc ls (.ref qk :: rest)) := by
  obtain ⟨hx, hb, hml, hown, hz, hr, hlk⟩ := zc
  exact va_get (D := E.1) (ci := 5) (v := .ref (qk + 1)) (C := RX5) (T := TX5) (N := 3) hx hb hz uw5 hown hK.1 hM.1 0 rfl rfl 1 (by decide) (hz _ kf_5_9) (fun _ h9 => h9) rfl hdg kk
theorem wk0g_5_15_0 (zc : zC p s m args meth c cc nL RX5 ret) (hK : zK E s) (hM : wk0W E qk qc o_stands a_gaps a_behind cf_voices cf_step ca_parts ca_heights H) (hdg : decode cc pc = .ok (.getfield 15, 3)) (kk : W p l e R s m args below meth c H locs cells slots Q (F0 m (pc + 3) ls (.ref (qk + 2) :: rest))) : W p l e R s m args below meth c H locs cells slots Q (F0 m pc ls (.ref qk :: rest)) := by
  obtain ⟨hx, hb, hml, hown, hz, hr, hlk⟩ := zc
  exact va_get (D := E.1) (ci := 5) (v := .ref (qk + 2)) (C := RX5) (T := TX5) (N := 3) hx hb hz uw5 hown hK.1 hM.1 0 rfl rfl 2 (by decide) (hz _ kf_5_15) (fun _ h9 => h9) rfl hdg kk
theorem wk0g_5_26_3 (zc : zC p s m args meth c cc nL RX5 ret) (hK : zK E s) (hM : wk0W E qk qc o_stands a_gaps a_behind cf_voices cf_step ca_parts ca_heights H) (hdg : decode cc pc = .ok (.getfield 26, 3)) (kk : W p l e R s m args below meth c H locs cells slots Q (F0 m (pc + 3) ls (.int cf_voices :: rest))) : W p l e R s m args below meth c H locs cells slots Q (F0 m pc ls (.ref qc :: rest)) := by
  obtain ⟨hx, hb, hml, hown, hz, hr, hlk⟩ := zc
  exact va_get (D := E.1) (ci := 0) (v := .int cf_voices) (C := RX0) (T := TX0) (N := 4) hx hb hz uw0 hown hK.1 hM.1 3 rfl rfl 0 (by decide) (hz _ kf_5_26) (fun _ h9 => h9) rfl hdg kk
theorem wk0g_5_44_3 (zc : zC p s m args meth c cc nL RX5 ret) (hK : zK E s) (hM : wk0W E qk qc o_stands a_gaps a_behind cf_voices cf_step ca_parts ca_heights H) (hdg : decode cc pc = .ok (.getfield 44, 3)) (kk : W p l e R s m args below meth c H locs cells slots Q (F0 m (pc + 3) ls (.int cf_step :: rest))) : W p l e R s m args below meth c H locs cells slots Q (F0 m pc ls (.ref qc :: rest)) := by
  obtain ⟨hx, hb, hml, hown, hz, hr, hlk⟩ := zc
  exact va_get (D := E.1) (ci := 0) (v := .int cf_step) (C := RX0) (T := TX0) (N := 4) hx hb hz uw0 hown hK.1 hM.1 3 rfl rfl 1 (by decide) (hz _ kf_5_44) (fun _ h9 => h9) rfl hdg kk
theorem wk0st_1 {i : Int32} {x : Int32} (zc : zC p s m args meth c cc nL own ret) (hK : zK E s) (hM : wk0W E qk qc o_stands a_gaps a_behind cf_voices cf_step ca_parts ca_heights H) (hS : va_S (wk0A qk qc) s.heap H locs) (hin : vp_in i 81) (hdg : decode cc pc = .ok (.iastore, 1)) (kk : ∀ (g : Nat → Int32) (H1 : Heap) (locs1 : List Loc), g = upd a_gaps i.toNatClampNeg x → wk0W E qk qc o_stands g a_behind cf_voices cf_step ca_parts ca_heights H1 → va_S (wk0A qk qc) s.heap H1 locs1 → W p l e R s m args below meth c H1 locs1 cells slots Q (F0 m (pc + 1) ls rest)) : W p l e R s m args below meth c H locs cells slots Q (F0 m pc ls (.int x :: .int i :: .ref (qk + 1) :: rest)) := by
  obtain ⟨hx, hb, hml, hown, hz, hr, hlk⟩ := zc
  exact va_iast hx hb hK.1 hM.1 (wk0D E qk qc o_stands a_gaps a_behind cf_voices cf_step ca_parts ca_heights hM.2) hS 1 1 rfl rfl hin hdg (fun H1 locs1 hP _ hS => kk _ H1 locs1 rfl ⟨hP, hM.2⟩ hS)
theorem wk0ld_2 {i : Int32} (zc : zC p s m args meth c cc nL own ret) (hK : zK E s) (hM : wk0W E qk qc o_stands a_gaps a_behind cf_voices cf_step ca_parts ca_heights H) (hin : vp_in i 9) (hdg : decode cc pc = .ok (.iaload, 1)) (kk : W p l e R s m args below meth c H locs cells slots Q (F0 m (pc + 1) ls (.int (a_behind i.toNatClampNeg) :: rest))) : W p l e R s m args below meth c H locs cells slots Q (F0 m pc ls (.int i :: .ref (qk + 2) :: rest)) := by
  obtain ⟨hx, hb, hml, hown, hz, hr, hlk⟩ := zc
  exact va_iald hx hb hK.1 hM.1 2 1 rfl rfl hin hdg kk
theorem wk0st_2 {i : Int32} {x : Int32} (zc : zC p s m args meth c cc nL own ret) (hK : zK E s) (hM : wk0W E qk qc o_stands a_gaps a_behind cf_voices cf_step ca_parts ca_heights H) (hS : va_S (wk0A qk qc) s.heap H locs) (hin : vp_in i 9) (hdg : decode cc pc = .ok (.iastore, 1)) (kk : ∀ (g : Nat → Int32) (H1 : Heap) (locs1 : List Loc), g = upd a_behind i.toNatClampNeg x → wk0W E qk qc o_stands a_gaps g cf_voices cf_step ca_parts ca_heights H1 → va_S (wk0A qk qc) s.heap H1 locs1 → W p l e R s m args below meth c H1 locs1 cells slots Q (F0 m (pc + 1) ls rest)) : W p l e R s m args below meth c H locs cells slots Q (F0 m pc ls (.int x :: .int i :: .ref (qk + 2) :: rest)) := by
  obtain ⟨hx, hb, hml, hown, hz, hr, hlk⟩ := zc
  exact va_iast hx hb hK.1 hM.1 (wk0D E qk qc o_stands a_gaps a_behind cf_voices cf_step ca_parts ca_heights hM.2) hS 2 1 rfl rfl hin hdg (fun H1 locs1 hP _ hS => kk _ H1 locs1 rfl ⟨hP, hM.2⟩ hS)
end
section
variable {s : State} {H : Heap} {E : zE} {qk qc : Nat} {o_stands : Option Nat} {a_gaps : Nat → Int32} {a_behind : Nat → Int32} {cf_voices : Int32} {cf_step : Int32} {ca_parts : Nat → Int32} {ca_heights : Nat → Int32}
theorem wk0FB {av : List Value} : FrameBlind (va_Pc av (fun U => wk0W E qk qc o_stands a_gaps a_behind cf_voices cf_step ca_parts ca_heights U.heap ∧ zK E U)) := fun a U gg mk h => ⟨h.1, h.2.1, zK_calling h.2.2⟩
theorem wk0PreV0 {As : List Value} (hK : zK E s) (hM : wk0W E qk qc o_stands a_gaps a_behind cf_voices cf_step ca_parts ca_heights H) : PreV s H RX5 qk (va_Pc (.ref qk :: As) (fun U => wk0W E qk qc o_stands a_gaps a_behind cf_voices cf_step ca_parts ca_heights U.heap ∧ zK E U)) As := ⟨wk0FB, va_recv hK.1 hM.1 (ci := 5) (q0 := 0) rfl rfl, fun U hU hW => ⟨rfl, by rw [hU]; exact hM, zK_moved hW hK⟩⟩
end
set_option maxRecDepth 20000 in
theorem pj_wk0_wc_3 {H : Heap} {E : zE} {qk qc : Nat} {o_stands : Option Nat} {a_gaps : Nat → Int32} {a_behind : Nat → Int32} {cf_voices : Int32} {cf_step : Int32} {ca_parts : Nat → Int32} {ca_heights : Nat → Int32} (h : wk0W E qk qc o_stands a_gaps a_behind cf_voices cf_step ca_parts ca_heights H) : wcW E qc cf_voices cf_step ca_parts ca_heights H := va_P.sub h.1 [3, 4, 5] rfl
end
section
abbrev wkL (E : zE) (qk qc qz : Nat) (a_gaps : Nat → Int32) (a_behind : Nat → Int32) (cf_voices : Int32) (cf_step : Int32) (ca_parts : Nat → Int32) (ca_heights : Nat → Int32) (z_tab : Nat → Int32) : va_W := [(qk, .inr (5, [.ref qz, .ref (qk + 1), .ref (qk + 2)])), ((qk + 1), .inl (E.2 1, 81, .inl a_gaps)), ((qk + 2), .inl (E.2 1, 9, .inl a_behind)), (qc, .inr (0, [.int cf_voices, .int cf_step, .ref (qc + 1), .ref (qc + 2)])), ((qc + 1), .inl (E.2 1, 9, .inl ca_parts)), ((qc + 2), .inl (E.2 1, 9, .inl ca_heights)), (qz, .inl (E.2 1, 4608, .inl z_tab))]
def wkQ (qk qc qz : Nat) : Prop := (qk + 3 ≤ qc ∨ qc + 3 ≤ qk) ∧ (qk + 3 ≤ qz ∨ qz + 1 ≤ qk) ∧ (qc + 3 ≤ qz ∨ qz + 1 ≤ qc)
def wkW (E : zE) (qk qc qz : Nat) (a_gaps : Nat → Int32) (a_behind : Nat → Int32) (cf_voices : Int32) (cf_step : Int32) (ca_parts : Nat → Int32) (ca_heights : Nat → Int32) (z_tab : Nat → Int32) (H : Heap) : Prop := va_P E.1 zcl (wkL E qk qc qz a_gaps a_behind cf_voices cf_step ca_parts ca_heights z_tab) H ∧ wkQ qk qc qz
def wkA (qk qc qz : Nat) : Nat → Prop := fun a => (qk ≤ a ∧ a < qk + 3) ∨ (qc ≤ a ∧ a < qc + 3) ∨ (qz ≤ a ∧ a < qz + 1)
set_option maxRecDepth 20000 in
theorem wkD (E : zE) (qk qc qz : Nat) (a_gaps : Nat → Int32) (a_behind : Nat → Int32) (cf_voices : Int32) (cf_step : Int32) (ca_parts : Nat → Int32) (ca_heights : Nat → Int32) (z_tab : Nat → Int32) (h : wkQ qk qc qz) : va_D (wkA qk qc qz) (wkL E qk qc qz a_gaps a_behind cf_voices cf_step ca_parts ca_heights z_tab) := by
  refine zD_nd (as := (([0, 1, 2] : List Nat).map (fun k => qk + k) ++ (([0, 1, 2] : List Nat).map (fun k => qc + k) ++ ([0] : List Nat).map (fun k => qz + k)))) (by rfl) (nd_app (nd_map (by decide +kernel)) (nd_app (nd_map (by decide +kernel)) (nd_map (by decide +kernel)) (fun a ha c hc e => ?_)) (fun a ha c hc e => ?_)) (fun a ha => ?_)
  · subst e
    unfold wkQ at h
    have g0 := mem_mp (lo := 0) (hi := 3) (by decide +kernel) ha
    have g := mem_mp (lo := 0) (hi := 1) (by decide +kernel) hc
    omega
  · subst e
    unfold wkQ at h
    have g0 := mem_mp (lo := 0) (hi := 3) (by decide +kernel) ha
    rcases List.mem_append.mp hc with h1 | h1
    ·
      have g := mem_mp (lo := 0) (hi := 3) (by decide +kernel) h1
      omega
    ·
      have g := mem_mp (lo := 0) (hi := 1) (by decide +kernel) h1
      omega
  · unfold wkA
    rcases List.mem_append.mp ha with h0 | h0
    ·
      have g := mem_mp (lo := 0) (hi := 3) (by decide +kernel) h0
      omega
    ·
      rcases List.mem_append.mp h0 with h1 | h1
      ·
        have g := mem_mp (lo := 0) (hi := 3) (by decide +kernel) h1
        omega
      ·
        have g := mem_mp (lo := 0) (hi := 1) (by decide +kernel) h1
        omega
section
variable {p : Program} {l : Launch} {e : Env} {R : Room} {s : State} {m : MethodId} {args : Array Value} {below : List Frame} {meth : Method} {c : Code} {H : Heap} {locs : List Loc} {cells slots : Nat} {Q : State → Prop} {cc : ByteArray} {pc nL : Nat} {ls : Array Slot} {rest : List Value} {own : String} {ret : Option FieldType} {E : zE} {qk qc qz : Nat} {a_gaps : Nat → Int32} {a_behind : Nat → Int32} {cf_voices : Int32} {cf_step : Int32} {ca_parts : Nat → Int32} {ca_heights : Nat → Int32} {z_tab : Nat → Int32}
theorem wkg_5_9_0 (zc : zC p s m args meth c cc nL RX5 ret) (hK : zK E s) (hM : wkW E qk qc qz a_gaps a_behind cf_voices cf_step ca_parts ca_heights z_tab H) (hdg : decode cc pc = .ok (.getfield 9, 3)) (kk : W p l e R s m args below meth c H locs cells slots Q (F0 m (pc + 3) ls (.ref (qk + 1) :: rest))) : W p l e R s m args below meth c H locs cells slots Q (F0 m pc ls (.ref qk :: rest)) := by
  obtain ⟨hx, hb, hml, hown, hz, hr, hlk⟩ := zc
  exact va_get (D := E.1) (ci := 5) (v := .ref (qk + 1)) (C := RX5) (T := TX5) (N := 3) hx hb hz uw5 hown hK.1 hM.1 0 rfl rfl 1 (by decide) (hz _ kf_5_9) (fun _ h9 => h9) rfl hdg kk
theorem wkg_5_15_0 (zc : zC p s m args meth c cc nL RX5 ret) (hK : zK E s) (hM : wkW E qk qc qz a_gaps a_behind cf_voices cf_step ca_parts ca_heights z_tab H) (hdg : decode cc pc = .ok (.getfield 15, 3)) (kk : W p l e R s m args below meth c H locs cells slots Q (F0 m (pc + 3) ls (.ref (qk + 2) :: rest))) : W p l e R s m args below meth c H locs cells slots Q (F0 m pc ls (.ref qk :: rest)) := by
  obtain ⟨hx, hb, hml, hown, hz, hr, hlk⟩ := zc
  exact va_get (D := E.1) (ci := 5) (v := .ref (qk + 2)) (C := RX5) (T := TX5) (N := 3) hx hb hz uw5 hown hK.1 hM.1 0 rfl rfl 2 (by decide) (hz _ kf_5_15) (fun _ h9 => h9) rfl hdg kk
theorem wkg_5_26_3 (zc : zC p s m args meth c cc nL RX5 ret) (hK : zK E s) (hM : wkW E qk qc qz a_gaps a_behind cf_voices cf_step ca_parts ca_heights z_tab H) (hdg : decode cc pc = .ok (.getfield 26, 3)) (kk : W p l e R s m args below meth c H locs cells slots Q (F0 m (pc + 3) ls (.int cf_voices :: rest))) : W p l e R s m args below meth c H locs cells slots Q (F0 m pc ls (.ref qc :: rest)) := by
  obtain ⟨hx, hb, hml, hown, hz, hr, hlk⟩ := zc
  exact va_get (D := E.1) (ci := 0) (v := .int cf_voices) (C := RX0) (T := TX0) (N := 4) hx hb hz uw0 hown hK.1 hM.1 3 rfl rfl 0 (by decide) (hz _ kf_5_26) (fun _ h9 => h9) rfl hdg kk
theorem wkg_5_44_3 (zc : zC p s m args meth c cc nL RX5 ret) (hK : zK E s) (hM : wkW E qk qc qz a_gaps a_behind cf_voices cf_step ca_parts ca_heights z_tab H) (hdg : decode cc pc = .ok (.getfield 44, 3)) (kk : W p l e R s m args below meth c H locs cells slots Q (F0 m (pc + 3) ls (.int cf_step :: rest))) : W p l e R s m args below meth c H locs cells slots Q (F0 m pc ls (.ref qc :: rest)) := by
  obtain ⟨hx, hb, hml, hown, hz, hr, hlk⟩ := zc
  exact va_get (D := E.1) (ci := 0) (v := .int cf_step) (C := RX0) (T := TX0) (N := 4) hx hb hz uw0 hown hK.1 hM.1 3 rfl rfl 1 (by decide) (hz _ kf_5_44) (fun _ h9 => h9) rfl hdg kk
theorem wkg_5_66_0 (zc : zC p s m args meth c cc nL RX5 ret) (hK : zK E s) (hM : wkW E qk qc qz a_gaps a_behind cf_voices cf_step ca_parts ca_heights z_tab H) (hdg : decode cc pc = .ok (.getfield 66, 3)) (kk : W p l e R s m args below meth c H locs cells slots Q (F0 m (pc + 3) ls (.ref qz :: rest))) : W p l e R s m args below meth c H locs cells slots Q (F0 m pc ls (.ref qk :: rest)) := by
  obtain ⟨hx, hb, hml, hown, hz, hr, hlk⟩ := zc
  exact va_get (D := E.1) (ci := 5) (v := .ref qz) (C := RX5) (T := TX5) (N := 3) hx hb hz uw5 hown hK.1 hM.1 0 rfl rfl 0 (by decide) (hz _ kf_5_66) (fun _ h9 => h9) rfl hdg kk
theorem wkld_1 {i : Int32} (zc : zC p s m args meth c cc nL own ret) (hK : zK E s) (hM : wkW E qk qc qz a_gaps a_behind cf_voices cf_step ca_parts ca_heights z_tab H) (hin : vp_in i 81) (hdg : decode cc pc = .ok (.iaload, 1)) (kk : W p l e R s m args below meth c H locs cells slots Q (F0 m (pc + 1) ls (.int (a_gaps i.toNatClampNeg) :: rest))) : W p l e R s m args below meth c H locs cells slots Q (F0 m pc ls (.int i :: .ref (qk + 1) :: rest)) := by
  obtain ⟨hx, hb, hml, hown, hz, hr, hlk⟩ := zc
  exact va_iald hx hb hK.1 hM.1 1 1 rfl rfl hin hdg kk
theorem wkst_1 {i : Int32} {x : Int32} (zc : zC p s m args meth c cc nL own ret) (hK : zK E s) (hM : wkW E qk qc qz a_gaps a_behind cf_voices cf_step ca_parts ca_heights z_tab H) (hS : va_S (wkA qk qc qz) s.heap H locs) (hin : vp_in i 81) (hdg : decode cc pc = .ok (.iastore, 1)) (kk : ∀ (g : Nat → Int32) (H1 : Heap) (locs1 : List Loc), g = upd a_gaps i.toNatClampNeg x → wkW E qk qc qz g a_behind cf_voices cf_step ca_parts ca_heights z_tab H1 → va_S (wkA qk qc qz) s.heap H1 locs1 → W p l e R s m args below meth c H1 locs1 cells slots Q (F0 m (pc + 1) ls rest)) : W p l e R s m args below meth c H locs cells slots Q (F0 m pc ls (.int x :: .int i :: .ref (qk + 1) :: rest)) := by
  obtain ⟨hx, hb, hml, hown, hz, hr, hlk⟩ := zc
  exact va_iast hx hb hK.1 hM.1 (wkD E qk qc qz a_gaps a_behind cf_voices cf_step ca_parts ca_heights z_tab hM.2) hS 1 1 rfl rfl hin hdg (fun H1 locs1 hP _ hS => kk _ H1 locs1 rfl ⟨hP, hM.2⟩ hS)
theorem wkld_2 {i : Int32} (zc : zC p s m args meth c cc nL own ret) (hK : zK E s) (hM : wkW E qk qc qz a_gaps a_behind cf_voices cf_step ca_parts ca_heights z_tab H) (hin : vp_in i 9) (hdg : decode cc pc = .ok (.iaload, 1)) (kk : W p l e R s m args below meth c H locs cells slots Q (F0 m (pc + 1) ls (.int (a_behind i.toNatClampNeg) :: rest))) : W p l e R s m args below meth c H locs cells slots Q (F0 m pc ls (.int i :: .ref (qk + 2) :: rest)) := by
  obtain ⟨hx, hb, hml, hown, hz, hr, hlk⟩ := zc
  exact va_iald hx hb hK.1 hM.1 2 1 rfl rfl hin hdg kk
theorem wkst_2 {i : Int32} {x : Int32} (zc : zC p s m args meth c cc nL own ret) (hK : zK E s) (hM : wkW E qk qc qz a_gaps a_behind cf_voices cf_step ca_parts ca_heights z_tab H) (hS : va_S (wkA qk qc qz) s.heap H locs) (hin : vp_in i 9) (hdg : decode cc pc = .ok (.iastore, 1)) (kk : ∀ (g : Nat → Int32) (H1 : Heap) (locs1 : List Loc), g = upd a_behind i.toNatClampNeg x → wkW E qk qc qz a_gaps g cf_voices cf_step ca_parts ca_heights z_tab H1 → va_S (wkA qk qc qz) s.heap H1 locs1 → W p l e R s m args below meth c H1 locs1 cells slots Q (F0 m (pc + 1) ls rest)) : W p l e R s m args below meth c H locs cells slots Q (F0 m pc ls (.int x :: .int i :: .ref (qk + 2) :: rest)) := by
  obtain ⟨hx, hb, hml, hown, hz, hr, hlk⟩ := zc
  exact va_iast hx hb hK.1 hM.1 (wkD E qk qc qz a_gaps a_behind cf_voices cf_step ca_parts ca_heights z_tab hM.2) hS 2 1 rfl rfl hin hdg (fun H1 locs1 hP _ hS => kk _ H1 locs1 rfl ⟨hP, hM.2⟩ hS)
theorem wkld_6 {i : Int32} (zc : zC p s m args meth c cc nL own ret) (hK : zK E s) (hM : wkW E qk qc qz a_gaps a_behind cf_voices cf_step ca_parts ca_heights z_tab H) (hin : vp_in i 4608) (hdg : decode cc pc = .ok (.iaload, 1)) (kk : W p l e R s m args below meth c H locs cells slots Q (F0 m (pc + 1) ls (.int (z_tab i.toNatClampNeg) :: rest))) : W p l e R s m args below meth c H locs cells slots Q (F0 m pc ls (.int i :: .ref qz :: rest)) := by
  obtain ⟨hx, hb, hml, hown, hz, hr, hlk⟩ := zc
  exact va_iald hx hb hK.1 hM.1 6 1 rfl rfl hin hdg kk
theorem wkst_6 {i : Int32} {x : Int32} (zc : zC p s m args meth c cc nL own ret) (hK : zK E s) (hM : wkW E qk qc qz a_gaps a_behind cf_voices cf_step ca_parts ca_heights z_tab H) (hS : va_S (wkA qk qc qz) s.heap H locs) (hin : vp_in i 4608) (hdg : decode cc pc = .ok (.iastore, 1)) (kk : ∀ (g : Nat → Int32) (H1 : Heap) (locs1 : List Loc), g = upd z_tab i.toNatClampNeg x → wkW E qk qc qz a_gaps a_behind cf_voices cf_step ca_parts ca_heights g H1 → va_S (wkA qk qc qz) s.heap H1 locs1 → W p l e R s m args below meth c H1 locs1 cells slots Q (F0 m (pc + 1) ls rest)) : W p l e R s m args below meth c H locs cells slots Q (F0 m pc ls (.int x :: .int i :: .ref qz :: rest)) := by
  obtain ⟨hx, hb, hml, hown, hz, hr, hlk⟩ := zc
  exact va_iast hx hb hK.1 hM.1 (wkD E qk qc qz a_gaps a_behind cf_voices cf_step ca_parts ca_heights z_tab hM.2) hS 6 1 rfl rfl hin hdg (fun H1 locs1 hP _ hS => kk _ H1 locs1 rfl ⟨hP, hM.2⟩ hS)
end
section
variable {s : State} {H : Heap} {E : zE} {qk qc qz : Nat} {a_gaps : Nat → Int32} {a_behind : Nat → Int32} {cf_voices : Int32} {cf_step : Int32} {ca_parts : Nat → Int32} {ca_heights : Nat → Int32} {z_tab : Nat → Int32}
theorem wkFB {av : List Value} : FrameBlind (va_Pc av (fun U => wkW E qk qc qz a_gaps a_behind cf_voices cf_step ca_parts ca_heights z_tab U.heap ∧ zK E U)) := fun a U gg mk h => ⟨h.1, h.2.1, zK_calling h.2.2⟩
theorem wkPreV0 {As : List Value} (hK : zK E s) (hM : wkW E qk qc qz a_gaps a_behind cf_voices cf_step ca_parts ca_heights z_tab H) : PreV s H RX5 qk (va_Pc (.ref qk :: As) (fun U => wkW E qk qc qz a_gaps a_behind cf_voices cf_step ca_parts ca_heights z_tab U.heap ∧ zK E U)) As := ⟨wkFB, va_recv hK.1 hM.1 (ci := 5) (q0 := 0) rfl rfl, fun U hU hW => ⟨rfl, by rw [hU]; exact hM, zK_moved hW hK⟩⟩
theorem wkPreS {As : List Value} (hK : zK E s) (hM : wkW E qk qc qz a_gaps a_behind cf_voices cf_step ca_parts ca_heights z_tab H) : PreS s H (va_Pc As (fun U => wkW E qk qc qz a_gaps a_behind cf_voices cf_step ca_parts ca_heights z_tab U.heap ∧ zK E U)) As := ⟨wkFB, fun U hU hW => ⟨rfl, by rw [hU]; exact hM, zK_moved hW hK⟩⟩
end
set_option maxRecDepth 20000 in
theorem pj_wk_wc_3 {H : Heap} {E : zE} {qk qc qz : Nat} {a_gaps : Nat → Int32} {a_behind : Nat → Int32} {cf_voices : Int32} {cf_step : Int32} {ca_parts : Nat → Int32} {ca_heights : Nat → Int32} {z_tab : Nat → Int32} (h : wkW E qk qc qz a_gaps a_behind cf_voices cf_step ca_parts ca_heights z_tab H) : wcW E qc cf_voices cf_step ca_parts ca_heights H := va_P.sub h.1 [3, 4, 5] rfl
end
