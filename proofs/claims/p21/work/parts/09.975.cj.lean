section
theorem lfp_1 {α0 : Type} {F1 F2 F3 : (α0 → Prop) → α0 → Prop} {z0 : α0} (h1 : ∀ P : α0 → Prop, (∀ x0, F1 P x0 → P x0) → P z0) (h2 : ∀ P : α0 → Prop, (∀ x0, F2 P x0 → P x0) → P z0) (cj : ∀ (A B C : α0 → Prop), (∀ x0, A x0 → B x0 → C x0) → ∀ x0, F1 A x0 → F2 B x0 → F3 C x0) (mn : ∀ (A B : α0 → Prop), (∀ x0, A x0 → B x0) → ∀ x0, F2 A x0 → F2 B x0) : ∀ P : α0 → Prop, (∀ x0, F3 P x0 → P x0) → P z0 := by
  intro P hP
  refine h1 (fun x0 => (∀ Q : α0 → Prop, (∀ x0, F2 Q x0 → Q x0) → Q x0) → P x0) ?_ h2
  intro x0 ha hl
  refine hP x0 (cj (fun x0 => (∀ Q : α0 → Prop, (∀ x0, F2 Q x0 → Q x0) → Q x0) → P x0) (fun x0 => ∀ Q : α0 → Prop, (∀ x0, F2 Q x0 → Q x0) → Q x0) P (fun _ a b => a b) x0 ha ?_)
  refine hl (fun x0 => F2 (fun x0 => ∀ Q : α0 → Prop, (∀ x0, F2 Q x0 → Q x0) → Q x0) x0) ?_
  intro x0 hb
  refine mn _ _ ?_ x0 hb
  intro x0 hc Q hQ
  exact hQ x0 (mn _ _ (fun _ h => h Q hQ) x0 hc)

theorem lfp_2 {α0 α1 : Type} {F1 F2 F3 : (α0 → α1 → Prop) → α0 → α1 → Prop} {z0 : α0} {z1 : α1} (h1 : ∀ P : α0 → α1 → Prop, (∀ x0 x1, F1 P x0 x1 → P x0 x1) → P z0 z1) (h2 : ∀ P : α0 → α1 → Prop, (∀ x0 x1, F2 P x0 x1 → P x0 x1) → P z0 z1) (cj : ∀ (A B C : α0 → α1 → Prop), (∀ x0 x1, A x0 x1 → B x0 x1 → C x0 x1) → ∀ x0 x1, F1 A x0 x1 → F2 B x0 x1 → F3 C x0 x1) (mn : ∀ (A B : α0 → α1 → Prop), (∀ x0 x1, A x0 x1 → B x0 x1) → ∀ x0 x1, F2 A x0 x1 → F2 B x0 x1) : ∀ P : α0 → α1 → Prop, (∀ x0 x1, F3 P x0 x1 → P x0 x1) → P z0 z1 := by
  intro P hP
  refine h1 (fun x0 x1 => (∀ Q : α0 → α1 → Prop, (∀ x0 x1, F2 Q x0 x1 → Q x0 x1) → Q x0 x1) → P x0 x1) ?_ h2
  intro x0 x1 ha hl
  refine hP x0 x1 (cj (fun x0 x1 => (∀ Q : α0 → α1 → Prop, (∀ x0 x1, F2 Q x0 x1 → Q x0 x1) → Q x0 x1) → P x0 x1) (fun x0 x1 => ∀ Q : α0 → α1 → Prop, (∀ x0 x1, F2 Q x0 x1 → Q x0 x1) → Q x0 x1) P (fun _ _ a b => a b) x0 x1 ha ?_)
  refine hl (fun x0 x1 => F2 (fun x0 x1 => ∀ Q : α0 → α1 → Prop, (∀ x0 x1, F2 Q x0 x1 → Q x0 x1) → Q x0 x1) x0 x1) ?_
  intro x0 x1 hb
  refine mn _ _ ?_ x0 x1 hb
  intro x0 x1 hc Q hQ
  exact hQ x0 x1 (mn _ _ (fun _ _ h => h Q hQ) x0 x1 hc)

theorem lfp_3 {α0 α1 α2 : Type} {F1 F2 F3 : (α0 → α1 → α2 → Prop) → α0 → α1 → α2 → Prop} {z0 : α0} {z1 : α1} {z2 : α2} (h1 : ∀ P : α0 → α1 → α2 → Prop, (∀ x0 x1 x2, F1 P x0 x1 x2 → P x0 x1 x2) → P z0 z1 z2) (h2 : ∀ P : α0 → α1 → α2 → Prop, (∀ x0 x1 x2, F2 P x0 x1 x2 → P x0 x1 x2) → P z0 z1 z2) (cj : ∀ (A B C : α0 → α1 → α2 → Prop), (∀ x0 x1 x2, A x0 x1 x2 → B x0 x1 x2 → C x0 x1 x2) → ∀ x0 x1 x2, F1 A x0 x1 x2 → F2 B x0 x1 x2 → F3 C x0 x1 x2) (mn : ∀ (A B : α0 → α1 → α2 → Prop), (∀ x0 x1 x2, A x0 x1 x2 → B x0 x1 x2) → ∀ x0 x1 x2, F2 A x0 x1 x2 → F2 B x0 x1 x2) : ∀ P : α0 → α1 → α2 → Prop, (∀ x0 x1 x2, F3 P x0 x1 x2 → P x0 x1 x2) → P z0 z1 z2 := by
  intro P hP
  refine h1 (fun x0 x1 x2 => (∀ Q : α0 → α1 → α2 → Prop, (∀ x0 x1 x2, F2 Q x0 x1 x2 → Q x0 x1 x2) → Q x0 x1 x2) → P x0 x1 x2) ?_ h2
  intro x0 x1 x2 ha hl
  refine hP x0 x1 x2 (cj (fun x0 x1 x2 => (∀ Q : α0 → α1 → α2 → Prop, (∀ x0 x1 x2, F2 Q x0 x1 x2 → Q x0 x1 x2) → Q x0 x1 x2) → P x0 x1 x2) (fun x0 x1 x2 => ∀ Q : α0 → α1 → α2 → Prop, (∀ x0 x1 x2, F2 Q x0 x1 x2 → Q x0 x1 x2) → Q x0 x1 x2) P (fun _ _ _ a b => a b) x0 x1 x2 ha ?_)
  refine hl (fun x0 x1 x2 => F2 (fun x0 x1 x2 => ∀ Q : α0 → α1 → α2 → Prop, (∀ x0 x1 x2, F2 Q x0 x1 x2 → Q x0 x1 x2) → Q x0 x1 x2) x0 x1 x2) ?_
  intro x0 x1 x2 hb
  refine mn _ _ ?_ x0 x1 x2 hb
  intro x0 x1 x2 hc Q hQ
  exact hQ x0 x1 x2 (mn _ _ (fun _ _ _ h => h Q hQ) x0 x1 x2 hc)

theorem lfp_4 {α0 α1 α2 α3 : Type} {F1 F2 F3 : (α0 → α1 → α2 → α3 → Prop) → α0 → α1 → α2 → α3 → Prop} {z0 : α0} {z1 : α1} {z2 : α2} {z3 : α3} (h1 : ∀ P : α0 → α1 → α2 → α3 → Prop, (∀ x0 x1 x2 x3, F1 P x0 x1 x2 x3 → P x0 x1 x2 x3) → P z0 z1 z2 z3) (h2 : ∀ P : α0 → α1 → α2 → α3 → Prop, (∀ x0 x1 x2 x3, F2 P x0 x1 x2 x3 → P x0 x1 x2 x3) → P z0 z1 z2 z3) (cj : ∀ (A B C : α0 → α1 → α2 → α3 → Prop), (∀ x0 x1 x2 x3, A x0 x1 x2 x3 → B x0 x1 x2 x3 → C x0 x1 x2 x3) → ∀ x0 x1 x2 x3, F1 A x0 x1 x2 x3 → F2 B x0 x1 x2 x3 → F3 C x0 x1 x2 x3) (mn : ∀ (A B : α0 → α1 → α2 → α3 → Prop), (∀ x0 x1 x2 x3, A x0 x1 x2 x3 → B x0 x1 x2 x3) → ∀ x0 x1 x2 x3, F2 A x0 x1 x2 x3 → F2 B x0 x1 x2 x3) : ∀ P : α0 → α1 → α2 → α3 → Prop, (∀ x0 x1 x2 x3, F3 P x0 x1 x2 x3 → P x0 x1 x2 x3) → P z0 z1 z2 z3 := by
  intro P hP
  refine h1 (fun x0 x1 x2 x3 => (∀ Q : α0 → α1 → α2 → α3 → Prop, (∀ x0 x1 x2 x3, F2 Q x0 x1 x2 x3 → Q x0 x1 x2 x3) → Q x0 x1 x2 x3) → P x0 x1 x2 x3) ?_ h2
  intro x0 x1 x2 x3 ha hl
  refine hP x0 x1 x2 x3 (cj (fun x0 x1 x2 x3 => (∀ Q : α0 → α1 → α2 → α3 → Prop, (∀ x0 x1 x2 x3, F2 Q x0 x1 x2 x3 → Q x0 x1 x2 x3) → Q x0 x1 x2 x3) → P x0 x1 x2 x3) (fun x0 x1 x2 x3 => ∀ Q : α0 → α1 → α2 → α3 → Prop, (∀ x0 x1 x2 x3, F2 Q x0 x1 x2 x3 → Q x0 x1 x2 x3) → Q x0 x1 x2 x3) P (fun _ _ _ _ a b => a b) x0 x1 x2 x3 ha ?_)
  refine hl (fun x0 x1 x2 x3 => F2 (fun x0 x1 x2 x3 => ∀ Q : α0 → α1 → α2 → α3 → Prop, (∀ x0 x1 x2 x3, F2 Q x0 x1 x2 x3 → Q x0 x1 x2 x3) → Q x0 x1 x2 x3) x0 x1 x2 x3) ?_
  intro x0 x1 x2 x3 hb
  refine mn _ _ ?_ x0 x1 x2 x3 hb
  intro x0 x1 x2 x3 hc Q hQ
  exact hQ x0 x1 x2 x3 (mn _ _ (fun _ _ _ _ h => h Q hQ) x0 x1 x2 x3 hc)

theorem lfp_8 {α0 α1 α2 α3 α4 α5 α6 α7 : Type} {F1 F2 F3 : (α0 → α1 → α2 → α3 → α4 → α5 → α6 → α7 → Prop) → α0 → α1 → α2 → α3 → α4 → α5 → α6 → α7 → Prop} {z0 : α0} {z1 : α1} {z2 : α2} {z3 : α3} {z4 : α4} {z5 : α5} {z6 : α6} {z7 : α7} (h1 : ∀ P : α0 → α1 → α2 → α3 → α4 → α5 → α6 → α7 → Prop, (∀ x0 x1 x2 x3 x4 x5 x6 x7, F1 P x0 x1 x2 x3 x4 x5 x6 x7 → P x0 x1 x2 x3 x4 x5 x6 x7) → P z0 z1 z2 z3 z4 z5 z6 z7) (h2 : ∀ P : α0 → α1 → α2 → α3 → α4 → α5 → α6 → α7 → Prop, (∀ x0 x1 x2 x3 x4 x5 x6 x7, F2 P x0 x1 x2 x3 x4 x5 x6 x7 → P x0 x1 x2 x3 x4 x5 x6 x7) → P z0 z1 z2 z3 z4 z5 z6 z7) (cj : ∀ (A B C : α0 → α1 → α2 → α3 → α4 → α5 → α6 → α7 → Prop), (∀ x0 x1 x2 x3 x4 x5 x6 x7, A x0 x1 x2 x3 x4 x5 x6 x7 → B x0 x1 x2 x3 x4 x5 x6 x7 → C x0 x1 x2 x3 x4 x5 x6 x7) → ∀ x0 x1 x2 x3 x4 x5 x6 x7, F1 A x0 x1 x2 x3 x4 x5 x6 x7 → F2 B x0 x1 x2 x3 x4 x5 x6 x7 → F3 C x0 x1 x2 x3 x4 x5 x6 x7) (mn : ∀ (A B : α0 → α1 → α2 → α3 → α4 → α5 → α6 → α7 → Prop), (∀ x0 x1 x2 x3 x4 x5 x6 x7, A x0 x1 x2 x3 x4 x5 x6 x7 → B x0 x1 x2 x3 x4 x5 x6 x7) → ∀ x0 x1 x2 x3 x4 x5 x6 x7, F2 A x0 x1 x2 x3 x4 x5 x6 x7 → F2 B x0 x1 x2 x3 x4 x5 x6 x7) : ∀ P : α0 → α1 → α2 → α3 → α4 → α5 → α6 → α7 → Prop, (∀ x0 x1 x2 x3 x4 x5 x6 x7, F3 P x0 x1 x2 x3 x4 x5 x6 x7 → P x0 x1 x2 x3 x4 x5 x6 x7) → P z0 z1 z2 z3 z4 z5 z6 z7 := by
  intro P hP
  refine h1 (fun x0 x1 x2 x3 x4 x5 x6 x7 => (∀ Q : α0 → α1 → α2 → α3 → α4 → α5 → α6 → α7 → Prop, (∀ x0 x1 x2 x3 x4 x5 x6 x7, F2 Q x0 x1 x2 x3 x4 x5 x6 x7 → Q x0 x1 x2 x3 x4 x5 x6 x7) → Q x0 x1 x2 x3 x4 x5 x6 x7) → P x0 x1 x2 x3 x4 x5 x6 x7) ?_ h2
  intro x0 x1 x2 x3 x4 x5 x6 x7 ha hl
  refine hP x0 x1 x2 x3 x4 x5 x6 x7 (cj (fun x0 x1 x2 x3 x4 x5 x6 x7 => (∀ Q : α0 → α1 → α2 → α3 → α4 → α5 → α6 → α7 → Prop, (∀ x0 x1 x2 x3 x4 x5 x6 x7, F2 Q x0 x1 x2 x3 x4 x5 x6 x7 → Q x0 x1 x2 x3 x4 x5 x6 x7) → Q x0 x1 x2 x3 x4 x5 x6 x7) → P x0 x1 x2 x3 x4 x5 x6 x7) (fun x0 x1 x2 x3 x4 x5 x6 x7 => ∀ Q : α0 → α1 → α2 → α3 → α4 → α5 → α6 → α7 → Prop, (∀ x0 x1 x2 x3 x4 x5 x6 x7, F2 Q x0 x1 x2 x3 x4 x5 x6 x7 → Q x0 x1 x2 x3 x4 x5 x6 x7) → Q x0 x1 x2 x3 x4 x5 x6 x7) P (fun _ _ _ _ _ _ _ _ a b => a b) x0 x1 x2 x3 x4 x5 x6 x7 ha ?_)
  refine hl (fun x0 x1 x2 x3 x4 x5 x6 x7 => F2 (fun x0 x1 x2 x3 x4 x5 x6 x7 => ∀ Q : α0 → α1 → α2 → α3 → α4 → α5 → α6 → α7 → Prop, (∀ x0 x1 x2 x3 x4 x5 x6 x7, F2 Q x0 x1 x2 x3 x4 x5 x6 x7 → Q x0 x1 x2 x3 x4 x5 x6 x7) → Q x0 x1 x2 x3 x4 x5 x6 x7) x0 x1 x2 x3 x4 x5 x6 x7) ?_
  intro x0 x1 x2 x3 x4 x5 x6 x7 hb
  refine mn _ _ ?_ x0 x1 x2 x3 x4 x5 x6 x7 hb
  intro x0 x1 x2 x3 x4 x5 x6 x7 hc Q hQ
  exact hQ x0 x1 x2 x3 x4 x5 x6 x7 (mn _ _ (fun _ _ _ _ _ _ _ _ h => h Q hQ) x0 x1 x2 x3 x4 x5 x6 x7 hc)

theorem lfp_14 {α0 α1 α2 α3 α4 α5 α6 α7 α8 α9 α10 α11 α12 α13 : Type} {F1 F2 F3 : (α0 → α1 → α2 → α3 → α4 → α5 → α6 → α7 → α8 → α9 → α10 → α11 → α12 → α13 → Prop) → α0 → α1 → α2 → α3 → α4 → α5 → α6 → α7 → α8 → α9 → α10 → α11 → α12 → α13 → Prop} {z0 : α0} {z1 : α1} {z2 : α2} {z3 : α3} {z4 : α4} {z5 : α5} {z6 : α6} {z7 : α7} {z8 : α8} {z9 : α9} {z10 : α10} {z11 : α11} {z12 : α12} {z13 : α13} (h1 : ∀ P : α0 → α1 → α2 → α3 → α4 → α5 → α6 → α7 → α8 → α9 → α10 → α11 → α12 → α13 → Prop, (∀ x0 x1 x2 x3 x4 x5 x6 x7 x8 x9 x10 x11 x12 x13, F1 P x0 x1 x2 x3 x4 x5 x6 x7 x8 x9 x10 x11 x12 x13 → P x0 x1 x2 x3 x4 x5 x6 x7 x8 x9 x10 x11 x12 x13) → P z0 z1 z2 z3 z4 z5 z6 z7 z8 z9 z10 z11 z12 z13) (h2 : ∀ P : α0 → α1 → α2 → α3 → α4 → α5 → α6 → α7 → α8 → α9 → α10 → α11 → α12 → α13 → Prop, (∀ x0 x1 x2 x3 x4 x5 x6 x7 x8 x9 x10 x11 x12 x13, F2 P x0 x1 x2 x3 x4 x5 x6 x7 x8 x9 x10 x11 x12 x13 → P x0 x1 x2 x3 x4 x5 x6 x7 x8 x9 x10 x11 x12 x13) → P z0 z1 z2 z3 z4 z5 z6 z7 z8 z9 z10 z11 z12 z13) (cj : ∀ (A B C : α0 → α1 → α2 → α3 → α4 → α5 → α6 → α7 → α8 → α9 → α10 → α11 → α12 → α13 → Prop), (∀ x0 x1 x2 x3 x4 x5 x6 x7 x8 x9 x10 x11 x12 x13, A x0 x1 x2 x3 x4 x5 x6 x7 x8 x9 x10 x11 x12 x13 → B x0 x1 x2 x3 x4 x5 x6 x7 x8 x9 x10 x11 x12 x13 → C x0 x1 x2 x3 x4 x5 x6 x7 x8 x9 x10 x11 x12 x13) → ∀ x0 x1 x2 x3 x4 x5 x6 x7 x8 x9 x10 x11 x12 x13, F1 A x0 x1 x2 x3 x4 x5 x6 x7 x8 x9 x10 x11 x12 x13 → F2 B x0 x1 x2 x3 x4 x5 x6 x7 x8 x9 x10 x11 x12 x13 → F3 C x0 x1 x2 x3 x4 x5 x6 x7 x8 x9 x10 x11 x12 x13) (mn : ∀ (A B : α0 → α1 → α2 → α3 → α4 → α5 → α6 → α7 → α8 → α9 → α10 → α11 → α12 → α13 → Prop), (∀ x0 x1 x2 x3 x4 x5 x6 x7 x8 x9 x10 x11 x12 x13, A x0 x1 x2 x3 x4 x5 x6 x7 x8 x9 x10 x11 x12 x13 → B x0 x1 x2 x3 x4 x5 x6 x7 x8 x9 x10 x11 x12 x13) → ∀ x0 x1 x2 x3 x4 x5 x6 x7 x8 x9 x10 x11 x12 x13, F2 A x0 x1 x2 x3 x4 x5 x6 x7 x8 x9 x10 x11 x12 x13 → F2 B x0 x1 x2 x3 x4 x5 x6 x7 x8 x9 x10 x11 x12 x13) : ∀ P : α0 → α1 → α2 → α3 → α4 → α5 → α6 → α7 → α8 → α9 → α10 → α11 → α12 → α13 → Prop, (∀ x0 x1 x2 x3 x4 x5 x6 x7 x8 x9 x10 x11 x12 x13, F3 P x0 x1 x2 x3 x4 x5 x6 x7 x8 x9 x10 x11 x12 x13 → P x0 x1 x2 x3 x4 x5 x6 x7 x8 x9 x10 x11 x12 x13) → P z0 z1 z2 z3 z4 z5 z6 z7 z8 z9 z10 z11 z12 z13 := by
  intro P hP
  refine h1 (fun x0 x1 x2 x3 x4 x5 x6 x7 x8 x9 x10 x11 x12 x13 => (∀ Q : α0 → α1 → α2 → α3 → α4 → α5 → α6 → α7 → α8 → α9 → α10 → α11 → α12 → α13 → Prop, (∀ x0 x1 x2 x3 x4 x5 x6 x7 x8 x9 x10 x11 x12 x13, F2 Q x0 x1 x2 x3 x4 x5 x6 x7 x8 x9 x10 x11 x12 x13 → Q x0 x1 x2 x3 x4 x5 x6 x7 x8 x9 x10 x11 x12 x13) → Q x0 x1 x2 x3 x4 x5 x6 x7 x8 x9 x10 x11 x12 x13) → P x0 x1 x2 x3 x4 x5 x6 x7 x8 x9 x10 x11 x12 x13) ?_ h2
  intro x0 x1 x2 x3 x4 x5 x6 x7 x8 x9 x10 x11 x12 x13 ha hl
  refine hP x0 x1 x2 x3 x4 x5 x6 x7 x8 x9 x10 x11 x12 x13 (cj (fun x0 x1 x2 x3 x4 x5 x6 x7 x8 x9 x10 x11 x12 x13 => (∀ Q : α0 → α1 → α2 → α3 → α4 → α5 → α6 → α7 → α8 → α9 → α10 → α11 → α12 → α13 → Prop, (∀ x0 x1 x2 x3 x4 x5 x6 x7 x8 x9 x10 x11 x12 x13, F2 Q x0 x1 x2 x3 x4 x5 x6 x7 x8 x9 x10 x11 x12 x13 → Q x0 x1 x2 x3 x4 x5 x6 x7 x8 x9 x10 x11 x12 x13) → Q x0 x1 x2 x3 x4 x5 x6 x7 x8 x9 x10 x11 x12 x13) → P x0 x1 x2 x3 x4 x5 x6 x7 x8 x9 x10 x11 x12 x13) (fun x0 x1 x2 x3 x4 x5 x6 x7 x8 x9 x10 x11 x12 x13 => ∀ Q : α0 → α1 → α2 → α3 → α4 → α5 → α6 → α7 → α8 → α9 → α10 → α11 → α12 → α13 → Prop, (∀ x0 x1 x2 x3 x4 x5 x6 x7 x8 x9 x10 x11 x12 x13, F2 Q x0 x1 x2 x3 x4 x5 x6 x7 x8 x9 x10 x11 x12 x13 → Q x0 x1 x2 x3 x4 x5 x6 x7 x8 x9 x10 x11 x12 x13) → Q x0 x1 x2 x3 x4 x5 x6 x7 x8 x9 x10 x11 x12 x13) P (fun _ _ _ _ _ _ _ _ _ _ _ _ _ _ a b => a b) x0 x1 x2 x3 x4 x5 x6 x7 x8 x9 x10 x11 x12 x13 ha ?_)
  refine hl (fun x0 x1 x2 x3 x4 x5 x6 x7 x8 x9 x10 x11 x12 x13 => F2 (fun x0 x1 x2 x3 x4 x5 x6 x7 x8 x9 x10 x11 x12 x13 => ∀ Q : α0 → α1 → α2 → α3 → α4 → α5 → α6 → α7 → α8 → α9 → α10 → α11 → α12 → α13 → Prop, (∀ x0 x1 x2 x3 x4 x5 x6 x7 x8 x9 x10 x11 x12 x13, F2 Q x0 x1 x2 x3 x4 x5 x6 x7 x8 x9 x10 x11 x12 x13 → Q x0 x1 x2 x3 x4 x5 x6 x7 x8 x9 x10 x11 x12 x13) → Q x0 x1 x2 x3 x4 x5 x6 x7 x8 x9 x10 x11 x12 x13) x0 x1 x2 x3 x4 x5 x6 x7 x8 x9 x10 x11 x12 x13) ?_
  intro x0 x1 x2 x3 x4 x5 x6 x7 x8 x9 x10 x11 x12 x13 hb
  refine mn _ _ ?_ x0 x1 x2 x3 x4 x5 x6 x7 x8 x9 x10 x11 x12 x13 hb
  intro x0 x1 x2 x3 x4 x5 x6 x7 x8 x9 x10 x11 x12 x13 hc Q hQ
  exact hQ x0 x1 x2 x3 x4 x5 x6 x7 x8 x9 x10 x11 x12 x13 (mn _ _ (fun _ _ _ _ _ _ _ _ _ _ _ _ _ _ h => h Q hQ) x0 x1 x2 x3 x4 x5 x6 x7 x8 x9 x10 x11 x12 x13 hc)

theorem lfp_37 {α0 α1 α2 α3 α4 α5 α6 α7 α8 α9 α10 α11 α12 α13 α14 α15 α16 α17 α18 α19 α20 α21 α22 α23 α24 α25 α26 α27 α28 α29 α30 α31 α32 α33 α34 α35 α36 : Type} {F1 F2 F3 : (α0 → α1 → α2 → α3 → α4 → α5 → α6 → α7 → α8 → α9 → α10 → α11 → α12 → α13 → α14 → α15 → α16 → α17 → α18 → α19 → α20 → α21 → α22 → α23 → α24 → α25 → α26 → α27 → α28 → α29 → α30 → α31 → α32 → α33 → α34 → α35 → α36 → Prop) → α0 → α1 → α2 → α3 → α4 → α5 → α6 → α7 → α8 → α9 → α10 → α11 → α12 → α13 → α14 → α15 → α16 → α17 → α18 → α19 → α20 → α21 → α22 → α23 → α24 → α25 → α26 → α27 → α28 → α29 → α30 → α31 → α32 → α33 → α34 → α35 → α36 → Prop} {z0 : α0} {z1 : α1} {z2 : α2} {z3 : α3} {z4 : α4} {z5 : α5} {z6 : α6} {z7 : α7} {z8 : α8} {z9 : α9} {z10 : α10} {z11 : α11} {z12 : α12} {z13 : α13} {z14 : α14} {z15 : α15} {z16 : α16} {z17 : α17} {z18 : α18} {z19 : α19} {z20 : α20} {z21 : α21} {z22 : α22} {z23 : α23} {z24 : α24} {z25 : α25} {z26 : α26} {z27 : α27} {z28 : α28} {z29 : α29} {z30 : α30} {z31 : α31} {z32 : α32} {z33 : α33} {z34 : α34} {z35 : α35} {z36 : α36} (h1 : ∀ P : α0 → α1 → α2 → α3 → α4 → α5 → α6 → α7 → α8 → α9 → α10 → α11 → α12 → α13 → α14 → α15 → α16 → α17 → α18 → α19 → α20 → α21 → α22 → α23 → α24 → α25 → α26 → α27 → α28 → α29 → α30 → α31 → α32 → α33 → α34 → α35 → α36 → Prop, (∀ x0 x1 x2 x3 x4 x5 x6 x7 x8 x9 x10 x11 x12 x13 x14 x15 x16 x17 x18 x19 x20 x21 x22 x23 x24 x25 x26 x27 x28 x29 x30 x31 x32 x33 x34 x35 x36, F1 P x0 x1 x2 x3 x4 x5 x6 x7 x8 x9 x10 x11 x12 x13 x14 x15 x16 x17 x18 x19 x20 x21 x22 x23 x24 x25 x26 x27 x28 x29 x30 x31 x32 x33 x34 x35 x36 → P x0 x1 x2 x3 x4 x5 x6 x7 x8 x9 x10 x11 x12 x13 x14 x15 x16 x17 x18 x19 x20 x21 x22 x23 x24 x25 x26 x27 x28 x29 x30 x31 x32 x33 x34 x35 x36) → P z0 z1 z2 z3 z4 z5 z6 z7 z8 z9 z10 z11 z12 z13 z14 z15 z16 z17 z18 z19 z20 z21 z22 z23 z24 z25 z26 z27 z28 z29 z30 z31 z32 z33 z34 z35 z36) (h2 : ∀ P : α0 → α1 → α2 → α3 → α4 → α5 → α6 → α7 → α8 → α9 → α10 → α11 → α12 → α13 → α14 → α15 → α16 → α17 → α18 → α19 → α20 → α21 → α22 → α23 → α24 → α25 → α26 → α27 → α28 → α29 → α30 → α31 → α32 → α33 → α34 → α35 → α36 → Prop, (∀ x0 x1 x2 x3 x4 x5 x6 x7 x8 x9 x10 x11 x12 x13 x14 x15 x16 x17 x18 x19 x20 x21 x22 x23 x24 x25 x26 x27 x28 x29 x30 x31 x32 x33 x34 x35 x36, F2 P x0 x1 x2 x3 x4 x5 x6 x7 x8 x9 x10 x11 x12 x13 x14 x15 x16 x17 x18 x19 x20 x21 x22 x23 x24 x25 x26 x27 x28 x29 x30 x31 x32 x33 x34 x35 x36 → P x0 x1 x2 x3 x4 x5 x6 x7 x8 x9 x10 x11 x12 x13 x14 x15 x16 x17 x18 x19 x20 x21 x22 x23 x24 x25 x26 x27 x28 x29 x30 x31 x32 x33 x34 x35 x36) → P z0 z1 z2 z3 z4 z5 z6 z7 z8 z9 z10 z11 z12 z13 z14 z15 z16 z17 z18 z19 z20 z21 z22 z23 z24 z25 z26 z27 z28 z29 z30 z31 z32 z33 z34 z35 z36) (cj : ∀ (A B C : α0 → α1 → α2 → α3 → α4 → α5 → α6 → α7 → α8 → α9 → α10 → α11 → α12 → α13 → α14 → α15 → α16 → α17 → α18 → α19 → α20 → α21 → α22 → α23 → α24 → α25 → α26 → α27 → α28 → α29 → α30 → α31 → α32 → α33 → α34 → α35 → α36 → Prop), (∀ x0 x1 x2 x3 x4 x5 x6 x7 x8 x9 x10 x11 x12 x13 x14 x15 x16 x17 x18 x19 x20 x21 x22 x23 x24 x25 x26 x27 x28 x29 x30 x31 x32 x33 x34 x35 x36, A x0 x1 x2 x3 x4 x5 x6 x7 x8 x9 x10 x11 x12 x13 x14 x15 x16 x17 x18 x19 x20 x21 x22 x23 x24 x25 x26 x27 x28 x29 x30 x31 x32 x33 x34 x35 x36 → B x0 x1 x2 x3 x4 x5 x6 x7 x8 x9 x10 x11 x12 x13 x14 x15 x16 x17 x18 x19 x20 x21 x22 x23 x24 x25 x26 x27 x28 x29 x30 x31 x32 x33 x34 x35 x36 → C x0 x1 x2 x3 x4 x5 x6 x7 x8 x9 x10 x11 x12 x13 x14 x15 x16 x17 x18 x19 x20 x21 x22 x23 x24 x25 x26 x27 x28 x29 x30 x31 x32 x33 x34 x35 x36) → ∀ x0 x1 x2 x3 x4 x5 x6 x7 x8 x9 x10 x11 x12 x13 x14 x15 x16 x17 x18 x19 x20 x21 x22 x23 x24 x25 x26 x27 x28 x29 x30 x31 x32 x33 x34 x35 x36, F1 A x0 x1 x2 x3 x4 x5 x6 x7 x8 x9 x10 x11 x12 x13 x14 x15 x16 x17 x18 x19 x20 x21 x22 x23 x24 x25 x26 x27 x28 x29 x30 x31 x32 x33 x34 x35 x36 → F2 B x0 x1 x2 x3 x4 x5 x6 x7 x8 x9 x10 x11 x12 x13 x14 x15 x16 x17 x18 x19 x20 x21 x22 x23 x24 x25 x26 x27 x28 x29 x30 x31 x32 x33 x34 x35 x36 → F3 C x0 x1 x2 x3 x4 x5 x6 x7 x8 x9 x10 x11 x12 x13 x14 x15 x16 x17 x18 x19 x20 x21 x22 x23 x24 x25 x26 x27 x28 x29 x30 x31 x32 x33 x34 x35 x36) (mn : ∀ (A B : α0 → α1 → α2 → α3 → α4 → α5 → α6 → α7 → α8 → α9 → α10 → α11 → α12 → α13 → α14 → α15 → α16 → α17 → α18 → α19 → α20 → α21 → α22 → α23 → α24 → α25 → α26 → α27 → α28 → α29 → α30 → α31 → α32 → α33 → α34 → α35 → α36 → Prop), (∀ x0 x1 x2 x3 x4 x5 x6 x7 x8 x9 x10 x11 x12 x13 x14 x15 x16 x17 x18 x19 x20 x21 x22 x23 x24 x25 x26 x27 x28 x29 x30 x31 x32 x33 x34 x35 x36, A x0 x1 x2 x3 x4 x5 x6 x7 x8 x9 x10 x11 x12 x13 x14 x15 x16 x17 x18 x19 x20 x21 x22 x23 x24 x25 x26 x27 x28 x29 x30 x31 x32 x33 x34 x35 x36 → B x0 x1 x2 x3 x4 x5 x6 x7 x8 x9 x10 x11 x12 x13 x14 x15 x16 x17 x18 x19 x20 x21 x22 x23 x24 x25 x26 x27 x28 x29 x30 x31 x32 x33 x34 x35 x36) → ∀ x0 x1 x2 x3 x4 x5 x6 x7 x8 x9 x10 x11 x12 x13 x14 x15 x16 x17 x18 x19 x20 x21 x22 x23 x24 x25 x26 x27 x28 x29 x30 x31 x32 x33 x34 x35 x36, F2 A x0 x1 x2 x3 x4 x5 x6 x7 x8 x9 x10 x11 x12 x13 x14 x15 x16 x17 x18 x19 x20 x21 x22 x23 x24 x25 x26 x27 x28 x29 x30 x31 x32 x33 x34 x35 x36 → F2 B x0 x1 x2 x3 x4 x5 x6 x7 x8 x9 x10 x11 x12 x13 x14 x15 x16 x17 x18 x19 x20 x21 x22 x23 x24 x25 x26 x27 x28 x29 x30 x31 x32 x33 x34 x35 x36) : ∀ P : α0 → α1 → α2 → α3 → α4 → α5 → α6 → α7 → α8 → α9 → α10 → α11 → α12 → α13 → α14 → α15 → α16 → α17 → α18 → α19 → α20 → α21 → α22 → α23 → α24 → α25 → α26 → α27 → α28 → α29 → α30 → α31 → α32 → α33 → α34 → α35 → α36 → Prop, (∀ x0 x1 x2 x3 x4 x5 x6 x7 x8 x9 x10 x11 x12 x13 x14 x15 x16 x17 x18 x19 x20 x21 x22 x23 x24 x25 x26 x27 x28 x29 x30 x31 x32 x33 x34 x35 x36, F3 P x0 x1 x2 x3 x4 x5 x6 x7 x8 x9 x10 x11 x12 x13 x14 x15 x16 x17 x18 x19 x20 x21 x22 x23 x24 x25 x26 x27 x28 x29 x30 x31 x32 x33 x34 x35 x36 → P x0 x1 x2 x3 x4 x5 x6 x7 x8 x9 x10 x11 x12 x13 x14 x15 x16 x17 x18 x19 x20 x21 x22 x23 x24 x25 x26 x27 x28 x29 x30 x31 x32 x33 x34 x35 x36) → P z0 z1 z2 z3 z4 z5 z6 z7 z8 z9 z10 z11 z12 z13 z14 z15 z16 z17 z18 z19 z20 z21 z22 z23 z24 z25 z26 z27 z28 z29 z30 z31 z32 z33 z34 z35 z36 := by
  intro P hP
  refine h1 (fun x0 x1 x2 x3 x4 x5 x6 x7 x8 x9 x10 x11 x12 x13 x14 x15 x16 x17 x18 x19 x20 x21 x22 x23 x24 x25 x26 x27 x28 x29 x30 x31 x32 x33 x34 x35 x36 => (∀ Q : α0 → α1 → α2 → α3 → α4 → α5 → α6 → α7 → α8 → α9 → α10 → α11 → α12 → α13 → α14 → α15 → α16 → α17 → α18 → α19 → α20 → α21 → α22 → α23 → α24 → α25 → α26 → α27 → α28 → α29 → α30 → α31 → α32 → α33 → α34 → α35 → α36 → Prop, (∀ x0 x1 x2 x3 x4 x5 x6 x7 x8 x9 x10 x11 x12 x13 x14 x15 x16 x17 x18 x19 x20 x21 x22 x23 x24 x25 x26 x27 x28 x29 x30 x31 x32 x33 x34 x35 x36, F2 Q x0 x1 x2 x3 x4 x5 x6 x7 x8 x9 x10 x11 x12 x13 x14 x15 x16 x17 x18 x19 x20 x21 x22 x23 x24 x25 x26 x27 x28 x29 x30 x31 x32 x33 x34 x35 x36 → Q x0 x1 x2 x3 x4 x5 x6 x7 x8 x9 x10 x11 x12 x13 x14 x15 x16 x17 x18 x19 x20 x21 x22 x23 x24 x25 x26 x27 x28 x29 x30 x31 x32 x33 x34 x35 x36) → Q x0 x1 x2 x3 x4 x5 x6 x7 x8 x9 x10 x11 x12 x13 x14 x15 x16 x17 x18 x19 x20 x21 x22 x23 x24 x25 x26 x27 x28 x29 x30 x31 x32 x33 x34 x35 x36) → P x0 x1 x2 x3 x4 x5 x6 x7 x8 x9 x10 x11 x12 x13 x14 x15 x16 x17 x18 x19 x20 x21 x22 x23 x24 x25 x26 x27 x28 x29 x30 x31 x32 x33 x34 x35 x36) ?_ h2
  intro x0 x1 x2 x3 x4 x5 x6 x7 x8 x9 x10 x11 x12 x13 x14 x15 x16 x17 x18 x19 x20 x21 x22 x23 x24 x25 x26 x27 x28 x29 x30 x31 x32 x33 x34 x35 x36 ha hl
  refine hP x0 x1 x2 x3 x4 x5 x6 x7 x8 x9 x10 x11 x12 x13 x14 x15 x16 x17 x18 x19 x20 x21 x22 x23 x24 x25 x26 x27 x28 x29 x30 x31 x32 x33 x34 x35 x36 (cj (fun x0 x1 x2 x3 x4 x5 x6 x7 x8 x9 x10 x11 x12 x13 x14 x15 x16 x17 x18 x19 x20 x21 x22 x23 x24 x25 x26 x27 x28 x29 x30 x31 x32 x33 x34 x35 x36 => (∀ Q : α0 → α1 → α2 → α3 → α4 → α5 → α6 → α7 → α8 → α9 → α10 → α11 → α12 → α13 → α14 → α15 → α16 → α17 → α18 → α19 → α20 → α21 → α22 → α23 → α24 → α25 → α26 → α27 → α28 → α29 → α30 → α31 → α32 → α33 → α34 → α35 → α36 → Prop, (∀ x0 x1 x2 x3 x4 x5 x6 x7 x8 x9 x10 x11 x12 x13 x14 x15 x16 x17 x18 x19 x20 x21 x22 x23 x24 x25 x26 x27 x28 x29 x30 x31 x32 x33 x34 x35 x36, F2 Q x0 x1 x2 x3 x4 x5 x6 x7 x8 x9 x10 x11 x12 x13 x14 x15 x16 x17 x18 x19 x20 x21 x22 x23 x24 x25 x26 x27 x28 x29 x30 x31 x32 x33 x34 x35 x36 → Q x0 x1 x2 x3 x4 x5 x6 x7 x8 x9 x10 x11 x12 x13 x14 x15 x16 x17 x18 x19 x20 x21 x22 x23 x24 x25 x26 x27 x28 x29 x30 x31 x32 x33 x34 x35 x36) → Q x0 x1 x2 x3 x4 x5 x6 x7 x8 x9 x10 x11 x12 x13 x14 x15 x16 x17 x18 x19 x20 x21 x22 x23 x24 x25 x26 x27 x28 x29 x30 x31 x32 x33 x34 x35 x36) → P x0 x1 x2 x3 x4 x5 x6 x7 x8 x9 x10 x11 x12 x13 x14 x15 x16 x17 x18 x19 x20 x21 x22 x23 x24 x25 x26 x27 x28 x29 x30 x31 x32 x33 x34 x35 x36) (fun x0 x1 x2 x3 x4 x5 x6 x7 x8 x9 x10 x11 x12 x13 x14 x15 x16 x17 x18 x19 x20 x21 x22 x23 x24 x25 x26 x27 x28 x29 x30 x31 x32 x33 x34 x35 x36 => ∀ Q : α0 → α1 → α2 → α3 → α4 → α5 → α6 → α7 → α8 → α9 → α10 → α11 → α12 → α13 → α14 → α15 → α16 → α17 → α18 → α19 → α20 → α21 → α22 → α23 → α24 → α25 → α26 → α27 → α28 → α29 → α30 → α31 → α32 → α33 → α34 → α35 → α36 → Prop, (∀ x0 x1 x2 x3 x4 x5 x6 x7 x8 x9 x10 x11 x12 x13 x14 x15 x16 x17 x18 x19 x20 x21 x22 x23 x24 x25 x26 x27 x28 x29 x30 x31 x32 x33 x34 x35 x36, F2 Q x0 x1 x2 x3 x4 x5 x6 x7 x8 x9 x10 x11 x12 x13 x14 x15 x16 x17 x18 x19 x20 x21 x22 x23 x24 x25 x26 x27 x28 x29 x30 x31 x32 x33 x34 x35 x36 → Q x0 x1 x2 x3 x4 x5 x6 x7 x8 x9 x10 x11 x12 x13 x14 x15 x16 x17 x18 x19 x20 x21 x22 x23 x24 x25 x26 x27 x28 x29 x30 x31 x32 x33 x34 x35 x36) → Q x0 x1 x2 x3 x4 x5 x6 x7 x8 x9 x10 x11 x12 x13 x14 x15 x16 x17 x18 x19 x20 x21 x22 x23 x24 x25 x26 x27 x28 x29 x30 x31 x32 x33 x34 x35 x36) P (fun _ _ _ _ _ _ _ _ _ _ _ _ _ _ _ _ _ _ _ _ _ _ _ _ _ _ _ _ _ _ _ _ _ _ _ _ _ a b => a b) x0 x1 x2 x3 x4 x5 x6 x7 x8 x9 x10 x11 x12 x13 x14 x15 x16 x17 x18 x19 x20 x21 x22 x23 x24 x25 x26 x27 x28 x29 x30 x31 x32 x33 x34 x35 x36 ha ?_)
  refine hl (fun x0 x1 x2 x3 x4 x5 x6 x7 x8 x9 x10 x11 x12 x13 x14 x15 x16 x17 x18 x19 x20 x21 x22 x23 x24 x25 x26 x27 x28 x29 x30 x31 x32 x33 x34 x35 x36 => F2 (fun x0 x1 x2 x3 x4 x5 x6 x7 x8 x9 x10 x11 x12 x13 x14 x15 x16 x17 x18 x19 x20 x21 x22 x23 x24 x25 x26 x27 x28 x29 x30 x31 x32 x33 x34 x35 x36 => ∀ Q : α0 → α1 → α2 → α3 → α4 → α5 → α6 → α7 → α8 → α9 → α10 → α11 → α12 → α13 → α14 → α15 → α16 → α17 → α18 → α19 → α20 → α21 → α22 → α23 → α24 → α25 → α26 → α27 → α28 → α29 → α30 → α31 → α32 → α33 → α34 → α35 → α36 → Prop, (∀ x0 x1 x2 x3 x4 x5 x6 x7 x8 x9 x10 x11 x12 x13 x14 x15 x16 x17 x18 x19 x20 x21 x22 x23 x24 x25 x26 x27 x28 x29 x30 x31 x32 x33 x34 x35 x36, F2 Q x0 x1 x2 x3 x4 x5 x6 x7 x8 x9 x10 x11 x12 x13 x14 x15 x16 x17 x18 x19 x20 x21 x22 x23 x24 x25 x26 x27 x28 x29 x30 x31 x32 x33 x34 x35 x36 → Q x0 x1 x2 x3 x4 x5 x6 x7 x8 x9 x10 x11 x12 x13 x14 x15 x16 x17 x18 x19 x20 x21 x22 x23 x24 x25 x26 x27 x28 x29 x30 x31 x32 x33 x34 x35 x36) → Q x0 x1 x2 x3 x4 x5 x6 x7 x8 x9 x10 x11 x12 x13 x14 x15 x16 x17 x18 x19 x20 x21 x22 x23 x24 x25 x26 x27 x28 x29 x30 x31 x32 x33 x34 x35 x36) x0 x1 x2 x3 x4 x5 x6 x7 x8 x9 x10 x11 x12 x13 x14 x15 x16 x17 x18 x19 x20 x21 x22 x23 x24 x25 x26 x27 x28 x29 x30 x31 x32 x33 x34 x35 x36) ?_
  intro x0 x1 x2 x3 x4 x5 x6 x7 x8 x9 x10 x11 x12 x13 x14 x15 x16 x17 x18 x19 x20 x21 x22 x23 x24 x25 x26 x27 x28 x29 x30 x31 x32 x33 x34 x35 x36 hb
  refine mn _ _ ?_ x0 x1 x2 x3 x4 x5 x6 x7 x8 x9 x10 x11 x12 x13 x14 x15 x16 x17 x18 x19 x20 x21 x22 x23 x24 x25 x26 x27 x28 x29 x30 x31 x32 x33 x34 x35 x36 hb
  intro x0 x1 x2 x3 x4 x5 x6 x7 x8 x9 x10 x11 x12 x13 x14 x15 x16 x17 x18 x19 x20 x21 x22 x23 x24 x25 x26 x27 x28 x29 x30 x31 x32 x33 x34 x35 x36 hc Q hQ
  exact hQ x0 x1 x2 x3 x4 x5 x6 x7 x8 x9 x10 x11 x12 x13 x14 x15 x16 x17 x18 x19 x20 x21 x22 x23 x24 x25 x26 x27 x28 x29 x30 x31 x32 x33 x34 x35 x36 (mn _ _ (fun _ _ _ _ _ _ _ _ _ _ _ _ _ _ _ _ _ _ _ _ _ _ _ _ _ _ _ _ _ _ _ _ _ _ _ _ _ h => h Q hQ) x0 x1 x2 x3 x4 x5 x6 x7 x8 x9 x10 x11 x12 x13 x14 x15 x16 x17 x18 x19 x20 x21 x22 x23 x24 x25 x26 x27 x28 x29 x30 x31 x32 x33 x34 x35 x36 hc)

theorem lfp_55 {α0 α1 α2 α3 α4 α5 α6 α7 α8 α9 α10 α11 α12 α13 α14 α15 α16 α17 α18 α19 α20 α21 α22 α23 α24 α25 α26 α27 α28 α29 α30 α31 α32 α33 α34 α35 α36 α37 α38 α39 α40 α41 α42 α43 α44 α45 α46 α47 α48 α49 α50 α51 α52 α53 α54 : Type} {F1 F2 F3 : (α0 → α1 → α2 → α3 → α4 → α5 → α6 → α7 → α8 → α9 → α10 → α11 → α12 → α13 → α14 → α15 → α16 → α17 → α18 → α19 → α20 → α21 → α22 → α23 → α24 → α25 → α26 → α27 → α28 → α29 → α30 → α31 → α32 → α33 → α34 → α35 → α36 → α37 → α38 → α39 → α40 → α41 → α42 → α43 → α44 → α45 → α46 → α47 → α48 → α49 → α50 → α51 → α52 → α53 → α54 → Prop) → α0 → α1 → α2 → α3 → α4 → α5 → α6 → α7 → α8 → α9 → α10 → α11 → α12 → α13 → α14 → α15 → α16 → α17 → α18 → α19 → α20 → α21 → α22 → α23 → α24 → α25 → α26 → α27 → α28 → α29 → α30 → α31 → α32 → α33 → α34 → α35 → α36 → α37 → α38 → α39 → α40 → α41 → α42 → α43 → α44 → α45 → α46 → α47 → α48 → α49 → α50 → α51 → α52 → α53 → α54 → Prop} {z0 : α0} {z1 : α1} {z2 : α2} {z3 : α3} {z4 : α4} {z5 : α5} {z6 : α6} {z7 : α7} {z8 : α8} {z9 : α9} {z10 : α10} {z11 : α11} {z12 : α12} {z13 : α13} {z14 : α14} {z15 : α15} {z16 : α16} {z17 : α17} {z18 : α18} {z19 : α19} {z20 : α20} {z21 : α21} {z22 : α22} {z23 : α23} {z24 : α24} {z25 : α25} {z26 : α26} {z27 : α27} {z28 : α28} {z29 : α29} {z30 : α30} {z31 : α31} {z32 : α32} {z33 : α33} {z34 : α34} {z35 : α35} {z36 : α36} {z37 : α37} {z38 : α38} {z39 : α39} {z40 : α40} {z41 : α41} {z42 : α42} {z43 : α43} {z44 : α44} {z45 : α45} {z46 : α46} {z47 : α47} {z48 : α48} {z49 : α49} {z50 : α50} {z51 : α51} {z52 : α52} {z53 : α53} {z54 : α54} (h1 : ∀ P : α0 → α1 → α2 → α3 → α4 → α5 → α6 → α7 → α8 → α9 → α10 → α11 → α12 → α13 → α14 → α15 → α16 → α17 → α18 → α19 → α20 → α21 → α22 → α23 → α24 → α25 → α26 → α27 → α28 → α29 → α30 → α31 → α32 → α33 → α34 → α35 → α36 → α37 → α38 → α39 → α40 → α41 → α42 → α43 → α44 → α45 → α46 → α47 → α48 → α49 → α50 → α51 → α52 → α53 → α54 → Prop, (∀ x0 x1 x2 x3 x4 x5 x6 x7 x8 x9 x10 x11 x12 x13 x14 x15 x16 x17 x18 x19 x20 x21 x22 x23 x24 x25 x26 x27 x28 x29 x30 x31 x32 x33 x34 x35 x36 x37 x38 x39 x40 x41 x42 x43 x44 x45 x46 x47 x48 x49 x50 x51 x52 x53 x54, F1 P x0 x1 x2 x3 x4 x5 x6 x7 x8 x9 x10 x11 x12 x13 x14 x15 x16 x17 x18 x19 x20 x21 x22 x23 x24 x25 x26 x27 x28 x29 x30 x31 x32 x33 x34 x35 x36 x37 x38 x39 x40 x41 x42 x43 x44 x45 x46 x47 x48 x49 x50 x51 x52 x53 x54 → P x0 x1 x2 x3 x4 x5 x6 x7 x8 x9 x10 x11 x12 x13 x14 x15 x16 x17 x18 x19 x20 x21 x22 x23 x24 x25 x26 x27 x28 x29 x30 x31 x32 x33 x34 x35 x36 x37 x38 x39 x40 x41 x42 x43 x44 x45 x46 x47 x48 x49 x50 x51 x52 x53 x54) → P z0 z1 z2 z3 z4 z5 z6 z7 z8 z9 z10 z11 z12 z13 z14 z15 z16 z17 z18 z19 z20 z21 z22 z23 z24 z25 z26 z27 z28 z29 z30 z31 z32 z33 z34 z35 z36 z37 z38 z39 z40 z41 z42 z43 z44 z45 z46 z47 z48 z49 z50 z51 z52 z53 z54) (h2 : ∀ P : α0 → α1 → α2 → α3 → α4 → α5 → α6 → α7 → α8 → α9 → α10 → α11 → α12 → α13 → α14 → α15 → α16 → α17 → α18 → α19 → α20 → α21 → α22 → α23 → α24 → α25 → α26 → α27 → α28 → α29 → α30 → α31 → α32 → α33 → α34 → α35 → α36 → α37 → α38 → α39 → α40 → α41 → α42 → α43 → α44 → α45 → α46 → α47 → α48 → α49 → α50 → α51 → α52 → α53 → α54 → Prop, (∀ x0 x1 x2 x3 x4 x5 x6 x7 x8 x9 x10 x11 x12 x13 x14 x15 x16 x17 x18 x19 x20 x21 x22 x23 x24 x25 x26 x27 x28 x29 x30 x31 x32 x33 x34 x35 x36 x37 x38 x39 x40 x41 x42 x43 x44 x45 x46 x47 x48 x49 x50 x51 x52 x53 x54, F2 P x0 x1 x2 x3 x4 x5 x6 x7 x8 x9 x10 x11 x12 x13 x14 x15 x16 x17 x18 x19 x20 x21 x22 x23 x24 x25 x26 x27 x28 x29 x30 x31 x32 x33 x34 x35 x36 x37 x38 x39 x40 x41 x42 x43 x44 x45 x46 x47 x48 x49 x50 x51 x52 x53 x54 → P x0 x1 x2 x3 x4 x5 x6 x7 x8 x9 x10 x11 x12 x13 x14 x15 x16 x17 x18 x19 x20 x21 x22 x23 x24 x25 x26 x27 x28 x29 x30 x31 x32 x33 x34 x35 x36 x37 x38 x39 x40 x41 x42 x43 x44 x45 x46 x47 x48 x49 x50 x51 x52 x53 x54) → P z0 z1 z2 z3 z4 z5 z6 z7 z8 z9 z10 z11 z12 z13 z14 z15 z16 z17 z18 z19 z20 z21 z22 z23 z24 z25 z26 z27 z28 z29 z30 z31 z32 z33 z34 z35 z36 z37 z38 z39 z40 z41 z42 z43 z44 z45 z46 z47 z48 z49 z50 z51 z52 z53 z54) (cj : ∀ (A B C : α0 → α1 → α2 → α3 → α4 → α5 → α6 → α7 → α8 → α9 → α10 → α11 → α12 → α13 → α14 → α15 → α16 → α17 → α18 → α19 → α20 → α21 → α22 → α23 → α24 → α25 → α26 → α27 → α28 → α29 → α30 → α31 → α32 → α33 → α34 → α35 → α36 → α37 → α38 → α39 → α40 → α41 → α42 → α43 → α44 → α45 → α46 → α47 → α48 → α49 → α50 → α51 → α52 → α53 → α54 → Prop), (∀ x0 x1 x2 x3 x4 x5 x6 x7 x8 x9 x10 x11 x12 x13 x14 x15 x16 x17 x18 x19 x20 x21 x22 x23 x24 x25 x26 x27 x28 x29 x30 x31 x32 x33 x34 x35 x36 x37 x38 x39 x40 x41 x42 x43 x44 x45 x46 x47 x48 x49 x50 x51 x52 x53 x54, A x0 x1 x2 x3 x4 x5 x6 x7 x8 x9 x10 x11 x12 x13 x14 x15 x16 x17 x18 x19 x20 x21 x22 x23 x24 x25 x26 x27 x28 x29 x30 x31 x32 x33 x34 x35 x36 x37 x38 x39 x40 x41 x42 x43 x44 x45 x46 x47 x48 x49 x50 x51 x52 x53 x54 → B x0 x1 x2 x3 x4 x5 x6 x7 x8 x9 x10 x11 x12 x13 x14 x15 x16 x17 x18 x19 x20 x21 x22 x23 x24 x25 x26 x27 x28 x29 x30 x31 x32 x33 x34 x35 x36 x37 x38 x39 x40 x41 x42 x43 x44 x45 x46 x47 x48 x49 x50 x51 x52 x53 x54 → C x0 x1 x2 x3 x4 x5 x6 x7 x8 x9 x10 x11 x12 x13 x14 x15 x16 x17 x18 x19 x20 x21 x22 x23 x24 x25 x26 x27 x28 x29 x30 x31 x32 x33 x34 x35 x36 x37 x38 x39 x40 x41 x42 x43 x44 x45 x46 x47 x48 x49 x50 x51 x52 x53 x54) → ∀ x0 x1 x2 x3 x4 x5 x6 x7 x8 x9 x10 x11 x12 x13 x14 x15 x16 x17 x18 x19 x20 x21 x22 x23 x24 x25 x26 x27 x28 x29 x30 x31 x32 x33 x34 x35 x36 x37 x38 x39 x40 x41 x42 x43 x44 x45 x46 x47 x48 x49 x50 x51 x52 x53 x54, F1 A x0 x1 x2 x3 x4 x5 x6 x7 x8 x9 x10 x11 x12 x13 x14 x15 x16 x17 x18 x19 x20 x21 x22 x23 x24 x25 x26 x27 x28 x29 x30 x31 x32 x33 x34 x35 x36 x37 x38 x39 x40 x41 x42 x43 x44 x45 x46 x47 x48 x49 x50 x51 x52 x53 x54 → F2 B x0 x1 x2 x3 x4 x5 x6 x7 x8 x9 x10 x11 x12 x13 x14 x15 x16 x17 x18 x19 x20 x21 x22 x23 x24 x25 x26 x27 x28 x29 x30 x31 x32 x33 x34 x35 x36 x37 x38 x39 x40 x41 x42 x43 x44 x45 x46 x47 x48 x49 x50 x51 x52 x53 x54 → F3 C x0 x1 x2 x3 x4 x5 x6 x7 x8 x9 x10 x11 x12 x13 x14 x15 x16 x17 x18 x19 x20 x21 x22 x23 x24 x25 x26 x27 x28 x29 x30 x31 x32 x33 x34 x35 x36 x37 x38 x39 x40 x41 x42 x43 x44 x45 x46 x47 x48 x49 x50 x51 x52 x53 x54) (mn : ∀ (A B : α0 → α1 → α2 → α3 → α4 → α5 → α6 → α7 → α8 → α9 → α10 → α11 → α12 → α13 → α14 → α15 → α16 → α17 → α18 → α19 → α20 → α21 → α22 → α23 → α24 → α25 → α26 → α27 → α28 → α29 → α30 → α31 → α32 → α33 → α34 → α35 → α36 → α37 → α38 → α39 → α40 → α41 → α42 → α43 → α44 → α45 → α46 → α47 → α48 → α49 → α50 → α51 → α52 → α53 → α54 → Prop), (∀ x0 x1 x2 x3 x4 x5 x6 x7 x8 x9 x10 x11 x12 x13 x14 x15 x16 x17 x18 x19 x20 x21 x22 x23 x24 x25 x26 x27 x28 x29 x30 x31 x32 x33 x34 x35 x36 x37 x38 x39 x40 x41 x42 x43 x44 x45 x46 x47 x48 x49 x50 x51 x52 x53 x54, A x0 x1 x2 x3 x4 x5 x6 x7 x8 x9 x10 x11 x12 x13 x14 x15 x16 x17 x18 x19 x20 x21 x22 x23 x24 x25 x26 x27 x28 x29 x30 x31 x32 x33 x34 x35 x36 x37 x38 x39 x40 x41 x42 x43 x44 x45 x46 x47 x48 x49 x50 x51 x52 x53 x54 → B x0 x1 x2 x3 x4 x5 x6 x7 x8 x9 x10 x11 x12 x13 x14 x15 x16 x17 x18 x19 x20 x21 x22 x23 x24 x25 x26 x27 x28 x29 x30 x31 x32 x33 x34 x35 x36 x37 x38 x39 x40 x41 x42 x43 x44 x45 x46 x47 x48 x49 x50 x51 x52 x53 x54) → ∀ x0 x1 x2 x3 x4 x5 x6 x7 x8 x9 x10 x11 x12 x13 x14 x15 x16 x17 x18 x19 x20 x21 x22 x23 x24 x25 x26 x27 x28 x29 x30 x31 x32 x33 x34 x35 x36 x37 x38 x39 x40 x41 x42 x43 x44 x45 x46 x47 x48 x49 x50 x51 x52 x53 x54, F2 A x0 x1 x2 x3 x4 x5 x6 x7 x8 x9 x10 x11 x12 x13 x14 x15 x16 x17 x18 x19 x20 x21 x22 x23 x24 x25 x26 x27 x28 x29 x30 x31 x32 x33 x34 x35 x36 x37 x38 x39 x40 x41 x42 x43 x44 x45 x46 x47 x48 x49 x50 x51 x52 x53 x54 → F2 B x0 x1 x2 x3 x4 x5 x6 x7 x8 x9 x10 x11 x12 x13 x14 x15 x16 x17 x18 x19 x20 x21 x22 x23 x24 x25 x26 x27 x28 x29 x30 x31 x32 x33 x34 x35 x36 x37 x38 x39 x40 x41 x42 x43 x44 x45 x46 x47 x48 x49 x50 x51 x52 x53 x54) : ∀ P : α0 → α1 → α2 → α3 → α4 → α5 → α6 → α7 → α8 → α9 → α10 → α11 → α12 → α13 → α14 → α15 → α16 → α17 → α18 → α19 → α20 → α21 → α22 → α23 → α24 → α25 → α26 → α27 → α28 → α29 → α30 → α31 → α32 → α33 → α34 → α35 → α36 → α37 → α38 → α39 → α40 → α41 → α42 → α43 → α44 → α45 → α46 → α47 → α48 → α49 → α50 → α51 → α52 → α53 → α54 → Prop, (∀ x0 x1 x2 x3 x4 x5 x6 x7 x8 x9 x10 x11 x12 x13 x14 x15 x16 x17 x18 x19 x20 x21 x22 x23 x24 x25 x26 x27 x28 x29 x30 x31 x32 x33 x34 x35 x36 x37 x38 x39 x40 x41 x42 x43 x44 x45 x46 x47 x48 x49 x50 x51 x52 x53 x54, F3 P x0 x1 x2 x3 x4 x5 x6 x7 x8 x9 x10 x11 x12 x13 x14 x15 x16 x17 x18 x19 x20 x21 x22 x23 x24 x25 x26 x27 x28 x29 x30 x31 x32 x33 x34 x35 x36 x37 x38 x39 x40 x41 x42 x43 x44 x45 x46 x47 x48 x49 x50 x51 x52 x53 x54 → P x0 x1 x2 x3 x4 x5 x6 x7 x8 x9 x10 x11 x12 x13 x14 x15 x16 x17 x18 x19 x20 x21 x22 x23 x24 x25 x26 x27 x28 x29 x30 x31 x32 x33 x34 x35 x36 x37 x38 x39 x40 x41 x42 x43 x44 x45 x46 x47 x48 x49 x50 x51 x52 x53 x54) → P z0 z1 z2 z3 z4 z5 z6 z7 z8 z9 z10 z11 z12 z13 z14 z15 z16 z17 z18 z19 z20 z21 z22 z23 z24 z25 z26 z27 z28 z29 z30 z31 z32 z33 z34 z35 z36 z37 z38 z39 z40 z41 z42 z43 z44 z45 z46 z47 z48 z49 z50 z51 z52 z53 z54 := by
  intro P hP
  refine h1 (fun x0 x1 x2 x3 x4 x5 x6 x7 x8 x9 x10 x11 x12 x13 x14 x15 x16 x17 x18 x19 x20 x21 x22 x23 x24 x25 x26 x27 x28 x29 x30 x31 x32 x33 x34 x35 x36 x37 x38 x39 x40 x41 x42 x43 x44 x45 x46 x47 x48 x49 x50 x51 x52 x53 x54 => (∀ Q : α0 → α1 → α2 → α3 → α4 → α5 → α6 → α7 → α8 → α9 → α10 → α11 → α12 → α13 → α14 → α15 → α16 → α17 → α18 → α19 → α20 → α21 → α22 → α23 → α24 → α25 → α26 → α27 → α28 → α29 → α30 → α31 → α32 → α33 → α34 → α35 → α36 → α37 → α38 → α39 → α40 → α41 → α42 → α43 → α44 → α45 → α46 → α47 → α48 → α49 → α50 → α51 → α52 → α53 → α54 → Prop, (∀ x0 x1 x2 x3 x4 x5 x6 x7 x8 x9 x10 x11 x12 x13 x14 x15 x16 x17 x18 x19 x20 x21 x22 x23 x24 x25 x26 x27 x28 x29 x30 x31 x32 x33 x34 x35 x36 x37 x38 x39 x40 x41 x42 x43 x44 x45 x46 x47 x48 x49 x50 x51 x52 x53 x54, F2 Q x0 x1 x2 x3 x4 x5 x6 x7 x8 x9 x10 x11 x12 x13 x14 x15 x16 x17 x18 x19 x20 x21 x22 x23 x24 x25 x26 x27 x28 x29 x30 x31 x32 x33 x34 x35 x36 x37 x38 x39 x40 x41 x42 x43 x44 x45 x46 x47 x48 x49 x50 x51 x52 x53 x54 → Q x0 x1 x2 x3 x4 x5 x6 x7 x8 x9 x10 x11 x12 x13 x14 x15 x16 x17 x18 x19 x20 x21 x22 x23 x24 x25 x26 x27 x28 x29 x30 x31 x32 x33 x34 x35 x36 x37 x38 x39 x40 x41 x42 x43 x44 x45 x46 x47 x48 x49 x50 x51 x52 x53 x54) → Q x0 x1 x2 x3 x4 x5 x6 x7 x8 x9 x10 x11 x12 x13 x14 x15 x16 x17 x18 x19 x20 x21 x22 x23 x24 x25 x26 x27 x28 x29 x30 x31 x32 x33 x34 x35 x36 x37 x38 x39 x40 x41 x42 x43 x44 x45 x46 x47 x48 x49 x50 x51 x52 x53 x54) → P x0 x1 x2 x3 x4 x5 x6 x7 x8 x9 x10 x11 x12 x13 x14 x15 x16 x17 x18 x19 x20 x21 x22 x23 x24 x25 x26 x27 x28 x29 x30 x31 x32 x33 x34 x35 x36 x37 x38 x39 x40 x41 x42 x43 x44 x45 x46 x47 x48 x49 x50 x51 x52 x53 x54) ?_ h2
  intro x0 x1 x2 x3 x4 x5 x6 x7 x8 x9 x10 x11 x12 x13 x14 x15 x16 x17 x18 x19 x20 x21 x22 x23 x24 x25 x26 x27 x28 x29 x30 x31 x32 x33 x34 x35 x36 x37 x38 x39 x40 x41 x42 x43 x44 x45 x46 x47 x48 x49 x50 x51 x52 x53 x54 ha hl
  refine hP x0 x1 x2 x3 x4 x5 x6 x7 x8 x9 x10 x11 x12 x13 x14 x15 x16 x17 x18 x19 x20 x21 x22 x23 x24 x25 x26 x27 x28 x29 x30 x31 x32 x33 x34 x35 x36 x37 x38 x39 x40 x41 x42 x43 x44 x45 x46 x47 x48 x49 x50 x51 x52 x53 x54 (cj (fun x0 x1 x2 x3 x4 x5 x6 x7 x8 x9 x10 x11 x12 x13 x14 x15 x16 x17 x18 x19 x20 x21 x22 x23 x24 x25 x26 x27 x28 x29 x30 x31 x32 x33 x34 x35 x36 x37 x38 x39 x40 x41 x42 x43 x44 x45 x46 x47 x48 x49 x50 x51 x52 x53 x54 => (∀ Q : α0 → α1 → α2 → α3 → α4 → α5 → α6 → α7 → α8 → α9 → α10 → α11 → α12 → α13 → α14 → α15 → α16 → α17 → α18 → α19 → α20 → α21 → α22 → α23 → α24 → α25 → α26 → α27 → α28 → α29 → α30 → α31 → α32 → α33 → α34 → α35 → α36 → α37 → α38 → α39 → α40 → α41 → α42 → α43 → α44 → α45 → α46 → α47 → α48 → α49 → α50 → α51 → α52 → α53 → α54 → Prop, (∀ x0 x1 x2 x3 x4 x5 x6 x7 x8 x9 x10 x11 x12 x13 x14 x15 x16 x17 x18 x19 x20 x21 x22 x23 x24 x25 x26 x27 x28 x29 x30 x31 x32 x33 x34 x35 x36 x37 x38 x39 x40 x41 x42 x43 x44 x45 x46 x47 x48 x49 x50 x51 x52 x53 x54, F2 Q x0 x1 x2 x3 x4 x5 x6 x7 x8 x9 x10 x11 x12 x13 x14 x15 x16 x17 x18 x19 x20 x21 x22 x23 x24 x25 x26 x27 x28 x29 x30 x31 x32 x33 x34 x35 x36 x37 x38 x39 x40 x41 x42 x43 x44 x45 x46 x47 x48 x49 x50 x51 x52 x53 x54 → Q x0 x1 x2 x3 x4 x5 x6 x7 x8 x9 x10 x11 x12 x13 x14 x15 x16 x17 x18 x19 x20 x21 x22 x23 x24 x25 x26 x27 x28 x29 x30 x31 x32 x33 x34 x35 x36 x37 x38 x39 x40 x41 x42 x43 x44 x45 x46 x47 x48 x49 x50 x51 x52 x53 x54) → Q x0 x1 x2 x3 x4 x5 x6 x7 x8 x9 x10 x11 x12 x13 x14 x15 x16 x17 x18 x19 x20 x21 x22 x23 x24 x25 x26 x27 x28 x29 x30 x31 x32 x33 x34 x35 x36 x37 x38 x39 x40 x41 x42 x43 x44 x45 x46 x47 x48 x49 x50 x51 x52 x53 x54) → P x0 x1 x2 x3 x4 x5 x6 x7 x8 x9 x10 x11 x12 x13 x14 x15 x16 x17 x18 x19 x20 x21 x22 x23 x24 x25 x26 x27 x28 x29 x30 x31 x32 x33 x34 x35 x36 x37 x38 x39 x40 x41 x42 x43 x44 x45 x46 x47 x48 x49 x50 x51 x52 x53 x54) (fun x0 x1 x2 x3 x4 x5 x6 x7 x8 x9 x10 x11 x12 x13 x14 x15 x16 x17 x18 x19 x20 x21 x22 x23 x24 x25 x26 x27 x28 x29 x30 x31 x32 x33 x34 x35 x36 x37 x38 x39 x40 x41 x42 x43 x44 x45 x46 x47 x48 x49 x50 x51 x52 x53 x54 => ∀ Q : α0 → α1 → α2 → α3 → α4 → α5 → α6 → α7 → α8 → α9 → α10 → α11 → α12 → α13 → α14 → α15 → α16 → α17 → α18 → α19 → α20 → α21 → α22 → α23 → α24 → α25 → α26 → α27 → α28 → α29 → α30 → α31 → α32 → α33 → α34 → α35 → α36 → α37 → α38 → α39 → α40 → α41 → α42 → α43 → α44 → α45 → α46 → α47 → α48 → α49 → α50 → α51 → α52 → α53 → α54 → Prop, (∀ x0 x1 x2 x3 x4 x5 x6 x7 x8 x9 x10 x11 x12 x13 x14 x15 x16 x17 x18 x19 x20 x21 x22 x23 x24 x25 x26 x27 x28 x29 x30 x31 x32 x33 x34 x35 x36 x37 x38 x39 x40 x41 x42 x43 x44 x45 x46 x47 x48 x49 x50 x51 x52 x53 x54, F2 Q x0 x1 x2 x3 x4 x5 x6 x7 x8 x9 x10 x11 x12 x13 x14 x15 x16 x17 x18 x19 x20 x21 x22 x23 x24 x25 x26 x27 x28 x29 x30 x31 x32 x33 x34 x35 x36 x37 x38 x39 x40 x41 x42 x43 x44 x45 x46 x47 x48 x49 x50 x51 x52 x53 x54 → Q x0 x1 x2 x3 x4 x5 x6 x7 x8 x9 x10 x11 x12 x13 x14 x15 x16 x17 x18 x19 x20 x21 x22 x23 x24 x25 x26 x27 x28 x29 x30 x31 x32 x33 x34 x35 x36 x37 x38 x39 x40 x41 x42 x43 x44 x45 x46 x47 x48 x49 x50 x51 x52 x53 x54) → Q x0 x1 x2 x3 x4 x5 x6 x7 x8 x9 x10 x11 x12 x13 x14 x15 x16 x17 x18 x19 x20 x21 x22 x23 x24 x25 x26 x27 x28 x29 x30 x31 x32 x33 x34 x35 x36 x37 x38 x39 x40 x41 x42 x43 x44 x45 x46 x47 x48 x49 x50 x51 x52 x53 x54) P (fun _ _ _ _ _ _ _ _ _ _ _ _ _ _ _ _ _ _ _ _ _ _ _ _ _ _ _ _ _ _ _ _ _ _ _ _ _ _ _ _ _ _ _ _ _ _ _ _ _ _ _ _ _ _ _ a b => a b) x0 x1 x2 x3 x4 x5 x6 x7 x8 x9 x10 x11 x12 x13 x14 x15 x16 x17 x18 x19 x20 x21 x22 x23 x24 x25 x26 x27 x28 x29 x30 x31 x32 x33 x34 x35 x36 x37 x38 x39 x40 x41 x42 x43 x44 x45 x46 x47 x48 x49 x50 x51 x52 x53 x54 ha ?_)
  refine hl (fun x0 x1 x2 x3 x4 x5 x6 x7 x8 x9 x10 x11 x12 x13 x14 x15 x16 x17 x18 x19 x20 x21 x22 x23 x24 x25 x26 x27 x28 x29 x30 x31 x32 x33 x34 x35 x36 x37 x38 x39 x40 x41 x42 x43 x44 x45 x46 x47 x48 x49 x50 x51 x52 x53 x54 => F2 (fun x0 x1 x2 x3 x4 x5 x6 x7 x8 x9 x10 x11 x12 x13 x14 x15 x16 x17 x18 x19 x20 x21 x22 x23 x24 x25 x26 x27 x28 x29 x30 x31 x32 x33 x34 x35 x36 x37 x38 x39 x40 x41 x42 x43 x44 x45 x46 x47 x48 x49 x50 x51 x52 x53 x54 => ∀ Q : α0 → α1 → α2 → α3 → α4 → α5 → α6 → α7 → α8 → α9 → α10 → α11 → α12 → α13 → α14 → α15 → α16 → α17 → α18 → α19 → α20 → α21 → α22 → α23 → α24 → α25 → α26 → α27 → α28 → α29 → α30 → α31 → α32 → α33 → α34 → α35 → α36 → α37 → α38 → α39 → α40 → α41 → α42 → α43 → α44 → α45 → α46 → α47 → α48 → α49 → α50 → α51 → α52 → α53 → α54 → Prop, (∀ x0 x1 x2 x3 x4 x5 x6 x7 x8 x9 x10 x11 x12 x13 x14 x15 x16 x17 x18 x19 x20 x21 x22 x23 x24 x25 x26 x27 x28 x29 x30 x31 x32 x33 x34 x35 x36 x37 x38 x39 x40 x41 x42 x43 x44 x45 x46 x47 x48 x49 x50 x51 x52 x53 x54, F2 Q x0 x1 x2 x3 x4 x5 x6 x7 x8 x9 x10 x11 x12 x13 x14 x15 x16 x17 x18 x19 x20 x21 x22 x23 x24 x25 x26 x27 x28 x29 x30 x31 x32 x33 x34 x35 x36 x37 x38 x39 x40 x41 x42 x43 x44 x45 x46 x47 x48 x49 x50 x51 x52 x53 x54 → Q x0 x1 x2 x3 x4 x5 x6 x7 x8 x9 x10 x11 x12 x13 x14 x15 x16 x17 x18 x19 x20 x21 x22 x23 x24 x25 x26 x27 x28 x29 x30 x31 x32 x33 x34 x35 x36 x37 x38 x39 x40 x41 x42 x43 x44 x45 x46 x47 x48 x49 x50 x51 x52 x53 x54) → Q x0 x1 x2 x3 x4 x5 x6 x7 x8 x9 x10 x11 x12 x13 x14 x15 x16 x17 x18 x19 x20 x21 x22 x23 x24 x25 x26 x27 x28 x29 x30 x31 x32 x33 x34 x35 x36 x37 x38 x39 x40 x41 x42 x43 x44 x45 x46 x47 x48 x49 x50 x51 x52 x53 x54) x0 x1 x2 x3 x4 x5 x6 x7 x8 x9 x10 x11 x12 x13 x14 x15 x16 x17 x18 x19 x20 x21 x22 x23 x24 x25 x26 x27 x28 x29 x30 x31 x32 x33 x34 x35 x36 x37 x38 x39 x40 x41 x42 x43 x44 x45 x46 x47 x48 x49 x50 x51 x52 x53 x54) ?_
  intro x0 x1 x2 x3 x4 x5 x6 x7 x8 x9 x10 x11 x12 x13 x14 x15 x16 x17 x18 x19 x20 x21 x22 x23 x24 x25 x26 x27 x28 x29 x30 x31 x32 x33 x34 x35 x36 x37 x38 x39 x40 x41 x42 x43 x44 x45 x46 x47 x48 x49 x50 x51 x52 x53 x54 hb
  refine mn _ _ ?_ x0 x1 x2 x3 x4 x5 x6 x7 x8 x9 x10 x11 x12 x13 x14 x15 x16 x17 x18 x19 x20 x21 x22 x23 x24 x25 x26 x27 x28 x29 x30 x31 x32 x33 x34 x35 x36 x37 x38 x39 x40 x41 x42 x43 x44 x45 x46 x47 x48 x49 x50 x51 x52 x53 x54 hb
  intro x0 x1 x2 x3 x4 x5 x6 x7 x8 x9 x10 x11 x12 x13 x14 x15 x16 x17 x18 x19 x20 x21 x22 x23 x24 x25 x26 x27 x28 x29 x30 x31 x32 x33 x34 x35 x36 x37 x38 x39 x40 x41 x42 x43 x44 x45 x46 x47 x48 x49 x50 x51 x52 x53 x54 hc Q hQ
  exact hQ x0 x1 x2 x3 x4 x5 x6 x7 x8 x9 x10 x11 x12 x13 x14 x15 x16 x17 x18 x19 x20 x21 x22 x23 x24 x25 x26 x27 x28 x29 x30 x31 x32 x33 x34 x35 x36 x37 x38 x39 x40 x41 x42 x43 x44 x45 x46 x47 x48 x49 x50 x51 x52 x53 x54 (mn _ _ (fun _ _ _ _ _ _ _ _ _ _ _ _ _ _ _ _ _ _ _ _ _ _ _ _ _ _ _ _ _ _ _ _ _ _ _ _ _ _ _ _ _ _ _ _ _ _ _ _ _ _ _ _ _ _ _ h => h Q hQ) x0 x1 x2 x3 x4 x5 x6 x7 x8 x9 x10 x11 x12 x13 x14 x15 x16 x17 x18 x19 x20 x21 x22 x23 x24 x25 x26 x27 x28 x29 x30 x31 x32 x33 x34 x35 x36 x37 x38 x39 x40 x41 x42 x43 x44 x45 x46 x47 x48 x49 x50 x51 x52 x53 x54 hc)

set_option maxRecDepth 40000 in
theorem cj_q_wx_X9_put_3 {ta_tape : Nat → Int32} {tf_length : Int32} {x1 : Int32} {x2 : Int32} {post_1 post_2 post_3 : (Nat → Int32) → (Int32) → Prop} (h_post : ∀ x0 x1, post_1 x0 x1 → post_2 x0 x1 → post_3 x0 x1) (h1 : q_wx_X9_put_3 ta_tape tf_length x1 x2 post_1) (h2 : q_wx_X9_put_3 ta_tape tf_length x1 x2 post_2) : q_wx_X9_put_3 ta_tape tf_length x1 x2 post_3 := lfp_3 h1 h2 (fun A B C hsk1 _ _ _ hak1 hck1 => ⟨fun c2 => h_post _ _ (hak1.1 c2) (hck1.1 c2), fun c3 => ⟨fun c4 => h_post _ _ ((hak1.2 c3).1 c4) ((hck1.2 c3).1 c4), fun c5 => fun v6 e7 => ⟨(((hak1.2 c3).2 c5) v6 e7).1, fun v8 e9 => fun v10 e11 => fun v12 e13 => hsk1 _ _ _ ((((((hak1.2 c3).2 c5) v6 e7).2 v8 e9) v10 e11) v12 e13) ((((((hck1.2 c3).2 c5) v6 e7).2 v8 e9) v10 e11) v12 e13)⟩⟩⟩) (fun A B hqk1 _ _ _ hbk1 => ⟨fun c14 => (hbk1.1 c14), fun c15 => ⟨fun c16 => ((hbk1.2 c15).1 c16), fun c17 => fun v18 e19 => ⟨(((hbk1.2 c15).2 c17) v18 e19).1, fun v20 e21 => fun v22 e23 => fun v24 e25 => hqk1 _ _ _ ((((((hbk1.2 c15).2 c17) v18 e19).2 v20 e21) v22 e23) v24 e25)⟩⟩⟩)
set_option maxRecDepth 40000 in
theorem cj_q_wx_X9_put_0 {ta_tape : Nat → Int32} {tf_length : Int32} {x1 : Int32} {post_1 post_2 post_3 : (Nat → Int32) → (Int32) → Prop} (h_post : ∀ x0 x1, post_1 x0 x1 → post_2 x0 x1 → post_3 x0 x1) (h1 : q_wx_X9_put_0 ta_tape tf_length x1 post_1) (h2 : q_wx_X9_put_0 ta_tape tf_length x1 post_2) : q_wx_X9_put_0 ta_tape tf_length x1 post_3 := cj_q_wx_X9_put_3 h_post h1 h2
set_option maxRecDepth 40000 in
theorem cj_q_wx_X10_feed_0 {ta_tape : Nat → Int32} {tf_length : Int32} {x1 : Int32} {x2 : Int32} {x3 : Int32} {x4 : Int32} {x5 : Int32} {post_1 post_2 post_3 : Int32 → (Nat → Int32) → (Int32) → Prop} (h_post : ∀ x0 x1 x2, post_1 x0 x1 x2 → post_2 x0 x1 x2 → post_3 x0 x1 x2) (h1 : q_wx_X10_feed_0 ta_tape tf_length x1 x2 x3 x4 x5 post_1) (h2 : q_wx_X10_feed_0 ta_tape tf_length x1 x2 x3 x4 x5 post_2) : q_wx_X10_feed_0 ta_tape tf_length x1 x2 x3 x4 x5 post_3 := ⟨fun c1 => cj_q_wx_X9_put_0 (fun _ _ h2 h3 => cj_q_wx_X9_put_0 (fun _ _ h4 h5 => cj_q_wx_X9_put_0 (fun _ _ h6 h7 => cj_q_wx_X9_put_0 (fun _ _ h8 h9 => cj_q_wx_X9_put_0 (fun _ _ h10 h11 => h_post _ _ _ h10 h11) h8 h9) h6 h7) h4 h5) h2 h3) (h1.1 c1) (h2.1 c1), fun c12 => h_post _ _ _ (h1.2 c12) (h2.2 c12)⟩
set_option maxRecDepth 40000 in
theorem cj_q_wr_X4_advance_35 {P5_1 P5_2 P5_3 : Int32 → Prop} {a_tape : Nat → Int32} {f_length : Int32} {f_behind : Int32} {f_kind : Int32} {f_first : Int32} {f_value : Int32} {x1 : Int32} {post_1 post_2 post_3 : (Int32) → (Int32) → (Int32) → (Int32) → Prop} (h_P5 : ∀ x0, P5_1 x0 → P5_2 x0 → P5_3 x0) (h_post : ∀ x0 x1 x2 x3, post_1 x0 x1 x2 x3 → post_2 x0 x1 x2 x3 → post_3 x0 x1 x2 x3) (h1 : q_wr_X4_advance_35 P5_1 a_tape f_length f_behind f_kind f_first f_value x1 post_1) (h2 : q_wr_X4_advance_35 P5_2 a_tape f_length f_behind f_kind f_first f_value x1 post_2) : q_wr_X4_advance_35 P5_3 a_tape f_length f_behind f_kind f_first f_value x1 post_3 := fun v1 e2 => h_P5 _ (h1 v1 e2) (h2 v1 e2)
set_option maxRecDepth 40000 in
theorem cj_q_wr_X4_advance_149 {a_tape : Nat → Int32} {f_length : Int32} {f_behind : Int32} {f_kind : Int32} {f_first : Int32} {f_value : Int32} {x1 : Int32} {post_1 post_2 post_3 : (Int32) → (Int32) → (Int32) → (Int32) → Prop} (h_post : ∀ x0 x1 x2 x3, post_1 x0 x1 x2 x3 → post_2 x0 x1 x2 x3 → post_3 x0 x1 x2 x3) (h1 : q_wr_X4_advance_149 a_tape f_length f_behind f_kind f_first f_value x1 post_1) (h2 : q_wr_X4_advance_149 a_tape f_length f_behind f_kind f_first f_value x1 post_2) : q_wr_X4_advance_149 a_tape f_length f_behind f_kind f_first f_value x1 post_3 := h_post _ _ _ _ h1 h2
set_option maxRecDepth 40000 in
theorem cj_q_wr_X4_advance_143 {a_tape : Nat → Int32} {f_length : Int32} {f_behind : Int32} {f_kind : Int32} {f_first : Int32} {f_value : Int32} {x1 : Int32} {y0 : Int32} {post_1 post_2 post_3 : (Int32) → (Int32) → (Int32) → (Int32) → Prop} (h_post : ∀ x0 x1 x2 x3, post_1 x0 x1 x2 x3 → post_2 x0 x1 x2 x3 → post_3 x0 x1 x2 x3) (h1 : q_wr_X4_advance_143 a_tape f_length f_behind f_kind f_first f_value x1 y0 post_1) (h2 : q_wr_X4_advance_143 a_tape f_length f_behind f_kind f_first f_value x1 y0 post_2) : q_wr_X4_advance_143 a_tape f_length f_behind f_kind f_first f_value x1 y0 post_3 := fun v1 e2 => cj_q_wr_X4_advance_149 h_post (h1 v1 e2) (h2 v1 e2)
set_option maxRecDepth 40000 in
theorem cj_q_z_X4_isLetter_0 {x0 : Int32} {post_1 post_2 post_3 : Int32 → Prop} (h_post : ∀ x0, post_1 x0 → post_2 x0 → post_3 x0) (h1 : q_z_X4_isLetter_0 x0 post_1) (h2 : q_z_X4_isLetter_0 x0 post_2) : q_z_X4_isLetter_0 x0 post_3 := ⟨fun c1 => h_post _ (h1.1 c1) (h2.1 c1), fun c2 => ⟨fun c3 => h_post _ ((h1.2 c2).1 c3) ((h2.2 c2).1 c3), fun c4 => h_post _ ((h1.2 c2).2 c4) ((h2.2 c2).2 c4)⟩⟩
set_option maxRecDepth 40000 in
theorem cj_q_wr_X4_advance_79 {a_tape : Nat → Int32} {f_length : Int32} {f_behind : Int32} {f_kind : Int32} {f_first : Int32} {f_value : Int32} {x1 : Int32} {post_1 post_2 post_3 : (Int32) → (Int32) → (Int32) → (Int32) → Prop} (h_post : ∀ x0 x1 x2 x3, post_1 x0 x1 x2 x3 → post_2 x0 x1 x2 x3 → post_3 x0 x1 x2 x3) (h1 : q_wr_X4_advance_79 a_tape f_length f_behind f_kind f_first f_value x1 post_1) (h2 : q_wr_X4_advance_79 a_tape f_length f_behind f_kind f_first f_value x1 post_2) : q_wr_X4_advance_79 a_tape f_length f_behind f_kind f_first f_value x1 post_3 := lfp_1 h1 h2 (fun A B C hsk1 _ hak1 hck1 => ⟨fun c2 => cj_q_wr_X4_advance_149 h_post (hak1.1 c2) (hck1.1 c2), fun c3 => ⟨(hak1.2 c3).1, cj_q_z_X4_isLetter_0 (fun _ h4 h5 => ⟨fun c6 => cj_q_wr_X4_advance_149 h_post (h4.1 c6) (h5.1 c6), fun c7 => fun v8 e9 => hsk1 _ ((h4.2 c7) v8 e9) ((h5.2 c7) v8 e9)⟩) (hak1.2 c3).2 (hck1.2 c3).2⟩⟩) (fun A B hqk1 _ hbk1 => ⟨fun c10 => cj_q_wr_X4_advance_149 (fun _ _ _ _ h _ => h) (hbk1.1 c10) (hbk1.1 c10), fun c11 => ⟨(hbk1.2 c11).1, cj_q_z_X4_isLetter_0 (fun _ h12 h13 => ⟨fun c14 => cj_q_wr_X4_advance_149 (fun _ _ _ _ h _ => h) (h12.1 c14) (h13.1 c14), fun c15 => fun v16 e17 => hqk1 _ ((h12.2 c15) v16 e17)⟩) (hbk1.2 c11).2 (hbk1.2 c11).2⟩⟩)
set_option maxRecDepth 40000 in
theorem cj_q_wr_X4_readNumber_59 {P7_1 P7_2 P7_3 : Int32 → (Int32) → Prop} {a_tape : Nat → Int32} {f_length : Int32} {f_kind : Int32} {f_value : Int32} {x1 : Int32} {x2 : Int32} {y0 : Int32} {post_1 post_2 post_3 : Int32 → (Int32) → (Int32) → Prop} (h_P7 : ∀ x0 x1, P7_1 x0 x1 → P7_2 x0 x1 → P7_3 x0 x1) (h_post : ∀ x0 x1 x2, post_1 x0 x1 x2 → post_2 x0 x1 x2 → post_3 x0 x1 x2) (h1 : q_wr_X4_readNumber_59 P7_1 a_tape f_length f_kind f_value x1 x2 y0 post_1) (h2 : q_wr_X4_readNumber_59 P7_2 a_tape f_length f_kind f_value x1 x2 y0 post_2) : q_wr_X4_readNumber_59 P7_3 a_tape f_length f_kind f_value x1 x2 y0 post_3 := fun v1 e2 => h_P7 _ _ (h1 v1 e2) (h2 v1 e2)
set_option maxRecDepth 40000 in
theorem cj_q_wr_X4_readNumber_81 {a_tape : Nat → Int32} {f_length : Int32} {f_kind : Int32} {f_value : Int32} {x2 : Int32} {y0 : Int32} {post_1 post_2 post_3 : Int32 → (Int32) → (Int32) → Prop} (h_post : ∀ x0 x1 x2, post_1 x0 x1 x2 → post_2 x0 x1 x2 → post_3 x0 x1 x2) (h1 : q_wr_X4_readNumber_81 a_tape f_length f_kind f_value x2 y0 post_1) (h2 : q_wr_X4_readNumber_81 a_tape f_length f_kind f_value x2 y0 post_2) : q_wr_X4_readNumber_81 a_tape f_length f_kind f_value x2 y0 post_3 := h_post _ _ _ h1 h2
set_option maxRecDepth 40000 in
theorem cj_q_wr_X4_readNumber_68 {a_tape : Nat → Int32} {f_length : Int32} {f_kind : Int32} {f_value : Int32} {x1 : Int32} {x2 : Int32} {post_1 post_2 post_3 : Int32 → (Int32) → (Int32) → Prop} (h_post : ∀ x0 x1 x2, post_1 x0 x1 x2 → post_2 x0 x1 x2 → post_3 x0 x1 x2) (h1 : q_wr_X4_readNumber_68 a_tape f_length f_kind f_value x1 x2 post_1) (h2 : q_wr_X4_readNumber_68 a_tape f_length f_kind f_value x1 x2 post_2) : q_wr_X4_readNumber_68 a_tape f_length f_kind f_value x1 x2 post_3 := ⟨fun c1 => cj_q_wr_X4_readNumber_81 h_post (h1.1 c1) (h2.1 c1), fun c2 => cj_q_wr_X4_readNumber_81 h_post (h1.2 c2) (h2.2 c2)⟩
set_option maxRecDepth 40000 in
theorem cj_q_z_X4_isDigit_0 {x0 : Int32} {post_1 post_2 post_3 : Int32 → Prop} (h_post : ∀ x0, post_1 x0 → post_2 x0 → post_3 x0) (h1 : q_z_X4_isDigit_0 x0 post_1) (h2 : q_z_X4_isDigit_0 x0 post_2) : q_z_X4_isDigit_0 x0 post_3 := ⟨fun c1 => h_post _ (h1.1 c1) (h2.1 c1), fun c2 => ⟨fun c3 => h_post _ ((h1.2 c2).1 c3) ((h2.2 c2).1 c3), fun c4 => h_post _ ((h1.2 c2).2 c4) ((h2.2 c2).2 c4)⟩⟩
set_option maxRecDepth 40000 in
theorem cj_q_wr_X4_readNumber_7 {a_tape : Nat → Int32} {f_length : Int32} {f_kind : Int32} {f_value : Int32} {x1 : Int32} {x2 : Int32} {post_1 post_2 post_3 : Int32 → (Int32) → (Int32) → Prop} (h_post : ∀ x0 x1 x2, post_1 x0 x1 x2 → post_2 x0 x1 x2 → post_3 x0 x1 x2) (h1 : q_wr_X4_readNumber_7 a_tape f_length f_kind f_value x1 x2 post_1) (h2 : q_wr_X4_readNumber_7 a_tape f_length f_kind f_value x1 x2 post_2) : q_wr_X4_readNumber_7 a_tape f_length f_kind f_value x1 x2 post_3 := lfp_2 h1 h2 (fun A B C hsk1 _ _ hak1 hck1 => ⟨fun c2 => cj_q_wr_X4_readNumber_68 h_post (hak1.1 c2) (hck1.1 c2), fun c3 => ⟨(hak1.2 c3).1, cj_q_z_X4_isDigit_0 (fun _ h4 h5 => ⟨fun c6 => cj_q_wr_X4_readNumber_68 h_post (h4.1 c6) (h5.1 c6), fun c7 => ⟨fun c8 => cj_q_wr_X4_readNumber_59 hsk1 h_post ((h4.2 c7).1 c8) ((h5.2 c7).1 c8), fun c9 => ⟨((h4.2 c7).2 c9).1, cj_q_wr_X4_readNumber_59 hsk1 h_post ((h4.2 c7).2 c9).2 ((h5.2 c7).2 c9).2⟩⟩⟩) (hak1.2 c3).2 (hck1.2 c3).2⟩⟩) (fun A B hqk1 _ _ hbk1 => ⟨fun c10 => cj_q_wr_X4_readNumber_68 (fun _ _ _ h _ => h) (hbk1.1 c10) (hbk1.1 c10), fun c11 => ⟨(hbk1.2 c11).1, cj_q_z_X4_isDigit_0 (fun _ h12 h13 => ⟨fun c14 => cj_q_wr_X4_readNumber_68 (fun _ _ _ h _ => h) (h12.1 c14) (h13.1 c14), fun c15 => ⟨fun c16 => cj_q_wr_X4_readNumber_59 (fun _ _ h _ => hqk1 _ _ h) (fun _ _ _ h _ => h) ((h12.2 c15).1 c16) ((h13.2 c15).1 c16), fun c17 => ⟨((h12.2 c15).2 c17).1, cj_q_wr_X4_readNumber_59 (fun _ _ h _ => hqk1 _ _ h) (fun _ _ _ h _ => h) ((h12.2 c15).2 c17).2 ((h13.2 c15).2 c17).2⟩⟩⟩) (hbk1.2 c11).2 (hbk1.2 c11).2⟩⟩)
set_option maxRecDepth 40000 in
theorem cj_q_wr_X4_readNumber_0 {a_tape : Nat → Int32} {f_length : Int32} {f_kind : Int32} {f_value : Int32} {x1 : Int32} {post_1 post_2 post_3 : Int32 → (Int32) → (Int32) → Prop} (h_post : ∀ x0 x1 x2, post_1 x0 x1 x2 → post_2 x0 x1 x2 → post_3 x0 x1 x2) (h1 : q_wr_X4_readNumber_0 a_tape f_length f_kind f_value x1 post_1) (h2 : q_wr_X4_readNumber_0 a_tape f_length f_kind f_value x1 post_2) : q_wr_X4_readNumber_0 a_tape f_length f_kind f_value x1 post_3 := cj_q_wr_X4_readNumber_7 h_post h1 h2
set_option maxRecDepth 40000 in
theorem cj_q_wr_X4_advance_41 {a_tape : Nat → Int32} {f_length : Int32} {f_behind : Int32} {f_kind : Int32} {f_first : Int32} {f_value : Int32} {x1 : Int32} {post_1 post_2 post_3 : (Int32) → (Int32) → (Int32) → (Int32) → Prop} (h_post : ∀ x0 x1 x2 x3, post_1 x0 x1 x2 x3 → post_2 x0 x1 x2 x3 → post_3 x0 x1 x2 x3) (h1 : q_wr_X4_advance_41 a_tape f_length f_behind f_kind f_first f_value x1 post_1) (h2 : q_wr_X4_advance_41 a_tape f_length f_behind f_kind f_first f_value x1 post_2) : q_wr_X4_advance_41 a_tape f_length f_behind f_kind f_first f_value x1 post_3 := ⟨fun c1 => ⟨(h1.1 c1).1, cj_q_z_X4_isLetter_0 (fun _ h2 h3 => ⟨fun c4 => ⟨(h2.1 c4).1, cj_q_z_X4_isDigit_0 (fun _ h5 h6 => ⟨fun c7 => ⟨(h5.1 c7).1, ⟨fun c8 => cj_q_wr_X4_advance_143 h_post ((h5.1 c7).2.1 c8) ((h6.1 c7).2.1 c8), fun c9 => cj_q_wr_X4_advance_143 h_post ((h5.1 c7).2.2 c9) ((h6.1 c7).2.2 c9)⟩⟩, fun c10 => cj_q_wr_X4_readNumber_0 (fun _ _ _ h11 h12 => cj_q_wr_X4_advance_149 h_post h11 h12) (h5.2 c10) (h6.2 c10)⟩) (h2.1 c4).2 (h3.1 c4).2⟩, fun c13 => cj_q_wr_X4_advance_79 h_post (h2.2 c13) (h3.2 c13)⟩) (h1.1 c1).2 (h2.1 c1).2⟩, fun c14 => cj_q_wr_X4_advance_149 h_post (h1.2 c14) (h2.2 c14)⟩
set_option maxRecDepth 40000 in
theorem cj_q_wr_X4_advance_5 {a_tape : Nat → Int32} {f_length : Int32} {f_behind : Int32} {f_kind : Int32} {f_first : Int32} {f_value : Int32} {x1 : Int32} {post_1 post_2 post_3 : (Int32) → (Int32) → (Int32) → (Int32) → Prop} (h_post : ∀ x0 x1 x2 x3, post_1 x0 x1 x2 x3 → post_2 x0 x1 x2 x3 → post_3 x0 x1 x2 x3) (h1 : q_wr_X4_advance_5 a_tape f_length f_behind f_kind f_first f_value x1 post_1) (h2 : q_wr_X4_advance_5 a_tape f_length f_behind f_kind f_first f_value x1 post_2) : q_wr_X4_advance_5 a_tape f_length f_behind f_kind f_first f_value x1 post_3 := lfp_1 h1 h2 (fun A B C hsk1 _ hak1 hck1 => ⟨fun c2 => cj_q_wr_X4_advance_41 h_post (hak1.1 c2) (hck1.1 c2), fun c3 => ⟨(hak1.2 c3).1, ⟨fun c4 => cj_q_wr_X4_advance_35 hsk1 h_post ((hak1.2 c3).2.1 c4) ((hck1.2 c3).2.1 c4), fun c5 => ⟨((hak1.2 c3).2.2 c5).1, ⟨fun c6 => cj_q_wr_X4_advance_41 h_post (((hak1.2 c3).2.2 c5).2.1 c6) (((hck1.2 c3).2.2 c5).2.1 c6), fun c7 => cj_q_wr_X4_advance_35 hsk1 h_post (((hak1.2 c3).2.2 c5).2.2 c7) (((hck1.2 c3).2.2 c5).2.2 c7)⟩⟩⟩⟩⟩) (fun A B hqk1 _ hbk1 => ⟨fun c8 => cj_q_wr_X4_advance_41 (fun _ _ _ _ h _ => h) (hbk1.1 c8) (hbk1.1 c8), fun c9 => ⟨(hbk1.2 c9).1, ⟨fun c10 => cj_q_wr_X4_advance_35 (fun _ h _ => hqk1 _ h) (fun _ _ _ _ h _ => h) ((hbk1.2 c9).2.1 c10) ((hbk1.2 c9).2.1 c10), fun c11 => ⟨((hbk1.2 c9).2.2 c11).1, ⟨fun c12 => cj_q_wr_X4_advance_41 (fun _ _ _ _ h _ => h) (((hbk1.2 c9).2.2 c11).2.1 c12) (((hbk1.2 c9).2.2 c11).2.1 c12), fun c13 => cj_q_wr_X4_advance_35 (fun _ h _ => hqk1 _ h) (fun _ _ _ _ h _ => h) (((hbk1.2 c9).2.2 c11).2.2 c13) (((hbk1.2 c9).2.2 c11).2.2 c13)⟩⟩⟩⟩⟩)
set_option maxRecDepth 40000 in
theorem cj_q_wr_X4_advance_0 {a_tape : Nat → Int32} {f_length : Int32} {f_behind : Int32} {f_kind : Int32} {f_first : Int32} {f_value : Int32} {post_1 post_2 post_3 : (Int32) → (Int32) → (Int32) → (Int32) → Prop} (h_post : ∀ x0 x1 x2 x3, post_1 x0 x1 x2 x3 → post_2 x0 x1 x2 x3 → post_3 x0 x1 x2 x3) (h1 : q_wr_X4_advance_0 a_tape f_length f_behind f_kind f_first f_value post_1) (h2 : q_wr_X4_advance_0 a_tape f_length f_behind f_kind f_first f_value post_2) : q_wr_X4_advance_0 a_tape f_length f_behind f_kind f_first f_value post_3 := cj_q_wr_X4_advance_5 h_post h1 h2
set_option maxRecDepth 40000 in
theorem cj_q_wr_J7_fill_53178_3_5 {la_ladders : Nat → Int32} {x1 : Int32} {x2 : Int32} {x3 : Int32} {post_1 post_2 post_3 : (Nat → Int32) → Prop} (h_post : ∀ x0, post_1 x0 → post_2 x0 → post_3 x0) (h1 : q_wr_J7_fill_53178_3_5 la_ladders x1 x2 x3 post_1) (h2 : q_wr_J7_fill_53178_3_5 la_ladders x1 x2 x3 post_2) : q_wr_J7_fill_53178_3_5 la_ladders x1 x2 x3 post_3 := lfp_2 h1 h2 (fun A B C hsk1 _ _ hak1 hck1 => ⟨fun c2 => h_post _ (hak1.1 c2) (hck1.1 c2), fun c3 => ⟨(hak1.2 c3).1, fun v4 e5 => fun v6 e7 => hsk1 _ _ (((hak1.2 c3).2 v4 e5) v6 e7) (((hck1.2 c3).2 v4 e5) v6 e7)⟩⟩) (fun A B hqk1 _ _ hbk1 => ⟨fun c8 => (hbk1.1 c8), fun c9 => ⟨(hbk1.2 c9).1, fun v10 e11 => fun v12 e13 => hqk1 _ _ (((hbk1.2 c9).2 v10 e11) v12 e13)⟩⟩)
set_option maxRecDepth 40000 in
theorem cj_q_wr_J7_fill_53178_3_0 {la_ladders : Nat → Int32} {x1 : Int32} {post_1 post_2 post_3 : (Nat → Int32) → Prop} (h_post : ∀ x0, post_1 x0 → post_2 x0 → post_3 x0) (h1 : q_wr_J7_fill_53178_3_0 la_ladders x1 post_1) (h2 : q_wr_J7_fill_53178_3_0 la_ladders x1 post_2) : q_wr_J7_fill_53178_3_0 la_ladders x1 post_3 := cj_q_wr_J7_fill_53178_3_5 h_post h1 h2
set_option maxRecDepth 40000 in
theorem cj_q_wr_J7_fill_53178_4_5 {la_minutes : Nat → Int32} {x1 : Int32} {x2 : Int32} {x3 : Int32} {post_1 post_2 post_3 : (Nat → Int32) → Prop} (h_post : ∀ x0, post_1 x0 → post_2 x0 → post_3 x0) (h1 : q_wr_J7_fill_53178_4_5 la_minutes x1 x2 x3 post_1) (h2 : q_wr_J7_fill_53178_4_5 la_minutes x1 x2 x3 post_2) : q_wr_J7_fill_53178_4_5 la_minutes x1 x2 x3 post_3 := lfp_2 h1 h2 (fun A B C hsk1 _ _ hak1 hck1 => ⟨fun c2 => h_post _ (hak1.1 c2) (hck1.1 c2), fun c3 => ⟨(hak1.2 c3).1, fun v4 e5 => fun v6 e7 => hsk1 _ _ (((hak1.2 c3).2 v4 e5) v6 e7) (((hck1.2 c3).2 v4 e5) v6 e7)⟩⟩) (fun A B hqk1 _ _ hbk1 => ⟨fun c8 => (hbk1.1 c8), fun c9 => ⟨(hbk1.2 c9).1, fun v10 e11 => fun v12 e13 => hqk1 _ _ (((hbk1.2 c9).2 v10 e11) v12 e13)⟩⟩)
set_option maxRecDepth 40000 in
theorem cj_q_wr_J7_fill_53178_4_0 {la_minutes : Nat → Int32} {x1 : Int32} {post_1 post_2 post_3 : (Nat → Int32) → Prop} (h_post : ∀ x0, post_1 x0 → post_2 x0 → post_3 x0) (h1 : q_wr_J7_fill_53178_4_0 la_minutes x1 post_1) (h2 : q_wr_J7_fill_53178_4_0 la_minutes x1 post_2) : q_wr_J7_fill_53178_4_0 la_minutes x1 post_3 := cj_q_wr_J7_fill_53178_4_5 h_post h1 h2
set_option maxRecDepth 40000 in
theorem cj_q_wr_J7_fill_53178_9_5 {la_known : Nat → Int32} {x1 : Int32} {x2 : Int32} {x3 : Int32} {post_1 post_2 post_3 : (Nat → Int32) → Prop} (h_post : ∀ x0, post_1 x0 → post_2 x0 → post_3 x0) (h1 : q_wr_J7_fill_53178_9_5 la_known x1 x2 x3 post_1) (h2 : q_wr_J7_fill_53178_9_5 la_known x1 x2 x3 post_2) : q_wr_J7_fill_53178_9_5 la_known x1 x2 x3 post_3 := lfp_2 h1 h2 (fun A B C hsk1 _ _ hak1 hck1 => ⟨fun c2 => h_post _ (hak1.1 c2) (hck1.1 c2), fun c3 => ⟨(hak1.2 c3).1, fun v4 e5 => fun v6 e7 => hsk1 _ _ (((hak1.2 c3).2 v4 e5) v6 e7) (((hck1.2 c3).2 v4 e5) v6 e7)⟩⟩) (fun A B hqk1 _ _ hbk1 => ⟨fun c8 => (hbk1.1 c8), fun c9 => ⟨(hbk1.2 c9).1, fun v10 e11 => fun v12 e13 => hqk1 _ _ (((hbk1.2 c9).2 v10 e11) v12 e13)⟩⟩)
set_option maxRecDepth 40000 in
theorem cj_q_wr_J7_fill_53178_9_0 {la_known : Nat → Int32} {x1 : Int32} {post_1 post_2 post_3 : (Nat → Int32) → Prop} (h_post : ∀ x0, post_1 x0 → post_2 x0 → post_3 x0) (h1 : q_wr_J7_fill_53178_9_0 la_known x1 post_1) (h2 : q_wr_J7_fill_53178_9_0 la_known x1 post_2) : q_wr_J7_fill_53178_9_0 la_known x1 post_3 := cj_q_wr_J7_fill_53178_9_5 h_post h1 h2
set_option maxRecDepth 40000 in
theorem cj_q_wr_X2_clear_0 {lf_huts : Int32} {lf_singers : Int32} {lf_villages : Int32} {lf_dams : Int32} {lf_echoes : Int32} {lf_deep : Int32} {lf_slide : Int32} {la_ladders : Nat → Int32} {la_minutes : Nat → Int32} {la_known : Nat → Int32} {post_1 post_2 post_3 : (Int32) → (Int32) → (Int32) → (Int32) → (Int32) → (Int32) → (Int32) → (Nat → Int32) → (Nat → Int32) → (Nat → Int32) → Prop} (h_post : ∀ x0 x1 x2 x3 x4 x5 x6 x7 x8 x9, post_1 x0 x1 x2 x3 x4 x5 x6 x7 x8 x9 → post_2 x0 x1 x2 x3 x4 x5 x6 x7 x8 x9 → post_3 x0 x1 x2 x3 x4 x5 x6 x7 x8 x9) (h1 : q_wr_X2_clear_0 lf_huts lf_singers lf_villages lf_dams lf_echoes lf_deep lf_slide la_ladders la_minutes la_known post_1) (h2 : q_wr_X2_clear_0 lf_huts lf_singers lf_villages lf_dams lf_echoes lf_deep lf_slide la_ladders la_minutes la_known post_2) : q_wr_X2_clear_0 lf_huts lf_singers lf_villages lf_dams lf_echoes lf_deep lf_slide la_ladders la_minutes la_known post_3 := cj_q_wr_J7_fill_53178_3_0 (fun _ h1 h2 => cj_q_wr_J7_fill_53178_4_0 (fun _ h3 h4 => cj_q_wr_J7_fill_53178_9_0 (fun _ h5 h6 => h_post _ _ _ _ _ _ _ _ _ _ h5 h6) h3 h4) h1 h2) h1 h2
set_option maxRecDepth 40000 in
theorem cj_q_wr_X4_clearDraft_0 {lf_huts : Int32} {lf_singers : Int32} {lf_villages : Int32} {lf_dams : Int32} {lf_echoes : Int32} {lf_deep : Int32} {lf_slide : Int32} {la_ladders : Nat → Int32} {la_minutes : Nat → Int32} {la_known : Nat → Int32} {vf_deeds : Int32} {sf_facts : Int32} {cf_voices : Int32} {cf_step : Int32} {f_hutsToldOf : Int32} {f_singersToldOf : Int32} {x1 : Int32} {post_1 post_2 post_3 : (Int32) → (Int32) → (Int32) → (Int32) → (Int32) → (Int32) → (Int32) → (Nat → Int32) → (Nat → Int32) → (Nat → Int32) → (Int32) → (Int32) → (Int32) → (Int32) → (Int32) → (Int32) → Prop} (h_post : ∀ x0 x1 x2 x3 x4 x5 x6 x7 x8 x9 x10 x11 x12 x13 x14 x15, post_1 x0 x1 x2 x3 x4 x5 x6 x7 x8 x9 x10 x11 x12 x13 x14 x15 → post_2 x0 x1 x2 x3 x4 x5 x6 x7 x8 x9 x10 x11 x12 x13 x14 x15 → post_3 x0 x1 x2 x3 x4 x5 x6 x7 x8 x9 x10 x11 x12 x13 x14 x15) (h1 : q_wr_X4_clearDraft_0 lf_huts lf_singers lf_villages lf_dams lf_echoes lf_deep lf_slide la_ladders la_minutes la_known vf_deeds sf_facts cf_voices cf_step f_hutsToldOf f_singersToldOf x1 post_1) (h2 : q_wr_X4_clearDraft_0 lf_huts lf_singers lf_villages lf_dams lf_echoes lf_deep lf_slide la_ladders la_minutes la_known vf_deeds sf_facts cf_voices cf_step f_hutsToldOf f_singersToldOf x1 post_2) : q_wr_X4_clearDraft_0 lf_huts lf_singers lf_villages lf_dams lf_echoes lf_deep lf_slide la_ladders la_minutes la_known vf_deeds sf_facts cf_voices cf_step f_hutsToldOf f_singersToldOf x1 post_3 := ⟨fun c1 => ⟨fun c2 => ⟨fun c3 => h_post _ _ _ _ _ _ _ _ _ _ _ _ _ _ _ _ (((h1.1 c1).1 c2).1 c3) (((h2.1 c1).1 c2).1 c3), fun c4 => h_post _ _ _ _ _ _ _ _ _ _ _ _ _ _ _ _ (((h1.1 c1).1 c2).2 c4) (((h2.1 c1).1 c2).2 c4)⟩, fun c5 => h_post _ _ _ _ _ _ _ _ _ _ _ _ _ _ _ _ ((h1.1 c1).2 c5) ((h2.1 c1).2 c5)⟩, fun c6 => cj_q_wr_X2_clear_0 (fun _ _ _ _ _ _ _ _ _ _ h7 h8 => h_post _ _ _ _ _ _ _ _ _ _ _ _ _ _ _ _ h7 h8) (h1.2 c6) (h2.2 c6)⟩
set_option maxRecDepth 40000 in
theorem cj_q_wr_X4_isFull_173 {lf_huts : Int32} {lf_singers : Int32} {lf_echoes : Int32} {vf_deeds : Int32} {sf_facts : Int32} {cf_voices : Int32} {post_1 post_2 post_3 : Int32 → Prop} (h_post : ∀ x0, post_1 x0 → post_2 x0 → post_3 x0) (h1 : q_wr_X4_isFull_173 lf_huts lf_singers lf_echoes vf_deeds sf_facts cf_voices post_1) (h2 : q_wr_X4_isFull_173 lf_huts lf_singers lf_echoes vf_deeds sf_facts cf_voices post_2) : q_wr_X4_isFull_173 lf_huts lf_singers lf_echoes vf_deeds sf_facts cf_voices post_3 := ⟨fun c1 => h_post _ (h1.1 c1) (h2.1 c1), fun c2 => h_post _ (h1.2 c2) (h2.2 c2)⟩
set_option maxRecDepth 40000 in
theorem cj_q_wr_X4_isFull_30 {lf_huts : Int32} {lf_singers : Int32} {lf_echoes : Int32} {vf_deeds : Int32} {sf_facts : Int32} {cf_voices : Int32} {x1 : Int32} {post_1 post_2 post_3 : Int32 → Prop} (h_post : ∀ x0, post_1 x0 → post_2 x0 → post_3 x0) (h1 : q_wr_X4_isFull_30 lf_huts lf_singers lf_echoes vf_deeds sf_facts cf_voices x1 post_1) (h2 : q_wr_X4_isFull_30 lf_huts lf_singers lf_echoes vf_deeds sf_facts cf_voices x1 post_2) : q_wr_X4_isFull_30 lf_huts lf_singers lf_echoes vf_deeds sf_facts cf_voices x1 post_3 := ⟨fun c1 => h_post _ (h1.1 c1) (h2.1 c1), fun c2 => ⟨fun c3 => h_post _ ((h1.2.1 c2).1 c3) ((h2.2.1 c2).1 c3), fun c4 => h_post _ ((h1.2.1 c2).2 c4) ((h2.2.1 c2).2 c4)⟩, fun c5 => h_post _ (h1.2.2.1 c5) (h2.2.2.1 c5), fun c6 => h_post _ (h1.2.2.2.1 c6) (h2.2.2.2.1 c6), fun c7 => h_post _ (h1.2.2.2.2.1 c7) (h2.2.2.2.2.1 c7), fun c8 => h_post _ (h1.2.2.2.2.2.1 c8) (h2.2.2.2.2.2.1 c8), fun c9 => h_post _ (h1.2.2.2.2.2.2.1 c9) (h2.2.2.2.2.2.2.1 c9), fun c10 => ⟨fun c11 => h_post _ ((h1.2.2.2.2.2.2.2.1 c10).1 c11) ((h2.2.2.2.2.2.2.2.1 c10).1 c11), fun c12 => h_post _ ((h1.2.2.2.2.2.2.2.1 c10).2 c12) ((h2.2.2.2.2.2.2.2.1 c10).2 c12)⟩, fun c13 => h_post _ (h1.2.2.2.2.2.2.2.2.1 c13) (h2.2.2.2.2.2.2.2.2.1 c13), fun c14 => ⟨fun c15 => h_post _ ((h1.2.2.2.2.2.2.2.2.2.1 c14).1 c15) ((h2.2.2.2.2.2.2.2.2.2.1 c14).1 c15), fun c16 => h_post _ ((h1.2.2.2.2.2.2.2.2.2.1 c14).2 c16) ((h2.2.2.2.2.2.2.2.2.2.1 c14).2 c16)⟩, fun c17 => h_post _ (h1.2.2.2.2.2.2.2.2.2.2.1 c17) (h2.2.2.2.2.2.2.2.2.2.2.1 c17), fun c18 => h_post _ (h1.2.2.2.2.2.2.2.2.2.2.2.1 c18) (h2.2.2.2.2.2.2.2.2.2.2.2.1 c18), fun c19 => h_post _ (h1.2.2.2.2.2.2.2.2.2.2.2.2.1 c19) (h2.2.2.2.2.2.2.2.2.2.2.2.2.1 c19), fun c20 => h_post _ (h1.2.2.2.2.2.2.2.2.2.2.2.2.2.1 c20) (h2.2.2.2.2.2.2.2.2.2.2.2.2.2.1 c20), fun c21 => h_post _ (h1.2.2.2.2.2.2.2.2.2.2.2.2.2.2.1 c21) (h2.2.2.2.2.2.2.2.2.2.2.2.2.2.2.1 c21), fun c22 => h_post _ (h1.2.2.2.2.2.2.2.2.2.2.2.2.2.2.2.1 c22) (h2.2.2.2.2.2.2.2.2.2.2.2.2.2.2.2.1 c22), fun c23 => h_post _ (h1.2.2.2.2.2.2.2.2.2.2.2.2.2.2.2.2.1 c23) (h2.2.2.2.2.2.2.2.2.2.2.2.2.2.2.2.2.1 c23), fun c24 => cj_q_wr_X4_isFull_173 h_post (h1.2.2.2.2.2.2.2.2.2.2.2.2.2.2.2.2.2.1 c24) (h2.2.2.2.2.2.2.2.2.2.2.2.2.2.2.2.2.2.1 c24), fun c25 => cj_q_wr_X4_isFull_173 h_post (h1.2.2.2.2.2.2.2.2.2.2.2.2.2.2.2.2.2.2.1 c25) (h2.2.2.2.2.2.2.2.2.2.2.2.2.2.2.2.2.2.2.1 c25), fun c26 => ⟨fun c27 => h_post _ ((h1.2.2.2.2.2.2.2.2.2.2.2.2.2.2.2.2.2.2.2 c26).1 c27) ((h2.2.2.2.2.2.2.2.2.2.2.2.2.2.2.2.2.2.2.2 c26).1 c27), fun c28 => h_post _ ((h1.2.2.2.2.2.2.2.2.2.2.2.2.2.2.2.2.2.2.2 c26).2 c28) ((h2.2.2.2.2.2.2.2.2.2.2.2.2.2.2.2.2.2.2.2 c26).2 c28)⟩⟩
set_option maxRecDepth 40000 in
theorem cj_q_wr_X4_isFull_0 {lf_huts : Int32} {lf_singers : Int32} {lf_echoes : Int32} {vf_deeds : Int32} {sf_facts : Int32} {cf_voices : Int32} {x1 : Int32} {post_1 post_2 post_3 : Int32 → Prop} (h_post : ∀ x0, post_1 x0 → post_2 x0 → post_3 x0) (h1 : q_wr_X4_isFull_0 lf_huts lf_singers lf_echoes vf_deeds sf_facts cf_voices x1 post_1) (h2 : q_wr_X4_isFull_0 lf_huts lf_singers lf_echoes vf_deeds sf_facts cf_voices x1 post_2) : q_wr_X4_isFull_0 lf_huts lf_singers lf_echoes vf_deeds sf_facts cf_voices x1 post_3 := ⟨fun c1 => cj_q_wr_X4_isFull_30 h_post (h1.1 c1) (h2.1 c1), fun c2 => ⟨fun c3 => cj_q_wr_X4_isFull_30 h_post ((h1.2 c2).1 c3) ((h2.2 c2).1 c3), fun c4 => ⟨fun c5 => h_post _ (((h1.2 c2).2 c4).1 c5) (((h2.2 c2).2 c4).1 c5), fun c6 => h_post _ (((h1.2 c2).2 c4).2 c6) (((h2.2 c2).2 c4).2 c6)⟩⟩⟩
set_option maxRecDepth 40000 in
theorem cj_q_wr_X4_mark_0 {f_fault : Int32} {f_faultPlace : Int32} {x1 : Int32} {x2 : Int32} {post_1 post_2 post_3 : (Int32) → (Int32) → Prop} (h_post : ∀ x0 x1, post_1 x0 x1 → post_2 x0 x1 → post_3 x0 x1) (h1 : q_wr_X4_mark_0 f_fault f_faultPlace x1 x2 post_1) (h2 : q_wr_X4_mark_0 f_fault f_faultPlace x1 x2 post_2) : q_wr_X4_mark_0 f_fault f_faultPlace x1 x2 post_3 := ⟨fun c1 => h_post _ _ (h1.1 c1) (h2.1 c1), fun c2 => h_post _ _ (h1.2 c2) (h2.2 c2)⟩
set_option maxRecDepth 40000 in
theorem cj_q_wr_X4_canBe_67 {a_numbers : Nat → Int32} {post_1 post_2 post_3 : Int32 → Prop} (h_post : ∀ x0, post_1 x0 → post_2 x0 → post_3 x0) (h1 : q_wr_X4_canBe_67 a_numbers post_1) (h2 : q_wr_X4_canBe_67 a_numbers post_2) : q_wr_X4_canBe_67 a_numbers post_3 := h_post _ h1 h2
set_option maxRecDepth 40000 in
theorem cj_q_wr_X4_canBe_52 {a_numbers : Nat → Int32} {post_1 post_2 post_3 : Int32 → Prop} (h_post : ∀ x0, post_1 x0 → post_2 x0 → post_3 x0) (h1 : q_wr_X4_canBe_52 a_numbers post_1) (h2 : q_wr_X4_canBe_52 a_numbers post_2) : q_wr_X4_canBe_52 a_numbers post_3 := ⟨fun c1 => h_post _ (h1.1 c1) (h2.1 c1), fun c2 => cj_q_wr_X4_canBe_67 h_post (h1.2 c2) (h2.2 c2)⟩
set_option maxRecDepth 40000 in
theorem cj_q_wr_X4_canBe_0 {a_numbers : Nat → Int32} {x1 : Int32} {x2 : Int32} {post_1 post_2 post_3 : Int32 → Prop} (h_post : ∀ x0, post_1 x0 → post_2 x0 → post_3 x0) (h1 : q_wr_X4_canBe_0 a_numbers x1 x2 post_1) (h2 : q_wr_X4_canBe_0 a_numbers x1 x2 post_2) : q_wr_X4_canBe_0 a_numbers x1 x2 post_3 := fun v1 e2 => ⟨(h1 v1 e2).1, ⟨(h1 v1 e2).2.1, ⟨fun c3 => h_post _ ((h1 v1 e2).2.2.1 c3) ((h2 v1 e2).2.2.1 c3), fun c4 => ⟨((h1 v1 e2).2.2.2 c4).1, ⟨((h1 v1 e2).2.2.2 c4).2.1, ⟨fun c5 => ⟨fun c6 => cj_q_wr_X4_canBe_67 h_post ((((h1 v1 e2).2.2.2 c4).2.2.1 c5).1 c6) ((((h2 v1 e2).2.2.2 c4).2.2.1 c5).1 c6), fun c7 => ⟨fun c8 => cj_q_wr_X4_canBe_52 h_post (((((h1 v1 e2).2.2.2 c4).2.2.1 c5).2 c7).1 c8) (((((h2 v1 e2).2.2.2 c4).2.2.1 c5).2 c7).1 c8), fun c9 => ⟨fun c10 => cj_q_wr_X4_canBe_67 h_post ((((((h1 v1 e2).2.2.2 c4).2.2.1 c5).2 c7).2 c9).1 c10) ((((((h2 v1 e2).2.2.2 c4).2.2.1 c5).2 c7).2 c9).1 c10), fun c11 => cj_q_wr_X4_canBe_52 h_post ((((((h1 v1 e2).2.2.2 c4).2.2.1 c5).2 c7).2 c9).2 c11) ((((((h2 v1 e2).2.2.2 c4).2.2.1 c5).2 c7).2 c9).2 c11)⟩⟩⟩, fun c12 => h_post _ (((h1 v1 e2).2.2.2 c4).2.2.2 c12) (((h2 v1 e2).2.2.2 c4).2.2.2 c12)⟩⟩⟩⟩⟩⟩
set_option maxRecDepth 40000 in
theorem cj_q_wr_X4_readLine_124 {lf_huts : Int32} {lf_singers : Int32} {lf_villages : Int32} {lf_dams : Int32} {lf_echoes : Int32} {lf_deep : Int32} {lf_slide : Int32} {la_heights : Nat → Int32} {la_ladders : Nat → Int32} {la_minutes : Nat → Int32} {la_echoFrom : Nat → Int32} {la_echoTo : Nat → Int32} {la_homes : Nat → Int32} {la_talls : Nat → Int32} {la_known : Nat → Int32} {vf_deeds : Int32} {va_kinds : Nat → Int32} {va_firsts : Nat → Int32} {va_seconds : Nat → Int32} {sf_facts : Int32} {sa_heard : Nat → Int32} {sa_huts : Nat → Int32} {sa_minutes : Nat → Int32} {cf_voices : Int32} {cf_step : Int32} {ca_parts : Nat → Int32} {ca_heights : Nat → Int32} {f_fault : Int32} {f_faultPlace : Int32} {a_numbers : Nat → Int32} {a_tape : Nat → Int32} {f_length : Int32} {f_behind : Int32} {f_kind : Int32} {f_first : Int32} {f_value : Int32} {f_hutsToldOf : Int32} {f_singersToldOf : Int32} {post_1 post_2 post_3 : (Int32) → (Int32) → (Int32) → (Int32) → (Int32) → (Int32) → (Int32) → (Nat → Int32) → (Nat → Int32) → (Nat → Int32) → (Nat → Int32) → (Nat → Int32) → (Nat → Int32) → (Nat → Int32) → (Nat → Int32) → (Int32) → (Nat → Int32) → (Nat → Int32) → (Nat → Int32) → (Int32) → (Nat → Int32) → (Nat → Int32) → (Nat → Int32) → (Int32) → (Int32) → (Nat → Int32) → (Nat → Int32) → (Int32) → (Int32) → (Nat → Int32) → (Int32) → (Int32) → (Int32) → (Int32) → (Int32) → (Int32) → Prop} (h_post : ∀ x0 x1 x2 x3 x4 x5 x6 x7 x8 x9 x10 x11 x12 x13 x14 x15 x16 x17 x18 x19 x20 x21 x22 x23 x24 x25 x26 x27 x28 x29 x30 x31 x32 x33 x34 x35, post_1 x0 x1 x2 x3 x4 x5 x6 x7 x8 x9 x10 x11 x12 x13 x14 x15 x16 x17 x18 x19 x20 x21 x22 x23 x24 x25 x26 x27 x28 x29 x30 x31 x32 x33 x34 x35 → post_2 x0 x1 x2 x3 x4 x5 x6 x7 x8 x9 x10 x11 x12 x13 x14 x15 x16 x17 x18 x19 x20 x21 x22 x23 x24 x25 x26 x27 x28 x29 x30 x31 x32 x33 x34 x35 → post_3 x0 x1 x2 x3 x4 x5 x6 x7 x8 x9 x10 x11 x12 x13 x14 x15 x16 x17 x18 x19 x20 x21 x22 x23 x24 x25 x26 x27 x28 x29 x30 x31 x32 x33 x34 x35) (h1 : q_wr_X4_readLine_124 lf_huts lf_singers lf_villages lf_dams lf_echoes lf_deep lf_slide la_heights la_ladders la_minutes la_echoFrom la_echoTo la_homes la_talls la_known vf_deeds va_kinds va_firsts va_seconds sf_facts sa_heard sa_huts sa_minutes cf_voices cf_step ca_parts ca_heights f_fault f_faultPlace a_numbers a_tape f_length f_behind f_kind f_first f_value f_hutsToldOf f_singersToldOf post_1) (h2 : q_wr_X4_readLine_124 lf_huts lf_singers lf_villages lf_dams lf_echoes lf_deep lf_slide la_heights la_ladders la_minutes la_echoFrom la_echoTo la_homes la_talls la_known vf_deeds va_kinds va_firsts va_seconds sf_facts sa_heard sa_huts sa_minutes cf_voices cf_step ca_parts ca_heights f_fault f_faultPlace a_numbers a_tape f_length f_behind f_kind f_first f_value f_hutsToldOf f_singersToldOf post_2) : q_wr_X4_readLine_124 lf_huts lf_singers lf_villages lf_dams lf_echoes lf_deep lf_slide la_heights la_ladders la_minutes la_echoFrom la_echoTo la_homes la_talls la_known vf_deeds va_kinds va_firsts va_seconds sf_facts sa_heard sa_huts sa_minutes cf_voices cf_step ca_parts ca_heights f_fault f_faultPlace a_numbers a_tape f_length f_behind f_kind f_first f_value f_hutsToldOf f_singersToldOf post_3 := cj_q_wr_X4_advance_0 (fun _ _ _ _ h1 h2 => h_post _ _ _ _ _ _ _ _ _ _ _ _ _ _ _ _ _ _ _ _ _ _ _ _ _ _ _ _ _ _ _ _ _ _ _ _ h1 h2) h1 h2
set_option maxRecDepth 40000 in
theorem cj_q_wr_X4_readLine_89 {P39_1 P39_2 P39_3 : Int32 → (Int32) → (Int32) → (Nat → Int32) → (Int32) → (Int32) → (Int32) → (Int32) → Prop} {lf_huts : Int32} {lf_singers : Int32} {lf_villages : Int32} {lf_dams : Int32} {lf_echoes : Int32} {lf_deep : Int32} {lf_slide : Int32} {la_heights : Nat → Int32} {la_ladders : Nat → Int32} {la_minutes : Nat → Int32} {la_echoFrom : Nat → Int32} {la_echoTo : Nat → Int32} {la_homes : Nat → Int32} {la_talls : Nat → Int32} {la_known : Nat → Int32} {vf_deeds : Int32} {va_kinds : Nat → Int32} {va_firsts : Nat → Int32} {va_seconds : Nat → Int32} {sf_facts : Int32} {sa_heard : Nat → Int32} {sa_huts : Nat → Int32} {sa_minutes : Nat → Int32} {cf_voices : Int32} {cf_step : Int32} {ca_parts : Nat → Int32} {ca_heights : Nat → Int32} {f_fault : Int32} {f_faultPlace : Int32} {a_numbers : Nat → Int32} {a_tape : Nat → Int32} {f_length : Int32} {f_behind : Int32} {f_kind : Int32} {f_first : Int32} {f_value : Int32} {f_hutsToldOf : Int32} {f_singersToldOf : Int32} {x2 : Int32} {x3 : Int32} {post_1 post_2 post_3 : (Int32) → (Int32) → (Int32) → (Int32) → (Int32) → (Int32) → (Int32) → (Nat → Int32) → (Nat → Int32) → (Nat → Int32) → (Nat → Int32) → (Nat → Int32) → (Nat → Int32) → (Nat → Int32) → (Nat → Int32) → (Int32) → (Nat → Int32) → (Nat → Int32) → (Nat → Int32) → (Int32) → (Nat → Int32) → (Nat → Int32) → (Nat → Int32) → (Int32) → (Int32) → (Nat → Int32) → (Nat → Int32) → (Int32) → (Int32) → (Nat → Int32) → (Int32) → (Int32) → (Int32) → (Int32) → (Int32) → (Int32) → Prop} (h_P39 : ∀ x0 x1 x2 x3 x4 x5 x6 x7, P39_1 x0 x1 x2 x3 x4 x5 x6 x7 → P39_2 x0 x1 x2 x3 x4 x5 x6 x7 → P39_3 x0 x1 x2 x3 x4 x5 x6 x7) (h_post : ∀ x0 x1 x2 x3 x4 x5 x6 x7 x8 x9 x10 x11 x12 x13 x14 x15 x16 x17 x18 x19 x20 x21 x22 x23 x24 x25 x26 x27 x28 x29 x30 x31 x32 x33 x34 x35, post_1 x0 x1 x2 x3 x4 x5 x6 x7 x8 x9 x10 x11 x12 x13 x14 x15 x16 x17 x18 x19 x20 x21 x22 x23 x24 x25 x26 x27 x28 x29 x30 x31 x32 x33 x34 x35 → post_2 x0 x1 x2 x3 x4 x5 x6 x7 x8 x9 x10 x11 x12 x13 x14 x15 x16 x17 x18 x19 x20 x21 x22 x23 x24 x25 x26 x27 x28 x29 x30 x31 x32 x33 x34 x35 → post_3 x0 x1 x2 x3 x4 x5 x6 x7 x8 x9 x10 x11 x12 x13 x14 x15 x16 x17 x18 x19 x20 x21 x22 x23 x24 x25 x26 x27 x28 x29 x30 x31 x32 x33 x34 x35) (h1 : q_wr_X4_readLine_89 P39_1 lf_huts lf_singers lf_villages lf_dams lf_echoes lf_deep lf_slide la_heights la_ladders la_minutes la_echoFrom la_echoTo la_homes la_talls la_known vf_deeds va_kinds va_firsts va_seconds sf_facts sa_heard sa_huts sa_minutes cf_voices cf_step ca_parts ca_heights f_fault f_faultPlace a_numbers a_tape f_length f_behind f_kind f_first f_value f_hutsToldOf f_singersToldOf x2 x3 post_1) (h2 : q_wr_X4_readLine_89 P39_2 lf_huts lf_singers lf_villages lf_dams lf_echoes lf_deep lf_slide la_heights la_ladders la_minutes la_echoFrom la_echoTo la_homes la_talls la_known vf_deeds va_kinds va_firsts va_seconds sf_facts sa_heard sa_huts sa_minutes cf_voices cf_step ca_parts ca_heights f_fault f_faultPlace a_numbers a_tape f_length f_behind f_kind f_first f_value f_hutsToldOf f_singersToldOf x2 x3 post_2) : q_wr_X4_readLine_89 P39_3 lf_huts lf_singers lf_villages lf_dams lf_echoes lf_deep lf_slide la_heights la_ladders la_minutes la_echoFrom la_echoTo la_homes la_talls la_known vf_deeds va_kinds va_firsts va_seconds sf_facts sa_heard sa_huts sa_minutes cf_voices cf_step ca_parts ca_heights f_fault f_faultPlace a_numbers a_tape f_length f_behind f_kind f_first f_value f_hutsToldOf f_singersToldOf x2 x3 post_3 := cj_q_wr_X4_advance_0 (fun _ _ _ _ h1 h2 => fun v3 e4 => h_P39 _ _ _ _ _ _ _ _ (h1 v3 e4) (h2 v3 e4)) h1 h2
set_option maxRecDepth 40000 in
theorem cj_q_wr_X4_refuse_0 {f_fault : Int32} {f_faultPlace : Int32} {f_first : Int32} {post_1 post_2 post_3 : (Int32) → (Int32) → Prop} (h_post : ∀ x0 x1, post_1 x0 x1 → post_2 x0 x1 → post_3 x0 x1) (h1 : q_wr_X4_refuse_0 f_fault f_faultPlace f_first post_1) (h2 : q_wr_X4_refuse_0 f_fault f_faultPlace f_first post_2) : q_wr_X4_refuse_0 f_fault f_faultPlace f_first post_3 := h_post _ _ h1 h2
set_option maxRecDepth 40000 in
theorem cj_q_wr_X0_tell_0 {cf_voices : Int32} {ca_parts : Nat → Int32} {ca_heights : Nat → Int32} {x1 : Int32} {x2 : Int32} {post_1 post_2 post_3 : (Int32) → (Nat → Int32) → (Nat → Int32) → Prop} (h_post : ∀ x0 x1 x2, post_1 x0 x1 x2 → post_2 x0 x1 x2 → post_3 x0 x1 x2) (h1 : q_wr_X0_tell_0 cf_voices ca_parts ca_heights x1 x2 post_1) (h2 : q_wr_X0_tell_0 cf_voices ca_parts ca_heights x1 x2 post_2) : q_wr_X0_tell_0 cf_voices ca_parts ca_heights x1 x2 post_3 := ⟨fun c1 => h_post _ _ _ (h1.1 c1) (h2.1 c1), fun c2 => ⟨(h1.2 c2).1, fun v3 e4 => ⟨((h1.2 c2).2 v3 e4).1, fun v5 e6 => fun v7 e8 => h_post _ _ _ ((((h1.2 c2).2 v3 e4).2 v5 e6) v7 e8) ((((h2.2 c2).2 v3 e4).2 v5 e6) v7 e8)⟩⟩⟩
set_option maxRecDepth 40000 in
theorem cj_q_wr_X4_tellOfLand_0 {lf_huts : Int32} {lf_singers : Int32} {lf_villages : Int32} {lf_dams : Int32} {lf_echoes : Int32} {lf_deep : Int32} {lf_slide : Int32} {la_heights : Nat → Int32} {la_ladders : Nat → Int32} {la_minutes : Nat → Int32} {la_echoFrom : Nat → Int32} {la_echoTo : Nat → Int32} {la_homes : Nat → Int32} {la_talls : Nat → Int32} {la_known : Nat → Int32} {f_hutsToldOf : Int32} {f_singersToldOf : Int32} {x1 : Int32} {x2 : Int32} {x3 : Int32} {x4 : Int32} {post_1 post_2 post_3 : (Int32) → (Int32) → (Int32) → (Int32) → (Int32) → (Int32) → (Int32) → (Nat → Int32) → (Nat → Int32) → (Nat → Int32) → (Nat → Int32) → (Nat → Int32) → (Nat → Int32) → (Nat → Int32) → (Nat → Int32) → (Int32) → (Int32) → Prop} (h_post : ∀ x0 x1 x2 x3 x4 x5 x6 x7 x8 x9 x10 x11 x12 x13 x14 x15 x16, post_1 x0 x1 x2 x3 x4 x5 x6 x7 x8 x9 x10 x11 x12 x13 x14 x15 x16 → post_2 x0 x1 x2 x3 x4 x5 x6 x7 x8 x9 x10 x11 x12 x13 x14 x15 x16 → post_3 x0 x1 x2 x3 x4 x5 x6 x7 x8 x9 x10 x11 x12 x13 x14 x15 x16) (h1 : q_wr_X4_tellOfLand_0 lf_huts lf_singers lf_villages lf_dams lf_echoes lf_deep lf_slide la_heights la_ladders la_minutes la_echoFrom la_echoTo la_homes la_talls la_known f_hutsToldOf f_singersToldOf x1 x2 x3 x4 post_1) (h2 : q_wr_X4_tellOfLand_0 lf_huts lf_singers lf_villages lf_dams lf_echoes lf_deep lf_slide la_heights la_ladders la_minutes la_echoFrom la_echoTo la_homes la_talls la_known f_hutsToldOf f_singersToldOf x1 x2 x3 x4 post_2) : q_wr_X4_tellOfLand_0 lf_huts lf_singers lf_villages lf_dams lf_echoes lf_deep lf_slide la_heights la_ladders la_minutes la_echoFrom la_echoTo la_homes la_talls la_known f_hutsToldOf f_singersToldOf x1 x2 x3 x4 post_3 := ⟨fun c1 => ⟨(h1.1 c1).1, fun v2 e3 => ⟨((h1.1 c1).2 v2 e3).1, fun v4 e5 => fun v6 e7 => h_post _ _ _ _ _ _ _ _ _ _ _ _ _ _ _ _ _ ((((h1.1 c1).2 v2 e3).2 v4 e5) v6 e7) ((((h2.1 c1).2 v2 e3).2 v4 e5) v6 e7)⟩⟩, fun c8 => ⟨(h1.2.1 c8).1, fun v9 e10 => fun v11 e12 => h_post _ _ _ _ _ _ _ _ _ _ _ _ _ _ _ _ _ (((h1.2.1 c8).2 v9 e10) v11 e12) (((h2.2.1 c8).2 v9 e10) v11 e12)⟩, fun c13 => fun v14 e15 => fun v16 e17 => h_post _ _ _ _ _ _ _ _ _ _ _ _ _ _ _ _ _ (((h1.2.2.1 c13) v14 e15) v16 e17) (((h2.2.2.1 c13) v14 e15) v16 e17), fun c18 => fun v19 e20 => fun v21 e22 => h_post _ _ _ _ _ _ _ _ _ _ _ _ _ _ _ _ _ (((h1.2.2.2.1 c18) v19 e20) v21 e22) (((h2.2.2.2.1 c18) v19 e20) v21 e22), fun c23 => h_post _ _ _ _ _ _ _ _ _ _ _ _ _ _ _ _ _ (h1.2.2.2.2.1 c23) (h2.2.2.2.2.1 c23), fun c24 => h_post _ _ _ _ _ _ _ _ _ _ _ _ _ _ _ _ _ (h1.2.2.2.2.2.1 c24) (h2.2.2.2.2.2.1 c24), fun c25 => ⟨(h1.2.2.2.2.2.2.1 c25).1, fun v26 e27 => ⟨((h1.2.2.2.2.2.2.1 c25).2 v26 e27).1, fun v28 e29 => fun v30 e31 => h_post _ _ _ _ _ _ _ _ _ _ _ _ _ _ _ _ _ ((((h1.2.2.2.2.2.2.1 c25).2 v26 e27).2 v28 e29) v30 e31) ((((h2.2.2.2.2.2.2.1 c25).2 v26 e27).2 v28 e29) v30 e31)⟩⟩, fun c32 => ⟨(h1.2.2.2.2.2.2.2.1 c32).1, fun v33 e34 => ⟨((h1.2.2.2.2.2.2.2.1 c32).2 v33 e34).1, fun v35 e36 => fun v37 e38 => fun v39 e40 => h_post _ _ _ _ _ _ _ _ _ _ _ _ _ _ _ _ _ (((((h1.2.2.2.2.2.2.2.1 c32).2 v33 e34).2 v35 e36) v37 e38) v39 e40) (((((h2.2.2.2.2.2.2.2.1 c32).2 v33 e34).2 v35 e36) v37 e38) v39 e40)⟩⟩, fun c41 => ⟨(h1.2.2.2.2.2.2.2.2.1 c41).1, fun v42 e43 => fun v44 e45 => h_post _ _ _ _ _ _ _ _ _ _ _ _ _ _ _ _ _ (((h1.2.2.2.2.2.2.2.2.1 c41).2 v42 e43) v44 e45) (((h2.2.2.2.2.2.2.2.2.1 c41).2 v42 e43) v44 e45)⟩, fun c46 => ⟨(h1.2.2.2.2.2.2.2.2.2 c46).1, fun v47 e48 => ⟨((h1.2.2.2.2.2.2.2.2.2 c46).2 v47 e48).1, fun v49 e50 => fun v51 e52 => fun v53 e54 => h_post _ _ _ _ _ _ _ _ _ _ _ _ _ _ _ _ _ (((((h1.2.2.2.2.2.2.2.2.2 c46).2 v47 e48).2 v49 e50) v51 e52) v53 e54) (((((h2.2.2.2.2.2.2.2.2.2 c46).2 v47 e48).2 v49 e50) v51 e52) v53 e54)⟩⟩⟩
set_option maxRecDepth 40000 in
theorem cj_q_wr_X1_tell_0 {vf_deeds : Int32} {va_kinds : Nat → Int32} {va_firsts : Nat → Int32} {va_seconds : Nat → Int32} {x1 : Int32} {x2 : Int32} {x3 : Int32} {post_1 post_2 post_3 : (Int32) → (Nat → Int32) → (Nat → Int32) → (Nat → Int32) → Prop} (h_post : ∀ x0 x1 x2 x3, post_1 x0 x1 x2 x3 → post_2 x0 x1 x2 x3 → post_3 x0 x1 x2 x3) (h1 : q_wr_X1_tell_0 vf_deeds va_kinds va_firsts va_seconds x1 x2 x3 post_1) (h2 : q_wr_X1_tell_0 vf_deeds va_kinds va_firsts va_seconds x1 x2 x3 post_2) : q_wr_X1_tell_0 vf_deeds va_kinds va_firsts va_seconds x1 x2 x3 post_3 := ⟨fun c1 => h_post _ _ _ _ (h1.1 c1) (h2.1 c1), fun c2 => ⟨(h1.2 c2).1, fun v3 e4 => ⟨((h1.2 c2).2 v3 e4).1, fun v5 e6 => ⟨(((h1.2 c2).2 v3 e4).2 v5 e6).1, fun v7 e8 => fun v9 e10 => h_post _ _ _ _ (((((h1.2 c2).2 v3 e4).2 v5 e6).2 v7 e8) v9 e10) (((((h2.2 c2).2 v3 e4).2 v5 e6).2 v7 e8) v9 e10)⟩⟩⟩⟩
set_option maxRecDepth 40000 in
theorem cj_q_wr_X4_tell_71 {lf_huts : Int32} {lf_singers : Int32} {lf_villages : Int32} {lf_dams : Int32} {lf_echoes : Int32} {lf_deep : Int32} {lf_slide : Int32} {la_heights : Nat → Int32} {la_ladders : Nat → Int32} {la_minutes : Nat → Int32} {la_echoFrom : Nat → Int32} {la_echoTo : Nat → Int32} {la_homes : Nat → Int32} {la_talls : Nat → Int32} {la_known : Nat → Int32} {vf_deeds : Int32} {va_kinds : Nat → Int32} {va_firsts : Nat → Int32} {va_seconds : Nat → Int32} {sf_facts : Int32} {sa_heard : Nat → Int32} {sa_huts : Nat → Int32} {sa_minutes : Nat → Int32} {cf_voices : Int32} {cf_step : Int32} {ca_parts : Nat → Int32} {ca_heights : Nat → Int32} {a_numbers : Nat → Int32} {f_hutsToldOf : Int32} {f_singersToldOf : Int32} {y0 : Int32} {y1 : Int32} {y2 : Int32} {post_1 post_2 post_3 : (Int32) → (Int32) → (Int32) → (Int32) → (Int32) → (Int32) → (Int32) → (Nat → Int32) → (Nat → Int32) → (Nat → Int32) → (Nat → Int32) → (Nat → Int32) → (Nat → Int32) → (Nat → Int32) → (Nat → Int32) → (Int32) → (Nat → Int32) → (Nat → Int32) → (Nat → Int32) → (Int32) → (Nat → Int32) → (Nat → Int32) → (Nat → Int32) → (Int32) → (Int32) → (Nat → Int32) → (Nat → Int32) → (Int32) → (Int32) → Prop} (h_post : ∀ x0 x1 x2 x3 x4 x5 x6 x7 x8 x9 x10 x11 x12 x13 x14 x15 x16 x17 x18 x19 x20 x21 x22 x23 x24 x25 x26 x27 x28, post_1 x0 x1 x2 x3 x4 x5 x6 x7 x8 x9 x10 x11 x12 x13 x14 x15 x16 x17 x18 x19 x20 x21 x22 x23 x24 x25 x26 x27 x28 → post_2 x0 x1 x2 x3 x4 x5 x6 x7 x8 x9 x10 x11 x12 x13 x14 x15 x16 x17 x18 x19 x20 x21 x22 x23 x24 x25 x26 x27 x28 → post_3 x0 x1 x2 x3 x4 x5 x6 x7 x8 x9 x10 x11 x12 x13 x14 x15 x16 x17 x18 x19 x20 x21 x22 x23 x24 x25 x26 x27 x28) (h1 : q_wr_X4_tell_71 lf_huts lf_singers lf_villages lf_dams lf_echoes lf_deep lf_slide la_heights la_ladders la_minutes la_echoFrom la_echoTo la_homes la_talls la_known vf_deeds va_kinds va_firsts va_seconds sf_facts sa_heard sa_huts sa_minutes cf_voices cf_step ca_parts ca_heights a_numbers f_hutsToldOf f_singersToldOf y0 y1 y2 post_1) (h2 : q_wr_X4_tell_71 lf_huts lf_singers lf_villages lf_dams lf_echoes lf_deep lf_slide la_heights la_ladders la_minutes la_echoFrom la_echoTo la_homes la_talls la_known vf_deeds va_kinds va_firsts va_seconds sf_facts sa_heard sa_huts sa_minutes cf_voices cf_step ca_parts ca_heights a_numbers f_hutsToldOf f_singersToldOf y0 y1 y2 post_2) : q_wr_X4_tell_71 lf_huts lf_singers lf_villages lf_dams lf_echoes lf_deep lf_slide la_heights la_ladders la_minutes la_echoFrom la_echoTo la_homes la_talls la_known vf_deeds va_kinds va_firsts va_seconds sf_facts sa_heard sa_huts sa_minutes cf_voices cf_step ca_parts ca_heights a_numbers f_hutsToldOf f_singersToldOf y0 y1 y2 post_3 := cj_q_wr_X1_tell_0 (fun _ _ _ _ h1 h2 => h_post _ _ _ _ _ _ _ _ _ _ _ _ _ _ _ _ _ _ _ _ _ _ _ _ _ _ _ _ _ h1 h2) h1 h2
set_option maxRecDepth 40000 in
theorem cj_q_wr_X6_tell_0 {sf_facts : Int32} {sa_heard : Nat → Int32} {sa_huts : Nat → Int32} {sa_minutes : Nat → Int32} {x1 : Int32} {x2 : Int32} {x3 : Int32} {post_1 post_2 post_3 : (Int32) → (Nat → Int32) → (Nat → Int32) → (Nat → Int32) → Prop} (h_post : ∀ x0 x1 x2 x3, post_1 x0 x1 x2 x3 → post_2 x0 x1 x2 x3 → post_3 x0 x1 x2 x3) (h1 : q_wr_X6_tell_0 sf_facts sa_heard sa_huts sa_minutes x1 x2 x3 post_1) (h2 : q_wr_X6_tell_0 sf_facts sa_heard sa_huts sa_minutes x1 x2 x3 post_2) : q_wr_X6_tell_0 sf_facts sa_heard sa_huts sa_minutes x1 x2 x3 post_3 := ⟨fun c1 => h_post _ _ _ _ (h1.1 c1) (h2.1 c1), fun c2 => ⟨(h1.2 c2).1, fun v3 e4 => ⟨((h1.2 c2).2 v3 e4).1, fun v5 e6 => ⟨(((h1.2 c2).2 v3 e4).2 v5 e6).1, fun v7 e8 => fun v9 e10 => h_post _ _ _ _ (((((h1.2 c2).2 v3 e4).2 v5 e6).2 v7 e8) v9 e10) (((((h2.2 c2).2 v3 e4).2 v5 e6).2 v7 e8) v9 e10)⟩⟩⟩⟩
set_option maxRecDepth 40000 in
theorem cj_q_wr_X4_tell_98 {lf_huts : Int32} {lf_singers : Int32} {lf_villages : Int32} {lf_dams : Int32} {lf_echoes : Int32} {lf_deep : Int32} {lf_slide : Int32} {la_heights : Nat → Int32} {la_ladders : Nat → Int32} {la_minutes : Nat → Int32} {la_echoFrom : Nat → Int32} {la_echoTo : Nat → Int32} {la_homes : Nat → Int32} {la_talls : Nat → Int32} {la_known : Nat → Int32} {vf_deeds : Int32} {va_kinds : Nat → Int32} {va_firsts : Nat → Int32} {va_seconds : Nat → Int32} {sf_facts : Int32} {sa_heard : Nat → Int32} {sa_huts : Nat → Int32} {sa_minutes : Nat → Int32} {cf_voices : Int32} {cf_step : Int32} {ca_parts : Nat → Int32} {ca_heights : Nat → Int32} {a_numbers : Nat → Int32} {f_hutsToldOf : Int32} {f_singersToldOf : Int32} {y0 : Int32} {post_1 post_2 post_3 : (Int32) → (Int32) → (Int32) → (Int32) → (Int32) → (Int32) → (Int32) → (Nat → Int32) → (Nat → Int32) → (Nat → Int32) → (Nat → Int32) → (Nat → Int32) → (Nat → Int32) → (Nat → Int32) → (Nat → Int32) → (Int32) → (Nat → Int32) → (Nat → Int32) → (Nat → Int32) → (Int32) → (Nat → Int32) → (Nat → Int32) → (Nat → Int32) → (Int32) → (Int32) → (Nat → Int32) → (Nat → Int32) → (Int32) → (Int32) → Prop} (h_post : ∀ x0 x1 x2 x3 x4 x5 x6 x7 x8 x9 x10 x11 x12 x13 x14 x15 x16 x17 x18 x19 x20 x21 x22 x23 x24 x25 x26 x27 x28, post_1 x0 x1 x2 x3 x4 x5 x6 x7 x8 x9 x10 x11 x12 x13 x14 x15 x16 x17 x18 x19 x20 x21 x22 x23 x24 x25 x26 x27 x28 → post_2 x0 x1 x2 x3 x4 x5 x6 x7 x8 x9 x10 x11 x12 x13 x14 x15 x16 x17 x18 x19 x20 x21 x22 x23 x24 x25 x26 x27 x28 → post_3 x0 x1 x2 x3 x4 x5 x6 x7 x8 x9 x10 x11 x12 x13 x14 x15 x16 x17 x18 x19 x20 x21 x22 x23 x24 x25 x26 x27 x28) (h1 : q_wr_X4_tell_98 lf_huts lf_singers lf_villages lf_dams lf_echoes lf_deep lf_slide la_heights la_ladders la_minutes la_echoFrom la_echoTo la_homes la_talls la_known vf_deeds va_kinds va_firsts va_seconds sf_facts sa_heard sa_huts sa_minutes cf_voices cf_step ca_parts ca_heights a_numbers f_hutsToldOf f_singersToldOf y0 post_1) (h2 : q_wr_X4_tell_98 lf_huts lf_singers lf_villages lf_dams lf_echoes lf_deep lf_slide la_heights la_ladders la_minutes la_echoFrom la_echoTo la_homes la_talls la_known vf_deeds va_kinds va_firsts va_seconds sf_facts sa_heard sa_huts sa_minutes cf_voices cf_step ca_parts ca_heights a_numbers f_hutsToldOf f_singersToldOf y0 post_2) : q_wr_X4_tell_98 lf_huts lf_singers lf_villages lf_dams lf_echoes lf_deep lf_slide la_heights la_ladders la_minutes la_echoFrom la_echoTo la_homes la_talls la_known vf_deeds va_kinds va_firsts va_seconds sf_facts sa_heard sa_huts sa_minutes cf_voices cf_step ca_parts ca_heights a_numbers f_hutsToldOf f_singersToldOf y0 post_3 := cj_q_wr_X6_tell_0 (fun _ _ _ _ h1 h2 => h_post _ _ _ _ _ _ _ _ _ _ _ _ _ _ _ _ _ _ _ _ _ _ _ _ _ _ _ _ _ h1 h2) h1 h2
set_option maxRecDepth 40000 in
theorem cj_q_wr_X4_tell_0 {lf_huts : Int32} {lf_singers : Int32} {lf_villages : Int32} {lf_dams : Int32} {lf_echoes : Int32} {lf_deep : Int32} {lf_slide : Int32} {la_heights : Nat → Int32} {la_ladders : Nat → Int32} {la_minutes : Nat → Int32} {la_echoFrom : Nat → Int32} {la_echoTo : Nat → Int32} {la_homes : Nat → Int32} {la_talls : Nat → Int32} {la_known : Nat → Int32} {vf_deeds : Int32} {va_kinds : Nat → Int32} {va_firsts : Nat → Int32} {va_seconds : Nat → Int32} {sf_facts : Int32} {sa_heard : Nat → Int32} {sa_huts : Nat → Int32} {sa_minutes : Nat → Int32} {cf_voices : Int32} {cf_step : Int32} {ca_parts : Nat → Int32} {ca_heights : Nat → Int32} {a_numbers : Nat → Int32} {f_hutsToldOf : Int32} {f_singersToldOf : Int32} {x1 : Int32} {post_1 post_2 post_3 : (Int32) → (Int32) → (Int32) → (Int32) → (Int32) → (Int32) → (Int32) → (Nat → Int32) → (Nat → Int32) → (Nat → Int32) → (Nat → Int32) → (Nat → Int32) → (Nat → Int32) → (Nat → Int32) → (Nat → Int32) → (Int32) → (Nat → Int32) → (Nat → Int32) → (Nat → Int32) → (Int32) → (Nat → Int32) → (Nat → Int32) → (Nat → Int32) → (Int32) → (Int32) → (Nat → Int32) → (Nat → Int32) → (Int32) → (Int32) → Prop} (h_post : ∀ x0 x1 x2 x3 x4 x5 x6 x7 x8 x9 x10 x11 x12 x13 x14 x15 x16 x17 x18 x19 x20 x21 x22 x23 x24 x25 x26 x27 x28, post_1 x0 x1 x2 x3 x4 x5 x6 x7 x8 x9 x10 x11 x12 x13 x14 x15 x16 x17 x18 x19 x20 x21 x22 x23 x24 x25 x26 x27 x28 → post_2 x0 x1 x2 x3 x4 x5 x6 x7 x8 x9 x10 x11 x12 x13 x14 x15 x16 x17 x18 x19 x20 x21 x22 x23 x24 x25 x26 x27 x28 → post_3 x0 x1 x2 x3 x4 x5 x6 x7 x8 x9 x10 x11 x12 x13 x14 x15 x16 x17 x18 x19 x20 x21 x22 x23 x24 x25 x26 x27 x28) (h1 : q_wr_X4_tell_0 lf_huts lf_singers lf_villages lf_dams lf_echoes lf_deep lf_slide la_heights la_ladders la_minutes la_echoFrom la_echoTo la_homes la_talls la_known vf_deeds va_kinds va_firsts va_seconds sf_facts sa_heard sa_huts sa_minutes cf_voices cf_step ca_parts ca_heights a_numbers f_hutsToldOf f_singersToldOf x1 post_1) (h2 : q_wr_X4_tell_0 lf_huts lf_singers lf_villages lf_dams lf_echoes lf_deep lf_slide la_heights la_ladders la_minutes la_echoFrom la_echoTo la_homes la_talls la_known vf_deeds va_kinds va_firsts va_seconds sf_facts sa_heard sa_huts sa_minutes cf_voices cf_step ca_parts ca_heights a_numbers f_hutsToldOf f_singersToldOf x1 post_2) : q_wr_X4_tell_0 lf_huts lf_singers lf_villages lf_dams lf_echoes lf_deep lf_slide la_heights la_ladders la_minutes la_echoFrom la_echoTo la_homes la_talls la_known vf_deeds va_kinds va_firsts va_seconds sf_facts sa_heard sa_huts sa_minutes cf_voices cf_step ca_parts ca_heights a_numbers f_hutsToldOf f_singersToldOf x1 post_3 := ⟨fun c1 => ⟨fun c2 => ⟨fun c3 => ⟨fun c4 => fun v5 e6 => h_post _ _ _ _ _ _ _ _ _ _ _ _ _ _ _ _ _ _ _ _ _ _ _ _ _ _ _ _ _ (((((h1.1 c1).1 c2).1 c3).1 c4) v5 e6) (((((h2.1 c1).1 c2).1 c3).1 c4) v5 e6), fun c7 => cj_q_wr_X0_tell_0 (fun _ _ _ h8 h9 => h_post _ _ _ _ _ _ _ _ _ _ _ _ _ _ _ _ _ _ _ _ _ _ _ _ _ _ _ _ _ h8 h9) ((((h1.1 c1).1 c2).1 c3).2 c7) ((((h2.1 c1).1 c2).1 c3).2 c7)⟩, fun c10 => ⟨fun c11 => cj_q_wr_X4_tell_98 h_post ((((h1.1 c1).1 c2).2 c10).1 c11) ((((h2.1 c1).1 c2).2 c10).1 c11), fun c12 => cj_q_wr_X4_tell_98 h_post ((((h1.1 c1).1 c2).2 c10).2 c12) ((((h2.1 c1).1 c2).2 c10).2 c12)⟩⟩, fun c13 => ⟨((h1.1 c1).2 c13).1, ⟨fun c14 => cj_q_wr_X4_tell_71 h_post (((h1.1 c1).2 c13).2.1 c14) (((h2.1 c1).2 c13).2.1 c14), fun c15 => cj_q_wr_X4_tell_71 h_post (((h1.1 c1).2 c13).2.2 c15) (((h2.1 c1).2 c13).2.2 c15)⟩⟩⟩, fun c16 => cj_q_wr_X4_tellOfLand_0 (fun _ _ _ _ _ _ _ _ _ _ _ _ _ _ _ _ _ h17 h18 => h_post _ _ _ _ _ _ _ _ _ _ _ _ _ _ _ _ _ _ _ _ _ _ _ _ _ _ _ _ _ h17 h18) (h1.2 c16) (h2.2 c16)⟩
set_option maxRecDepth 40000 in
theorem cj_q_wr_X4_readLine_39 {lf_huts : Int32} {lf_singers : Int32} {lf_villages : Int32} {lf_dams : Int32} {lf_echoes : Int32} {lf_deep : Int32} {lf_slide : Int32} {la_heights : Nat → Int32} {la_ladders : Nat → Int32} {la_minutes : Nat → Int32} {la_echoFrom : Nat → Int32} {la_echoTo : Nat → Int32} {la_homes : Nat → Int32} {la_talls : Nat → Int32} {la_known : Nat → Int32} {vf_deeds : Int32} {va_kinds : Nat → Int32} {va_firsts : Nat → Int32} {va_seconds : Nat → Int32} {sf_facts : Int32} {sa_heard : Nat → Int32} {sa_huts : Nat → Int32} {sa_minutes : Nat → Int32} {cf_voices : Int32} {cf_step : Int32} {ca_parts : Nat → Int32} {ca_heights : Nat → Int32} {f_fault : Int32} {f_faultPlace : Int32} {a_numbers : Nat → Int32} {a_tape : Nat → Int32} {f_length : Int32} {f_behind : Int32} {f_kind : Int32} {f_first : Int32} {f_value : Int32} {f_hutsToldOf : Int32} {f_singersToldOf : Int32} {x2 : Int32} {x3 : Int32} {post_1 post_2 post_3 : (Int32) → (Int32) → (Int32) → (Int32) → (Int32) → (Int32) → (Int32) → (Nat → Int32) → (Nat → Int32) → (Nat → Int32) → (Nat → Int32) → (Nat → Int32) → (Nat → Int32) → (Nat → Int32) → (Nat → Int32) → (Int32) → (Nat → Int32) → (Nat → Int32) → (Nat → Int32) → (Int32) → (Nat → Int32) → (Nat → Int32) → (Nat → Int32) → (Int32) → (Int32) → (Nat → Int32) → (Nat → Int32) → (Int32) → (Int32) → (Nat → Int32) → (Int32) → (Int32) → (Int32) → (Int32) → (Int32) → (Int32) → Prop} (h_post : ∀ x0 x1 x2 x3 x4 x5 x6 x7 x8 x9 x10 x11 x12 x13 x14 x15 x16 x17 x18 x19 x20 x21 x22 x23 x24 x25 x26 x27 x28 x29 x30 x31 x32 x33 x34 x35, post_1 x0 x1 x2 x3 x4 x5 x6 x7 x8 x9 x10 x11 x12 x13 x14 x15 x16 x17 x18 x19 x20 x21 x22 x23 x24 x25 x26 x27 x28 x29 x30 x31 x32 x33 x34 x35 → post_2 x0 x1 x2 x3 x4 x5 x6 x7 x8 x9 x10 x11 x12 x13 x14 x15 x16 x17 x18 x19 x20 x21 x22 x23 x24 x25 x26 x27 x28 x29 x30 x31 x32 x33 x34 x35 → post_3 x0 x1 x2 x3 x4 x5 x6 x7 x8 x9 x10 x11 x12 x13 x14 x15 x16 x17 x18 x19 x20 x21 x22 x23 x24 x25 x26 x27 x28 x29 x30 x31 x32 x33 x34 x35) (h1 : q_wr_X4_readLine_39 lf_huts lf_singers lf_villages lf_dams lf_echoes lf_deep lf_slide la_heights la_ladders la_minutes la_echoFrom la_echoTo la_homes la_talls la_known vf_deeds va_kinds va_firsts va_seconds sf_facts sa_heard sa_huts sa_minutes cf_voices cf_step ca_parts ca_heights f_fault f_faultPlace a_numbers a_tape f_length f_behind f_kind f_first f_value f_hutsToldOf f_singersToldOf x2 x3 post_1) (h2 : q_wr_X4_readLine_39 lf_huts lf_singers lf_villages lf_dams lf_echoes lf_deep lf_slide la_heights la_ladders la_minutes la_echoFrom la_echoTo la_homes la_talls la_known vf_deeds va_kinds va_firsts va_seconds sf_facts sa_heard sa_huts sa_minutes cf_voices cf_step ca_parts ca_heights f_fault f_faultPlace a_numbers a_tape f_length f_behind f_kind f_first f_value f_hutsToldOf f_singersToldOf x2 x3 post_2) : q_wr_X4_readLine_39 lf_huts lf_singers lf_villages lf_dams lf_echoes lf_deep lf_slide la_heights la_ladders la_minutes la_echoFrom la_echoTo la_homes la_talls la_known vf_deeds va_kinds va_firsts va_seconds sf_facts sa_heard sa_huts sa_minutes cf_voices cf_step ca_parts ca_heights f_fault f_faultPlace a_numbers a_tape f_length f_behind f_kind f_first f_value f_hutsToldOf f_singersToldOf x2 x3 post_3 := lfp_8 h1 h2 (fun A B C hsk1 _ _ _ _ _ _ _ _ hak1 hck1 => ⟨hak1.1, ⟨fun c2 => ⟨fun c3 => ⟨fun c4 => cj_q_wr_X4_readLine_124 h_post (((hak1.2.1 c2).1 c3).1 c4) (((hck1.2.1 c2).1 c3).1 c4), fun c5 => cj_q_wr_X4_tell_0 (fun _ _ _ _ _ _ _ _ _ _ _ _ _ _ _ _ _ _ _ _ _ _ _ _ _ _ _ _ _ h6 h7 => cj_q_wr_X4_readLine_124 h_post h6 h7) (((hak1.2.1 c2).1 c3).2 c5) (((hck1.2.1 c2).1 c3).2 c5)⟩, fun c8 => cj_q_wr_X4_refuse_0 (fun _ _ h9 h10 => h_post _ _ _ _ _ _ _ _ _ _ _ _ _ _ _ _ _ _ _ _ _ _ _ _ _ _ _ _ _ _ _ _ _ _ _ _ h9 h10) ((hak1.2.1 c2).2 c8) ((hck1.2.1 c2).2 c8)⟩, fun c11 => ⟨fun c12 => ⟨((hak1.2.2 c11).1 c12).1, fun v13 e14 => cj_q_wr_X4_canBe_0 (fun _ h15 h16 => ⟨fun c17 => cj_q_wr_X4_readLine_89 hsk1 h_post (h15.1 c17) (h16.1 c17), fun c18 => cj_q_wr_X4_mark_0 (fun _ _ h19 h20 => cj_q_wr_X4_readLine_89 hsk1 h_post h19 h20) (h15.2 c18) (h16.2 c18)⟩) (((hak1.2.2 c11).1 c12).2 v13 e14) (((hck1.2.2 c11).1 c12).2 v13 e14)⟩, fun c21 => cj_q_wr_X4_refuse_0 (fun _ _ h22 h23 => h_post _ _ _ _ _ _ _ _ _ _ _ _ _ _ _ _ _ _ _ _ _ _ _ _ _ _ _ _ _ _ _ _ _ _ _ _ h22 h23) ((hak1.2.2 c11).2 c21) ((hck1.2.2 c11).2 c21)⟩⟩⟩) (fun A B hqk1 _ _ _ _ _ _ _ _ hbk1 => ⟨hbk1.1, ⟨fun c24 => ⟨fun c25 => ⟨fun c26 => cj_q_wr_X4_readLine_124 (fun _ _ _ _ _ _ _ _ _ _ _ _ _ _ _ _ _ _ _ _ _ _ _ _ _ _ _ _ _ _ _ _ _ _ _ _ h _ => h) (((hbk1.2.1 c24).1 c25).1 c26) (((hbk1.2.1 c24).1 c25).1 c26), fun c27 => cj_q_wr_X4_tell_0 (fun _ _ _ _ _ _ _ _ _ _ _ _ _ _ _ _ _ _ _ _ _ _ _ _ _ _ _ _ _ h28 h29 => cj_q_wr_X4_readLine_124 (fun _ _ _ _ _ _ _ _ _ _ _ _ _ _ _ _ _ _ _ _ _ _ _ _ _ _ _ _ _ _ _ _ _ _ _ _ h _ => h) h28 h29) (((hbk1.2.1 c24).1 c25).2 c27) (((hbk1.2.1 c24).1 c25).2 c27)⟩, fun c30 => cj_q_wr_X4_refuse_0 (fun _ _ h31 h32 => h31) ((hbk1.2.1 c24).2 c30) ((hbk1.2.1 c24).2 c30)⟩, fun c33 => ⟨fun c34 => ⟨((hbk1.2.2 c33).1 c34).1, fun v35 e36 => cj_q_wr_X4_canBe_0 (fun _ h37 h38 => ⟨fun c39 => cj_q_wr_X4_readLine_89 (fun _ _ _ _ _ _ _ _ h _ => hqk1 _ _ _ _ _ _ _ _ h) (fun _ _ _ _ _ _ _ _ _ _ _ _ _ _ _ _ _ _ _ _ _ _ _ _ _ _ _ _ _ _ _ _ _ _ _ _ h _ => h) (h37.1 c39) (h38.1 c39), fun c40 => cj_q_wr_X4_mark_0 (fun _ _ h41 h42 => cj_q_wr_X4_readLine_89 (fun _ _ _ _ _ _ _ _ h _ => hqk1 _ _ _ _ _ _ _ _ h) (fun _ _ _ _ _ _ _ _ _ _ _ _ _ _ _ _ _ _ _ _ _ _ _ _ _ _ _ _ _ _ _ _ _ _ _ _ h _ => h) h41 h42) (h37.2 c40) (h38.2 c40)⟩) (((hbk1.2.2 c33).1 c34).2 v35 e36) (((hbk1.2.2 c33).1 c34).2 v35 e36)⟩, fun c43 => cj_q_wr_X4_refuse_0 (fun _ _ h44 h45 => h44) ((hbk1.2.2 c33).2 c43) ((hbk1.2.2 c33).2 c43)⟩⟩⟩)
set_option maxRecDepth 40000 in
theorem cj_q_wr_X4_readLine_33 {lf_huts : Int32} {lf_singers : Int32} {lf_villages : Int32} {lf_dams : Int32} {lf_echoes : Int32} {lf_deep : Int32} {lf_slide : Int32} {la_heights : Nat → Int32} {la_ladders : Nat → Int32} {la_minutes : Nat → Int32} {la_echoFrom : Nat → Int32} {la_echoTo : Nat → Int32} {la_homes : Nat → Int32} {la_talls : Nat → Int32} {la_known : Nat → Int32} {vf_deeds : Int32} {va_kinds : Nat → Int32} {va_firsts : Nat → Int32} {va_seconds : Nat → Int32} {sf_facts : Int32} {sa_heard : Nat → Int32} {sa_huts : Nat → Int32} {sa_minutes : Nat → Int32} {cf_voices : Int32} {cf_step : Int32} {ca_parts : Nat → Int32} {ca_heights : Nat → Int32} {f_fault : Int32} {f_faultPlace : Int32} {a_numbers : Nat → Int32} {a_tape : Nat → Int32} {f_length : Int32} {f_behind : Int32} {f_kind : Int32} {f_first : Int32} {f_value : Int32} {f_hutsToldOf : Int32} {f_singersToldOf : Int32} {x2 : Int32} {post_1 post_2 post_3 : (Int32) → (Int32) → (Int32) → (Int32) → (Int32) → (Int32) → (Int32) → (Nat → Int32) → (Nat → Int32) → (Nat → Int32) → (Nat → Int32) → (Nat → Int32) → (Nat → Int32) → (Nat → Int32) → (Nat → Int32) → (Int32) → (Nat → Int32) → (Nat → Int32) → (Nat → Int32) → (Int32) → (Nat → Int32) → (Nat → Int32) → (Nat → Int32) → (Int32) → (Int32) → (Nat → Int32) → (Nat → Int32) → (Int32) → (Int32) → (Nat → Int32) → (Int32) → (Int32) → (Int32) → (Int32) → (Int32) → (Int32) → Prop} (h_post : ∀ x0 x1 x2 x3 x4 x5 x6 x7 x8 x9 x10 x11 x12 x13 x14 x15 x16 x17 x18 x19 x20 x21 x22 x23 x24 x25 x26 x27 x28 x29 x30 x31 x32 x33 x34 x35, post_1 x0 x1 x2 x3 x4 x5 x6 x7 x8 x9 x10 x11 x12 x13 x14 x15 x16 x17 x18 x19 x20 x21 x22 x23 x24 x25 x26 x27 x28 x29 x30 x31 x32 x33 x34 x35 → post_2 x0 x1 x2 x3 x4 x5 x6 x7 x8 x9 x10 x11 x12 x13 x14 x15 x16 x17 x18 x19 x20 x21 x22 x23 x24 x25 x26 x27 x28 x29 x30 x31 x32 x33 x34 x35 → post_3 x0 x1 x2 x3 x4 x5 x6 x7 x8 x9 x10 x11 x12 x13 x14 x15 x16 x17 x18 x19 x20 x21 x22 x23 x24 x25 x26 x27 x28 x29 x30 x31 x32 x33 x34 x35) (h1 : q_wr_X4_readLine_33 lf_huts lf_singers lf_villages lf_dams lf_echoes lf_deep lf_slide la_heights la_ladders la_minutes la_echoFrom la_echoTo la_homes la_talls la_known vf_deeds va_kinds va_firsts va_seconds sf_facts sa_heard sa_huts sa_minutes cf_voices cf_step ca_parts ca_heights f_fault f_faultPlace a_numbers a_tape f_length f_behind f_kind f_first f_value f_hutsToldOf f_singersToldOf x2 post_1) (h2 : q_wr_X4_readLine_33 lf_huts lf_singers lf_villages lf_dams lf_echoes lf_deep lf_slide la_heights la_ladders la_minutes la_echoFrom la_echoTo la_homes la_talls la_known vf_deeds va_kinds va_firsts va_seconds sf_facts sa_heard sa_huts sa_minutes cf_voices cf_step ca_parts ca_heights f_fault f_faultPlace a_numbers a_tape f_length f_behind f_kind f_first f_value f_hutsToldOf f_singersToldOf x2 post_2) : q_wr_X4_readLine_33 lf_huts lf_singers lf_villages lf_dams lf_echoes lf_deep lf_slide la_heights la_ladders la_minutes la_echoFrom la_echoTo la_homes la_talls la_known vf_deeds va_kinds va_firsts va_seconds sf_facts sa_heard sa_huts sa_minutes cf_voices cf_step ca_parts ca_heights f_fault f_faultPlace a_numbers a_tape f_length f_behind f_kind f_first f_value f_hutsToldOf f_singersToldOf x2 post_3 := cj_q_wr_X4_advance_0 (fun _ _ _ _ h1 h2 => cj_q_wr_X4_readLine_39 h_post h1 h2) h1 h2
set_option maxRecDepth 40000 in
theorem cj_q_spelling {x : Int32} {post_1 post_2 post_3 : Nat → Prop} (h_post : ∀ x0, post_1 x0 → post_2 x0 → post_3 x0) (h1 : q_spelling x post_1) (h2 : q_spelling x post_2) : q_spelling x post_3 := ⟨h1.1, h_post _ h1.2 h2.2⟩
set_option maxRecDepth 40000 in
theorem cj_q_wr_X4_isSpelled_20 {a_tape : Nat → Int32} {f_behind : Int32} {f_first : Int32} {x1 : Nat} {x2 : Int32} {post_1 post_2 post_3 : Int32 → Prop} (h_post : ∀ x0, post_1 x0 → post_2 x0 → post_3 x0) (h1 : q_wr_X4_isSpelled_20 a_tape f_behind f_first x1 x2 post_1) (h2 : q_wr_X4_isSpelled_20 a_tape f_behind f_first x1 x2 post_2) : q_wr_X4_isSpelled_20 a_tape f_behind f_first x1 x2 post_3 := lfp_1 h1 h2 (fun A B C hsk1 _ hak1 hck1 => ⟨hak1.1, ⟨fun c2 => h_post _ (hak1.2.1 c2) (hck1.2.1 c2), fun c3 => ⟨(hak1.2.2 c3).1, ⟨(hak1.2.2 c3).2.1, (hak1.2.2 c3).2.2.1, ⟨fun c4 => fun v5 e6 => hsk1 _ (((hak1.2.2 c3).2.2.2.1 c4) v5 e6) (((hck1.2.2 c3).2.2.2.1 c4) v5 e6), fun c7 => h_post _ ((hak1.2.2 c3).2.2.2.2 c7) ((hck1.2.2 c3).2.2.2.2 c7)⟩⟩⟩⟩⟩) (fun A B hqk1 _ hbk1 => ⟨hbk1.1, ⟨fun c8 => (hbk1.2.1 c8), fun c9 => ⟨(hbk1.2.2 c9).1, ⟨(hbk1.2.2 c9).2.1, (hbk1.2.2 c9).2.2.1, ⟨fun c10 => fun v11 e12 => hqk1 _ (((hbk1.2.2 c9).2.2.2.1 c10) v11 e12), fun c13 => ((hbk1.2.2 c9).2.2.2.2 c13)⟩⟩⟩⟩⟩)
set_option maxRecDepth 40000 in
theorem cj_q_wr_X4_isSpelled_0 {a_tape : Nat → Int32} {f_behind : Int32} {f_first : Int32} {x1 : Nat} {post_1 post_2 post_3 : Int32 → Prop} (h_post : ∀ x0, post_1 x0 → post_2 x0 → post_3 x0) (h1 : q_wr_X4_isSpelled_0 a_tape f_behind f_first x1 post_1) (h2 : q_wr_X4_isSpelled_0 a_tape f_behind f_first x1 post_2) : q_wr_X4_isSpelled_0 a_tape f_behind f_first x1 post_3 := ⟨h1.1, ⟨fun c1 => cj_q_wr_X4_isSpelled_20 h_post (h1.2.1 c1) (h2.2.1 c1), fun c2 => h_post _ (h1.2.2 c2) (h2.2.2 c2)⟩⟩
set_option maxRecDepth 40000 in
theorem cj_q_wr_X4_wordOf_16 {a_tape : Nat → Int32} {f_behind : Int32} {f_kind : Int32} {f_first : Int32} {x1 : Int32} {x2 : Int32} {post_1 post_2 post_3 : Int32 → Prop} (h_post : ∀ x0, post_1 x0 → post_2 x0 → post_3 x0) (h1 : q_wr_X4_wordOf_16 a_tape f_behind f_kind f_first x1 x2 post_1) (h2 : q_wr_X4_wordOf_16 a_tape f_behind f_kind f_first x1 x2 post_2) : q_wr_X4_wordOf_16 a_tape f_behind f_kind f_first x1 x2 post_3 := lfp_1 h1 h2 (fun A B C hsk1 _ hak1 hck1 => ⟨hak1.1, ⟨fun c2 => h_post _ (hak1.2.1 c2) (hck1.2.1 c2), fun c3 => cj_q_spelling (fun _ h4 h5 => cj_q_wr_X4_isSpelled_0 (fun _ h6 h7 => ⟨fun c8 => fun v9 e10 => hsk1 _ ((h6.1 c8) v9 e10) ((h7.1 c8) v9 e10), fun c11 => h_post _ (h6.2 c11) (h7.2 c11)⟩) h4 h5) (hak1.2.2 c3) (hck1.2.2 c3)⟩⟩) (fun A B hqk1 _ hbk1 => ⟨hbk1.1, ⟨fun c12 => (hbk1.2.1 c12), fun c13 => cj_q_spelling (fun _ h14 h15 => cj_q_wr_X4_isSpelled_0 (fun _ h16 h17 => ⟨fun c18 => fun v19 e20 => hqk1 _ ((h16.1 c18) v19 e20), fun c21 => (h16.2 c21)⟩) h14 h15) (hbk1.2.2 c13) (hbk1.2.2 c13)⟩⟩)
set_option maxRecDepth 40000 in
theorem cj_q_wr_X4_wordOf_0 {a_tape : Nat → Int32} {f_behind : Int32} {f_kind : Int32} {f_first : Int32} {x1 : Int32} {post_1 post_2 post_3 : Int32 → Prop} (h_post : ∀ x0, post_1 x0 → post_2 x0 → post_3 x0) (h1 : q_wr_X4_wordOf_0 a_tape f_behind f_kind f_first x1 post_1) (h2 : q_wr_X4_wordOf_0 a_tape f_behind f_kind f_first x1 post_2) : q_wr_X4_wordOf_0 a_tape f_behind f_kind f_first x1 post_3 := ⟨fun c1 => ⟨(h1.1 c1).1, fun v2 e3 => cj_q_wr_X4_wordOf_16 h_post ((h1.1 c1).2 v2 e3) ((h2.1 c1).2 v2 e3)⟩, fun c4 => h_post _ (h1.2 c4) (h2.2 c4)⟩
set_option maxRecDepth 40000 in
theorem cj_q_wr_X4_readLine_0 {lf_huts : Int32} {lf_singers : Int32} {lf_villages : Int32} {lf_dams : Int32} {lf_echoes : Int32} {lf_deep : Int32} {lf_slide : Int32} {la_heights : Nat → Int32} {la_ladders : Nat → Int32} {la_minutes : Nat → Int32} {la_echoFrom : Nat → Int32} {la_echoTo : Nat → Int32} {la_homes : Nat → Int32} {la_talls : Nat → Int32} {la_known : Nat → Int32} {vf_deeds : Int32} {va_kinds : Nat → Int32} {va_firsts : Nat → Int32} {va_seconds : Nat → Int32} {sf_facts : Int32} {sa_heard : Nat → Int32} {sa_huts : Nat → Int32} {sa_minutes : Nat → Int32} {cf_voices : Int32} {cf_step : Int32} {ca_parts : Nat → Int32} {ca_heights : Nat → Int32} {f_fault : Int32} {f_faultPlace : Int32} {a_numbers : Nat → Int32} {a_tape : Nat → Int32} {f_length : Int32} {f_behind : Int32} {f_kind : Int32} {f_first : Int32} {f_value : Int32} {f_hutsToldOf : Int32} {f_singersToldOf : Int32} {x1 : Int32} {post_1 post_2 post_3 : (Int32) → (Int32) → (Int32) → (Int32) → (Int32) → (Int32) → (Int32) → (Nat → Int32) → (Nat → Int32) → (Nat → Int32) → (Nat → Int32) → (Nat → Int32) → (Nat → Int32) → (Nat → Int32) → (Nat → Int32) → (Int32) → (Nat → Int32) → (Nat → Int32) → (Nat → Int32) → (Int32) → (Nat → Int32) → (Nat → Int32) → (Nat → Int32) → (Int32) → (Int32) → (Nat → Int32) → (Nat → Int32) → (Int32) → (Int32) → (Nat → Int32) → (Int32) → (Int32) → (Int32) → (Int32) → (Int32) → (Int32) → Prop} (h_post : ∀ x0 x1 x2 x3 x4 x5 x6 x7 x8 x9 x10 x11 x12 x13 x14 x15 x16 x17 x18 x19 x20 x21 x22 x23 x24 x25 x26 x27 x28 x29 x30 x31 x32 x33 x34 x35, post_1 x0 x1 x2 x3 x4 x5 x6 x7 x8 x9 x10 x11 x12 x13 x14 x15 x16 x17 x18 x19 x20 x21 x22 x23 x24 x25 x26 x27 x28 x29 x30 x31 x32 x33 x34 x35 → post_2 x0 x1 x2 x3 x4 x5 x6 x7 x8 x9 x10 x11 x12 x13 x14 x15 x16 x17 x18 x19 x20 x21 x22 x23 x24 x25 x26 x27 x28 x29 x30 x31 x32 x33 x34 x35 → post_3 x0 x1 x2 x3 x4 x5 x6 x7 x8 x9 x10 x11 x12 x13 x14 x15 x16 x17 x18 x19 x20 x21 x22 x23 x24 x25 x26 x27 x28 x29 x30 x31 x32 x33 x34 x35) (h1 : q_wr_X4_readLine_0 lf_huts lf_singers lf_villages lf_dams lf_echoes lf_deep lf_slide la_heights la_ladders la_minutes la_echoFrom la_echoTo la_homes la_talls la_known vf_deeds va_kinds va_firsts va_seconds sf_facts sa_heard sa_huts sa_minutes cf_voices cf_step ca_parts ca_heights f_fault f_faultPlace a_numbers a_tape f_length f_behind f_kind f_first f_value f_hutsToldOf f_singersToldOf x1 post_1) (h2 : q_wr_X4_readLine_0 lf_huts lf_singers lf_villages lf_dams lf_echoes lf_deep lf_slide la_heights la_ladders la_minutes la_echoFrom la_echoTo la_homes la_talls la_known vf_deeds va_kinds va_firsts va_seconds sf_facts sa_heard sa_huts sa_minutes cf_voices cf_step ca_parts ca_heights f_fault f_faultPlace a_numbers a_tape f_length f_behind f_kind f_first f_value f_hutsToldOf f_singersToldOf x1 post_2) : q_wr_X4_readLine_0 lf_huts lf_singers lf_villages lf_dams lf_echoes lf_deep lf_slide la_heights la_ladders la_minutes la_echoFrom la_echoTo la_homes la_talls la_known vf_deeds va_kinds va_firsts va_seconds sf_facts sa_heard sa_huts sa_minutes cf_voices cf_step ca_parts ca_heights f_fault f_faultPlace a_numbers a_tape f_length f_behind f_kind f_first f_value f_hutsToldOf f_singersToldOf x1 post_3 := cj_q_wr_X4_wordOf_0 (fun _ h1 h2 => ⟨fun c3 => cj_q_wr_X4_isFull_0 (fun _ h4 h5 => ⟨fun c6 => cj_q_wr_X4_readLine_33 h_post (h4.1 c6) (h5.1 c6), fun c7 => cj_q_wr_X4_mark_0 (fun _ _ h8 h9 => cj_q_wr_X4_readLine_33 h_post h8 h9) (h4.2 c7) (h5.2 c7)⟩) (h1.1 c3) (h2.1 c3), fun c10 => cj_q_wr_X4_refuse_0 (fun _ _ h11 h12 => h_post _ _ _ _ _ _ _ _ _ _ _ _ _ _ _ _ _ _ _ _ _ _ _ _ _ _ _ _ _ _ _ _ _ _ _ _ h11 h12) (h1.2 c10) (h2.2 c10)⟩) h1 h2
set_option maxRecDepth 40000 in
theorem cj_q_wr_X4_tellsOfMissing_30 {lf_huts : Int32} {lf_singers : Int32} {f_hutsToldOf : Int32} {f_singersToldOf : Int32} {post_1 post_2 post_3 : Int32 → Prop} (h_post : ∀ x0, post_1 x0 → post_2 x0 → post_3 x0) (h1 : q_wr_X4_tellsOfMissing_30 lf_huts lf_singers f_hutsToldOf f_singersToldOf post_1) (h2 : q_wr_X4_tellsOfMissing_30 lf_huts lf_singers f_hutsToldOf f_singersToldOf post_2) : q_wr_X4_tellsOfMissing_30 lf_huts lf_singers f_hutsToldOf f_singersToldOf post_3 := h_post _ h1 h2
set_option maxRecDepth 40000 in
theorem cj_q_wr_X4_tellsOfMissing_0 {lf_huts : Int32} {lf_singers : Int32} {f_hutsToldOf : Int32} {f_singersToldOf : Int32} {post_1 post_2 post_3 : Int32 → Prop} (h_post : ∀ x0, post_1 x0 → post_2 x0 → post_3 x0) (h1 : q_wr_X4_tellsOfMissing_0 lf_huts lf_singers f_hutsToldOf f_singersToldOf post_1) (h2 : q_wr_X4_tellsOfMissing_0 lf_huts lf_singers f_hutsToldOf f_singersToldOf post_2) : q_wr_X4_tellsOfMissing_0 lf_huts lf_singers f_hutsToldOf f_singersToldOf post_3 := ⟨fun c1 => cj_q_wr_X4_tellsOfMissing_30 h_post (h1.1 c1) (h2.1 c1), fun c2 => ⟨fun c3 => h_post _ ((h1.2 c2).1 c3) ((h2.2 c2).1 c3), fun c4 => cj_q_wr_X4_tellsOfMissing_30 h_post ((h1.2 c2).2 c4) ((h2.2 c2).2 c4)⟩⟩
set_option maxRecDepth 40000 in
theorem cj_q_wr_X4_read_23_78 {lf_huts : Int32} {lf_singers : Int32} {lf_villages : Int32} {lf_dams : Int32} {lf_echoes : Int32} {lf_deep : Int32} {lf_slide : Int32} {la_heights : Nat → Int32} {la_ladders : Nat → Int32} {la_minutes : Nat → Int32} {la_echoFrom : Nat → Int32} {la_echoTo : Nat → Int32} {la_homes : Nat → Int32} {la_talls : Nat → Int32} {la_known : Nat → Int32} {vf_deeds : Int32} {va_kinds : Nat → Int32} {va_firsts : Nat → Int32} {va_seconds : Nat → Int32} {sf_facts : Int32} {sa_heard : Nat → Int32} {sa_huts : Nat → Int32} {sa_minutes : Nat → Int32} {cf_voices : Int32} {cf_step : Int32} {ca_parts : Nat → Int32} {ca_heights : Nat → Int32} {f_fault : Int32} {f_faultPlace : Int32} {a_numbers : Nat → Int32} {a_tape : Nat → Int32} {f_length : Int32} {f_behind : Int32} {f_kind : Int32} {f_first : Int32} {f_value : Int32} {f_hutsToldOf : Int32} {f_singersToldOf : Int32} {z_from : Nat → Int32} {x3 : Int32} {post_1 post_2 post_3 : (Int32) → (Int32) → (Int32) → (Int32) → (Int32) → (Int32) → (Int32) → (Nat → Int32) → (Nat → Int32) → (Nat → Int32) → (Nat → Int32) → (Nat → Int32) → (Nat → Int32) → (Nat → Int32) → (Nat → Int32) → (Int32) → (Nat → Int32) → (Nat → Int32) → (Nat → Int32) → (Int32) → (Nat → Int32) → (Nat → Int32) → (Nat → Int32) → (Int32) → (Int32) → (Nat → Int32) → (Nat → Int32) → (Int32) → (Int32) → (Nat → Int32) → (Nat → Int32) → (Int32) → (Int32) → (Int32) → (Int32) → (Int32) → (Int32) → (Int32) → Prop} (h_post : ∀ x0 x1 x2 x3 x4 x5 x6 x7 x8 x9 x10 x11 x12 x13 x14 x15 x16 x17 x18 x19 x20 x21 x22 x23 x24 x25 x26 x27 x28 x29 x30 x31 x32 x33 x34 x35 x36 x37, post_1 x0 x1 x2 x3 x4 x5 x6 x7 x8 x9 x10 x11 x12 x13 x14 x15 x16 x17 x18 x19 x20 x21 x22 x23 x24 x25 x26 x27 x28 x29 x30 x31 x32 x33 x34 x35 x36 x37 → post_2 x0 x1 x2 x3 x4 x5 x6 x7 x8 x9 x10 x11 x12 x13 x14 x15 x16 x17 x18 x19 x20 x21 x22 x23 x24 x25 x26 x27 x28 x29 x30 x31 x32 x33 x34 x35 x36 x37 → post_3 x0 x1 x2 x3 x4 x5 x6 x7 x8 x9 x10 x11 x12 x13 x14 x15 x16 x17 x18 x19 x20 x21 x22 x23 x24 x25 x26 x27 x28 x29 x30 x31 x32 x33 x34 x35 x36 x37) (h1 : q_wr_X4_read_23_78 lf_huts lf_singers lf_villages lf_dams lf_echoes lf_deep lf_slide la_heights la_ladders la_minutes la_echoFrom la_echoTo la_homes la_talls la_known vf_deeds va_kinds va_firsts va_seconds sf_facts sa_heard sa_huts sa_minutes cf_voices cf_step ca_parts ca_heights f_fault f_faultPlace a_numbers a_tape f_length f_behind f_kind f_first f_value f_hutsToldOf f_singersToldOf z_from x3 post_1) (h2 : q_wr_X4_read_23_78 lf_huts lf_singers lf_villages lf_dams lf_echoes lf_deep lf_slide la_heights la_ladders la_minutes la_echoFrom la_echoTo la_homes la_talls la_known vf_deeds va_kinds va_firsts va_seconds sf_facts sa_heard sa_huts sa_minutes cf_voices cf_step ca_parts ca_heights f_fault f_faultPlace a_numbers a_tape f_length f_behind f_kind f_first f_value f_hutsToldOf f_singersToldOf z_from x3 post_2) : q_wr_X4_read_23_78 lf_huts lf_singers lf_villages lf_dams lf_echoes lf_deep lf_slide la_heights la_ladders la_minutes la_echoFrom la_echoTo la_homes la_talls la_known vf_deeds va_kinds va_firsts va_seconds sf_facts sa_heard sa_huts sa_minutes cf_voices cf_step ca_parts ca_heights f_fault f_faultPlace a_numbers a_tape f_length f_behind f_kind f_first f_value f_hutsToldOf f_singersToldOf z_from x3 post_3 := ⟨fun c1 => h_post _ _ _ _ _ _ _ _ _ _ _ _ _ _ _ _ _ _ _ _ _ _ _ _ _ _ _ _ _ _ _ _ _ _ _ _ _ _ (h1.1 c1) (h2.1 c1), fun c2 => ⟨fun c3 => h_post _ _ _ _ _ _ _ _ _ _ _ _ _ _ _ _ _ _ _ _ _ _ _ _ _ _ _ _ _ _ _ _ _ _ _ _ _ _ ((h1.2 c2).1 c3) ((h2.2 c2).1 c3), fun c4 => cj_q_wr_X4_tellsOfMissing_0 (fun _ h5 h6 => ⟨fun c7 => h_post _ _ _ _ _ _ _ _ _ _ _ _ _ _ _ _ _ _ _ _ _ _ _ _ _ _ _ _ _ _ _ _ _ _ _ _ _ _ (h5.1 c7) (h6.1 c7), fun c8 => cj_q_wr_X4_mark_0 (fun _ _ h9 h10 => h_post _ _ _ _ _ _ _ _ _ _ _ _ _ _ _ _ _ _ _ _ _ _ _ _ _ _ _ _ _ _ _ _ _ _ _ _ _ _ h9 h10) (h5.2 c8) (h6.2 c8)⟩) ((h1.2 c2).2 c4) ((h2.2 c2).2 c4)⟩⟩
set_option maxRecDepth 40000 in
theorem cj_q_wr_X4_read_23_43 {lf_huts : Int32} {lf_singers : Int32} {lf_villages : Int32} {lf_dams : Int32} {lf_echoes : Int32} {lf_deep : Int32} {lf_slide : Int32} {la_heights : Nat → Int32} {la_ladders : Nat → Int32} {la_minutes : Nat → Int32} {la_echoFrom : Nat → Int32} {la_echoTo : Nat → Int32} {la_homes : Nat → Int32} {la_talls : Nat → Int32} {la_known : Nat → Int32} {vf_deeds : Int32} {va_kinds : Nat → Int32} {va_firsts : Nat → Int32} {va_seconds : Nat → Int32} {sf_facts : Int32} {sa_heard : Nat → Int32} {sa_huts : Nat → Int32} {sa_minutes : Nat → Int32} {cf_voices : Int32} {cf_step : Int32} {ca_parts : Nat → Int32} {ca_heights : Nat → Int32} {f_fault : Int32} {f_faultPlace : Int32} {a_numbers : Nat → Int32} {a_tape : Nat → Int32} {f_length : Int32} {f_behind : Int32} {f_kind : Int32} {f_first : Int32} {f_value : Int32} {f_hutsToldOf : Int32} {f_singersToldOf : Int32} {z_from : Nat → Int32} {x3 : Int32} {x4 : Int32} {post_1 post_2 post_3 : (Int32) → (Int32) → (Int32) → (Int32) → (Int32) → (Int32) → (Int32) → (Nat → Int32) → (Nat → Int32) → (Nat → Int32) → (Nat → Int32) → (Nat → Int32) → (Nat → Int32) → (Nat → Int32) → (Nat → Int32) → (Int32) → (Nat → Int32) → (Nat → Int32) → (Nat → Int32) → (Int32) → (Nat → Int32) → (Nat → Int32) → (Nat → Int32) → (Int32) → (Int32) → (Nat → Int32) → (Nat → Int32) → (Int32) → (Int32) → (Nat → Int32) → (Nat → Int32) → (Int32) → (Int32) → (Int32) → (Int32) → (Int32) → (Int32) → (Int32) → Prop} (h_post : ∀ x0 x1 x2 x3 x4 x5 x6 x7 x8 x9 x10 x11 x12 x13 x14 x15 x16 x17 x18 x19 x20 x21 x22 x23 x24 x25 x26 x27 x28 x29 x30 x31 x32 x33 x34 x35 x36 x37, post_1 x0 x1 x2 x3 x4 x5 x6 x7 x8 x9 x10 x11 x12 x13 x14 x15 x16 x17 x18 x19 x20 x21 x22 x23 x24 x25 x26 x27 x28 x29 x30 x31 x32 x33 x34 x35 x36 x37 → post_2 x0 x1 x2 x3 x4 x5 x6 x7 x8 x9 x10 x11 x12 x13 x14 x15 x16 x17 x18 x19 x20 x21 x22 x23 x24 x25 x26 x27 x28 x29 x30 x31 x32 x33 x34 x35 x36 x37 → post_3 x0 x1 x2 x3 x4 x5 x6 x7 x8 x9 x10 x11 x12 x13 x14 x15 x16 x17 x18 x19 x20 x21 x22 x23 x24 x25 x26 x27 x28 x29 x30 x31 x32 x33 x34 x35 x36 x37) (h1 : q_wr_X4_read_23_43 lf_huts lf_singers lf_villages lf_dams lf_echoes lf_deep lf_slide la_heights la_ladders la_minutes la_echoFrom la_echoTo la_homes la_talls la_known vf_deeds va_kinds va_firsts va_seconds sf_facts sa_heard sa_huts sa_minutes cf_voices cf_step ca_parts ca_heights f_fault f_faultPlace a_numbers a_tape f_length f_behind f_kind f_first f_value f_hutsToldOf f_singersToldOf z_from x3 x4 post_1) (h2 : q_wr_X4_read_23_43 lf_huts lf_singers lf_villages lf_dams lf_echoes lf_deep lf_slide la_heights la_ladders la_minutes la_echoFrom la_echoTo la_homes la_talls la_known vf_deeds va_kinds va_firsts va_seconds sf_facts sa_heard sa_huts sa_minutes cf_voices cf_step ca_parts ca_heights f_fault f_faultPlace a_numbers a_tape f_length f_behind f_kind f_first f_value f_hutsToldOf f_singersToldOf z_from x3 x4 post_2) : q_wr_X4_read_23_43 lf_huts lf_singers lf_villages lf_dams lf_echoes lf_deep lf_slide la_heights la_ladders la_minutes la_echoFrom la_echoTo la_homes la_talls la_known vf_deeds va_kinds va_firsts va_seconds sf_facts sa_heard sa_huts sa_minutes cf_voices cf_step ca_parts ca_heights f_fault f_faultPlace a_numbers a_tape f_length f_behind f_kind f_first f_value f_hutsToldOf f_singersToldOf z_from x3 x4 post_3 := lfp_37 h1 h2 (fun A B C hsk1 _ _ _ _ _ _ _ _ _ _ _ _ _ _ _ _ _ _ _ _ _ _ _ _ _ _ _ _ _ _ _ _ _ _ _ _ _ hak1 hck1 => ⟨fun c2 => cj_q_wr_X4_read_23_78 h_post (hak1.1 c2) (hck1.1 c2), fun c3 => ⟨fun c4 => cj_q_wr_X4_read_23_78 h_post ((hak1.2 c3).1 c4) ((hck1.2 c3).1 c4), fun c5 => ⟨fun c6 => cj_q_wr_X4_read_23_78 h_post (((hak1.2 c3).2 c5).1 c6) (((hck1.2 c3).2 c5).1 c6), fun c7 => cj_q_wr_X4_readLine_0 (fun _ _ _ _ _ _ _ _ _ _ _ _ _ _ _ _ _ _ _ _ _ _ _ _ _ _ _ _ _ _ _ _ _ _ _ _ h8 h9 => fun v10 e11 => hsk1 _ _ _ _ _ _ _ _ _ _ _ _ _ _ _ _ _ _ _ _ _ _ _ _ _ _ _ _ _ _ _ _ _ _ _ _ _ (h8 v10 e11) (h9 v10 e11)) (((hak1.2 c3).2 c5).2 c7) (((hck1.2 c3).2 c5).2 c7)⟩⟩⟩) (fun A B hqk1 _ _ _ _ _ _ _ _ _ _ _ _ _ _ _ _ _ _ _ _ _ _ _ _ _ _ _ _ _ _ _ _ _ _ _ _ _ hbk1 => ⟨fun c12 => cj_q_wr_X4_read_23_78 (fun _ _ _ _ _ _ _ _ _ _ _ _ _ _ _ _ _ _ _ _ _ _ _ _ _ _ _ _ _ _ _ _ _ _ _ _ _ _ h _ => h) (hbk1.1 c12) (hbk1.1 c12), fun c13 => ⟨fun c14 => cj_q_wr_X4_read_23_78 (fun _ _ _ _ _ _ _ _ _ _ _ _ _ _ _ _ _ _ _ _ _ _ _ _ _ _ _ _ _ _ _ _ _ _ _ _ _ _ h _ => h) ((hbk1.2 c13).1 c14) ((hbk1.2 c13).1 c14), fun c15 => ⟨fun c16 => cj_q_wr_X4_read_23_78 (fun _ _ _ _ _ _ _ _ _ _ _ _ _ _ _ _ _ _ _ _ _ _ _ _ _ _ _ _ _ _ _ _ _ _ _ _ _ _ h _ => h) (((hbk1.2 c13).2 c15).1 c16) (((hbk1.2 c13).2 c15).1 c16), fun c17 => cj_q_wr_X4_readLine_0 (fun _ _ _ _ _ _ _ _ _ _ _ _ _ _ _ _ _ _ _ _ _ _ _ _ _ _ _ _ _ _ _ _ _ _ _ _ h18 h19 => fun v20 e21 => hqk1 _ _ _ _ _ _ _ _ _ _ _ _ _ _ _ _ _ _ _ _ _ _ _ _ _ _ _ _ _ _ _ _ _ _ _ _ _ (h18 v20 e21)) (((hbk1.2 c13).2 c15).2 c17) (((hbk1.2 c13).2 c15).2 c17)⟩⟩⟩)
set_option maxRecDepth 40000 in
theorem cj_q_wr_X4_read_23_0 {lf_huts : Int32} {lf_singers : Int32} {lf_villages : Int32} {lf_dams : Int32} {lf_echoes : Int32} {lf_deep : Int32} {lf_slide : Int32} {la_heights : Nat → Int32} {la_ladders : Nat → Int32} {la_minutes : Nat → Int32} {la_echoFrom : Nat → Int32} {la_echoTo : Nat → Int32} {la_homes : Nat → Int32} {la_talls : Nat → Int32} {la_known : Nat → Int32} {vf_deeds : Int32} {va_kinds : Nat → Int32} {va_firsts : Nat → Int32} {va_seconds : Nat → Int32} {sf_facts : Int32} {sa_heard : Nat → Int32} {sa_huts : Nat → Int32} {sa_minutes : Nat → Int32} {cf_voices : Int32} {cf_step : Int32} {ca_parts : Nat → Int32} {ca_heights : Nat → Int32} {f_fault : Int32} {f_faultPlace : Int32} {a_numbers : Nat → Int32} {a_tape : Nat → Int32} {f_length : Int32} {f_behind : Int32} {f_kind : Int32} {f_first : Int32} {f_value : Int32} {f_hutsToldOf : Int32} {f_singersToldOf : Int32} {z_from : Nat → Int32} {x2 : Int32} {x3 : Int32} {post_1 post_2 post_3 : (Int32) → (Int32) → (Int32) → (Int32) → (Int32) → (Int32) → (Int32) → (Nat → Int32) → (Nat → Int32) → (Nat → Int32) → (Nat → Int32) → (Nat → Int32) → (Nat → Int32) → (Nat → Int32) → (Nat → Int32) → (Int32) → (Nat → Int32) → (Nat → Int32) → (Nat → Int32) → (Int32) → (Nat → Int32) → (Nat → Int32) → (Nat → Int32) → (Int32) → (Int32) → (Nat → Int32) → (Nat → Int32) → (Int32) → (Int32) → (Nat → Int32) → (Nat → Int32) → (Int32) → (Int32) → (Int32) → (Int32) → (Int32) → (Int32) → (Int32) → Prop} (h_post : ∀ x0 x1 x2 x3 x4 x5 x6 x7 x8 x9 x10 x11 x12 x13 x14 x15 x16 x17 x18 x19 x20 x21 x22 x23 x24 x25 x26 x27 x28 x29 x30 x31 x32 x33 x34 x35 x36 x37, post_1 x0 x1 x2 x3 x4 x5 x6 x7 x8 x9 x10 x11 x12 x13 x14 x15 x16 x17 x18 x19 x20 x21 x22 x23 x24 x25 x26 x27 x28 x29 x30 x31 x32 x33 x34 x35 x36 x37 → post_2 x0 x1 x2 x3 x4 x5 x6 x7 x8 x9 x10 x11 x12 x13 x14 x15 x16 x17 x18 x19 x20 x21 x22 x23 x24 x25 x26 x27 x28 x29 x30 x31 x32 x33 x34 x35 x36 x37 → post_3 x0 x1 x2 x3 x4 x5 x6 x7 x8 x9 x10 x11 x12 x13 x14 x15 x16 x17 x18 x19 x20 x21 x22 x23 x24 x25 x26 x27 x28 x29 x30 x31 x32 x33 x34 x35 x36 x37) (h1 : q_wr_X4_read_23_0 lf_huts lf_singers lf_villages lf_dams lf_echoes lf_deep lf_slide la_heights la_ladders la_minutes la_echoFrom la_echoTo la_homes la_talls la_known vf_deeds va_kinds va_firsts va_seconds sf_facts sa_heard sa_huts sa_minutes cf_voices cf_step ca_parts ca_heights f_fault f_faultPlace a_numbers a_tape f_length f_behind f_kind f_first f_value f_hutsToldOf f_singersToldOf z_from x2 x3 post_1) (h2 : q_wr_X4_read_23_0 lf_huts lf_singers lf_villages lf_dams lf_echoes lf_deep lf_slide la_heights la_ladders la_minutes la_echoFrom la_echoTo la_homes la_talls la_known vf_deeds va_kinds va_firsts va_seconds sf_facts sa_heard sa_huts sa_minutes cf_voices cf_step ca_parts ca_heights f_fault f_faultPlace a_numbers a_tape f_length f_behind f_kind f_first f_value f_hutsToldOf f_singersToldOf z_from x2 x3 post_2) : q_wr_X4_read_23_0 lf_huts lf_singers lf_villages lf_dams lf_echoes lf_deep lf_slide la_heights la_ladders la_minutes la_echoFrom la_echoTo la_homes la_talls la_known vf_deeds va_kinds va_firsts va_seconds sf_facts sa_heard sa_huts sa_minutes cf_voices cf_step ca_parts ca_heights f_fault f_faultPlace a_numbers a_tape f_length f_behind f_kind f_first f_value f_hutsToldOf f_singersToldOf z_from x2 x3 post_3 := ⟨h1.1, ⟨h1.2.1, ⟨h1.2.2.1, ⟨h1.2.2.2.1, fun v1 e2 => cj_q_wr_X4_clearDraft_0 (fun _ _ _ _ _ _ _ _ _ _ _ _ _ _ _ _ h3 h4 => cj_q_wr_X4_advance_0 (fun _ _ _ _ h5 h6 => cj_q_wr_X4_read_23_43 h_post h5 h6) h3 h4) (h1.2.2.2.2 v1 e2) (h2.2.2.2.2 v1 e2)⟩⟩⟩⟩
set_option maxRecDepth 40000 in
theorem cj_q_wcc_X0_copyFrom_3_0 {f_voices : Int32} {f_step : Int32} {a_parts : Nat → Int32} {a_heights : Nat → Int32} {of_voices : Int32} {of_step : Int32} {oa_parts : Nat → Int32} {oa_heights : Nat → Int32} {post_1 post_2 post_3 : (Int32) → (Int32) → (Nat → Int32) → (Nat → Int32) → Prop} (h_post : ∀ x0 x1 x2 x3, post_1 x0 x1 x2 x3 → post_2 x0 x1 x2 x3 → post_3 x0 x1 x2 x3) (h1 : q_wcc_X0_copyFrom_3_0 f_voices f_step a_parts a_heights of_voices of_step oa_parts oa_heights post_1) (h2 : q_wcc_X0_copyFrom_3_0 f_voices f_step a_parts a_heights of_voices of_step oa_parts oa_heights post_2) : q_wcc_X0_copyFrom_3_0 f_voices f_step a_parts a_heights of_voices of_step oa_parts oa_heights post_3 := ⟨h1.1, ⟨h1.2.1, ⟨h1.2.2.1, fun v1 e2 => ⟨(h1.2.2.2 v1 e2).1, ⟨(h1.2.2.2 v1 e2).2.1, ⟨(h1.2.2.2 v1 e2).2.2.1, fun v3 e4 => h_post _ _ _ _ ((h1.2.2.2 v1 e2).2.2.2 v3 e4) ((h2.2.2.2 v1 e2).2.2.2 v3 e4)⟩⟩⟩⟩⟩⟩
set_option maxRecDepth 40000 in
theorem cj_q_wll_X2_copyFrom_9_0 {f_huts : Int32} {f_singers : Int32} {f_villages : Int32} {f_dams : Int32} {f_echoes : Int32} {f_deep : Int32} {f_slide : Int32} {a_heights : Nat → Int32} {a_ladders : Nat → Int32} {a_minutes : Nat → Int32} {a_echoFrom : Nat → Int32} {a_echoTo : Nat → Int32} {a_homes : Nat → Int32} {a_talls : Nat → Int32} {a_known : Nat → Int32} {of_huts : Int32} {of_singers : Int32} {of_villages : Int32} {of_dams : Int32} {of_echoes : Int32} {of_deep : Int32} {of_slide : Int32} {oa_heights : Nat → Int32} {oa_ladders : Nat → Int32} {oa_minutes : Nat → Int32} {oa_echoFrom : Nat → Int32} {oa_echoTo : Nat → Int32} {oa_homes : Nat → Int32} {oa_talls : Nat → Int32} {oa_known : Nat → Int32} {post_1 post_2 post_3 : (Int32) → (Int32) → (Int32) → (Int32) → (Int32) → (Int32) → (Int32) → (Nat → Int32) → (Nat → Int32) → (Nat → Int32) → (Nat → Int32) → (Nat → Int32) → (Nat → Int32) → (Nat → Int32) → (Nat → Int32) → Prop} (h_post : ∀ x0 x1 x2 x3 x4 x5 x6 x7 x8 x9 x10 x11 x12 x13 x14, post_1 x0 x1 x2 x3 x4 x5 x6 x7 x8 x9 x10 x11 x12 x13 x14 → post_2 x0 x1 x2 x3 x4 x5 x6 x7 x8 x9 x10 x11 x12 x13 x14 → post_3 x0 x1 x2 x3 x4 x5 x6 x7 x8 x9 x10 x11 x12 x13 x14) (h1 : q_wll_X2_copyFrom_9_0 f_huts f_singers f_villages f_dams f_echoes f_deep f_slide a_heights a_ladders a_minutes a_echoFrom a_echoTo a_homes a_talls a_known of_huts of_singers of_villages of_dams of_echoes of_deep of_slide oa_heights oa_ladders oa_minutes oa_echoFrom oa_echoTo oa_homes oa_talls oa_known post_1) (h2 : q_wll_X2_copyFrom_9_0 f_huts f_singers f_villages f_dams f_echoes f_deep f_slide a_heights a_ladders a_minutes a_echoFrom a_echoTo a_homes a_talls a_known of_huts of_singers of_villages of_dams of_echoes of_deep of_slide oa_heights oa_ladders oa_minutes oa_echoFrom oa_echoTo oa_homes oa_talls oa_known post_2) : q_wll_X2_copyFrom_9_0 f_huts f_singers f_villages f_dams f_echoes f_deep f_slide a_heights a_ladders a_minutes a_echoFrom a_echoTo a_homes a_talls a_known of_huts of_singers of_villages of_dams of_echoes of_deep of_slide oa_heights oa_ladders oa_minutes oa_echoFrom oa_echoTo oa_homes oa_talls oa_known post_3 := fun v1 e2 => fun v3 e4 => fun v5 e6 => fun v7 e8 => fun v9 e10 => fun v11 e12 => fun v13 e14 => fun v15 e16 => h_post _ _ _ _ _ _ _ _ _ _ _ _ _ _ _ ((((((((h1 v1 e2) v3 e4) v5 e6) v7 e8) v9 e10) v11 e12) v13 e14) v15 e16) ((((((((h2 v1 e2) v3 e4) v5 e6) v7 e8) v9 e10) v11 e12) v13 e14) v15 e16)
set_option maxRecDepth 40000 in
theorem cj_q_wss_X6_copyFrom_4_0 {f_facts : Int32} {a_heard : Nat → Int32} {a_huts : Nat → Int32} {a_minutes : Nat → Int32} {of_facts : Int32} {oa_heard : Nat → Int32} {oa_huts : Nat → Int32} {oa_minutes : Nat → Int32} {post_1 post_2 post_3 : (Int32) → (Nat → Int32) → (Nat → Int32) → (Nat → Int32) → Prop} (h_post : ∀ x0 x1 x2 x3, post_1 x0 x1 x2 x3 → post_2 x0 x1 x2 x3 → post_3 x0 x1 x2 x3) (h1 : q_wss_X6_copyFrom_4_0 f_facts a_heard a_huts a_minutes of_facts oa_heard oa_huts oa_minutes post_1) (h2 : q_wss_X6_copyFrom_4_0 f_facts a_heard a_huts a_minutes of_facts oa_heard oa_huts oa_minutes post_2) : q_wss_X6_copyFrom_4_0 f_facts a_heard a_huts a_minutes of_facts oa_heard oa_huts oa_minutes post_3 := ⟨h1.1, ⟨h1.2.1, ⟨h1.2.2.1, fun v1 e2 => ⟨(h1.2.2.2 v1 e2).1, ⟨(h1.2.2.2 v1 e2).2.1, ⟨(h1.2.2.2 v1 e2).2.2.1, fun v3 e4 => ⟨((h1.2.2.2 v1 e2).2.2.2 v3 e4).1, ⟨((h1.2.2.2 v1 e2).2.2.2 v3 e4).2.1, ⟨((h1.2.2.2 v1 e2).2.2.2 v3 e4).2.2.1, fun v5 e6 => h_post _ _ _ _ (((h1.2.2.2 v1 e2).2.2.2 v3 e4).2.2.2 v5 e6) (((h2.2.2.2 v1 e2).2.2.2 v3 e4).2.2.2 v5 e6)⟩⟩⟩⟩⟩⟩⟩⟩⟩
set_option maxRecDepth 40000 in
theorem cj_q_wvv_X1_copyFrom_4_0 {f_deeds : Int32} {a_kinds : Nat → Int32} {a_firsts : Nat → Int32} {a_seconds : Nat → Int32} {of_deeds : Int32} {oa_kinds : Nat → Int32} {oa_firsts : Nat → Int32} {oa_seconds : Nat → Int32} {post_1 post_2 post_3 : (Int32) → (Nat → Int32) → (Nat → Int32) → (Nat → Int32) → Prop} (h_post : ∀ x0 x1 x2 x3, post_1 x0 x1 x2 x3 → post_2 x0 x1 x2 x3 → post_3 x0 x1 x2 x3) (h1 : q_wvv_X1_copyFrom_4_0 f_deeds a_kinds a_firsts a_seconds of_deeds oa_kinds oa_firsts oa_seconds post_1) (h2 : q_wvv_X1_copyFrom_4_0 f_deeds a_kinds a_firsts a_seconds of_deeds oa_kinds oa_firsts oa_seconds post_2) : q_wvv_X1_copyFrom_4_0 f_deeds a_kinds a_firsts a_seconds of_deeds oa_kinds oa_firsts oa_seconds post_3 := ⟨h1.1, ⟨h1.2.1, ⟨h1.2.2.1, fun v1 e2 => ⟨(h1.2.2.2 v1 e2).1, ⟨(h1.2.2.2 v1 e2).2.1, ⟨(h1.2.2.2 v1 e2).2.2.1, fun v3 e4 => ⟨((h1.2.2.2 v1 e2).2.2.2 v3 e4).1, ⟨((h1.2.2.2 v1 e2).2.2.2 v3 e4).2.1, ⟨((h1.2.2.2 v1 e2).2.2.2 v3 e4).2.2.1, fun v5 e6 => h_post _ _ _ _ (((h1.2.2.2 v1 e2).2.2.2 v3 e4).2.2.2 v5 e6) (((h2.2.2.2 v1 e2).2.2.2 v3 e4).2.2.2 v5 e6)⟩⟩⟩⟩⟩⟩⟩⟩⟩
set_option maxRecDepth 40000 in
theorem cj_q_wx_X10_keep_99 {ta_counts : Nat → Int32} {tl0f_huts : Int32} {tl0f_singers : Int32} {tl0f_villages : Int32} {tl0f_dams : Int32} {tl0f_echoes : Int32} {tl0f_deep : Int32} {tl0f_slide : Int32} {tl0a_heights : Nat → Int32} {tl0a_ladders : Nat → Int32} {tl0a_minutes : Nat → Int32} {tl0a_echoFrom : Nat → Int32} {tl0a_echoTo : Nat → Int32} {tl0a_homes : Nat → Int32} {tl0a_talls : Nat → Int32} {tl0a_known : Nat → Int32} {tl1f_huts : Int32} {tl1f_singers : Int32} {tl1f_villages : Int32} {tl1f_dams : Int32} {tl1f_echoes : Int32} {tl1f_deep : Int32} {tl1f_slide : Int32} {tl1a_heights : Nat → Int32} {tl1a_ladders : Nat → Int32} {tl1a_minutes : Nat → Int32} {tl1a_echoFrom : Nat → Int32} {tl1a_echoTo : Nat → Int32} {tl1a_homes : Nat → Int32} {tl1a_talls : Nat → Int32} {tl1a_known : Nat → Int32} {tv0f_deeds : Int32} {tv0a_kinds : Nat → Int32} {tv0a_firsts : Nat → Int32} {tv0a_seconds : Nat → Int32} {tv1f_deeds : Int32} {tv1a_kinds : Nat → Int32} {tv1a_firsts : Nat → Int32} {tv1a_seconds : Nat → Int32} {ts0f_facts : Int32} {ts0a_heard : Nat → Int32} {ts0a_huts : Nat → Int32} {ts0a_minutes : Nat → Int32} {ts1f_facts : Int32} {ts1a_heard : Nat → Int32} {ts1a_huts : Nat → Int32} {ts1a_minutes : Nat → Int32} {tc0f_voices : Int32} {tc0f_step : Int32} {tc0a_parts : Nat → Int32} {tc0a_heights : Nat → Int32} {tc1f_voices : Int32} {tc1f_step : Int32} {tc1a_parts : Nat → Int32} {tc1a_heights : Nat → Int32} {rlf_huts : Int32} {rlf_singers : Int32} {rlf_villages : Int32} {rlf_dams : Int32} {rlf_echoes : Int32} {rlf_deep : Int32} {rlf_slide : Int32} {rla_heights : Nat → Int32} {rla_ladders : Nat → Int32} {rla_minutes : Nat → Int32} {rla_echoFrom : Nat → Int32} {rla_echoTo : Nat → Int32} {rla_homes : Nat → Int32} {rla_talls : Nat → Int32} {rla_known : Nat → Int32} {rvf_deeds : Int32} {rva_kinds : Nat → Int32} {rva_firsts : Nat → Int32} {rva_seconds : Nat → Int32} {rsf_facts : Int32} {rsa_heard : Nat → Int32} {rsa_huts : Nat → Int32} {rsa_minutes : Nat → Int32} {rcf_voices : Int32} {rcf_step : Int32} {rca_parts : Nat → Int32} {rca_heights : Nat → Int32} {x1 : Int32} {x2 : Int32} {post_1 post_2 post_3 : (Nat → Int32) → (Int32) → (Int32) → (Int32) → (Int32) → (Int32) → (Int32) → (Int32) → (Nat → Int32) → (Nat → Int32) → (Nat → Int32) → (Nat → Int32) → (Nat → Int32) → (Nat → Int32) → (Nat → Int32) → (Nat → Int32) → (Int32) → (Int32) → (Int32) → (Int32) → (Int32) → (Int32) → (Int32) → (Nat → Int32) → (Nat → Int32) → (Nat → Int32) → (Nat → Int32) → (Nat → Int32) → (Nat → Int32) → (Nat → Int32) → (Nat → Int32) → (Int32) → (Nat → Int32) → (Nat → Int32) → (Nat → Int32) → (Int32) → (Nat → Int32) → (Nat → Int32) → (Nat → Int32) → (Int32) → (Nat → Int32) → (Nat → Int32) → (Nat → Int32) → (Int32) → (Nat → Int32) → (Nat → Int32) → (Nat → Int32) → (Int32) → (Int32) → (Nat → Int32) → (Nat → Int32) → (Int32) → (Int32) → (Nat → Int32) → (Nat → Int32) → Prop} (h_post : ∀ x0 x1 x2 x3 x4 x5 x6 x7 x8 x9 x10 x11 x12 x13 x14 x15 x16 x17 x18 x19 x20 x21 x22 x23 x24 x25 x26 x27 x28 x29 x30 x31 x32 x33 x34 x35 x36 x37 x38 x39 x40 x41 x42 x43 x44 x45 x46 x47 x48 x49 x50 x51 x52 x53 x54, post_1 x0 x1 x2 x3 x4 x5 x6 x7 x8 x9 x10 x11 x12 x13 x14 x15 x16 x17 x18 x19 x20 x21 x22 x23 x24 x25 x26 x27 x28 x29 x30 x31 x32 x33 x34 x35 x36 x37 x38 x39 x40 x41 x42 x43 x44 x45 x46 x47 x48 x49 x50 x51 x52 x53 x54 → post_2 x0 x1 x2 x3 x4 x5 x6 x7 x8 x9 x10 x11 x12 x13 x14 x15 x16 x17 x18 x19 x20 x21 x22 x23 x24 x25 x26 x27 x28 x29 x30 x31 x32 x33 x34 x35 x36 x37 x38 x39 x40 x41 x42 x43 x44 x45 x46 x47 x48 x49 x50 x51 x52 x53 x54 → post_3 x0 x1 x2 x3 x4 x5 x6 x7 x8 x9 x10 x11 x12 x13 x14 x15 x16 x17 x18 x19 x20 x21 x22 x23 x24 x25 x26 x27 x28 x29 x30 x31 x32 x33 x34 x35 x36 x37 x38 x39 x40 x41 x42 x43 x44 x45 x46 x47 x48 x49 x50 x51 x52 x53 x54) (h1 : q_wx_X10_keep_99 ta_counts tl0f_huts tl0f_singers tl0f_villages tl0f_dams tl0f_echoes tl0f_deep tl0f_slide tl0a_heights tl0a_ladders tl0a_minutes tl0a_echoFrom tl0a_echoTo tl0a_homes tl0a_talls tl0a_known tl1f_huts tl1f_singers tl1f_villages tl1f_dams tl1f_echoes tl1f_deep tl1f_slide tl1a_heights tl1a_ladders tl1a_minutes tl1a_echoFrom tl1a_echoTo tl1a_homes tl1a_talls tl1a_known tv0f_deeds tv0a_kinds tv0a_firsts tv0a_seconds tv1f_deeds tv1a_kinds tv1a_firsts tv1a_seconds ts0f_facts ts0a_heard ts0a_huts ts0a_minutes ts1f_facts ts1a_heard ts1a_huts ts1a_minutes tc0f_voices tc0f_step tc0a_parts tc0a_heights tc1f_voices tc1f_step tc1a_parts tc1a_heights rlf_huts rlf_singers rlf_villages rlf_dams rlf_echoes rlf_deep rlf_slide rla_heights rla_ladders rla_minutes rla_echoFrom rla_echoTo rla_homes rla_talls rla_known rvf_deeds rva_kinds rva_firsts rva_seconds rsf_facts rsa_heard rsa_huts rsa_minutes rcf_voices rcf_step rca_parts rca_heights x1 x2 post_1) (h2 : q_wx_X10_keep_99 ta_counts tl0f_huts tl0f_singers tl0f_villages tl0f_dams tl0f_echoes tl0f_deep tl0f_slide tl0a_heights tl0a_ladders tl0a_minutes tl0a_echoFrom tl0a_echoTo tl0a_homes tl0a_talls tl0a_known tl1f_huts tl1f_singers tl1f_villages tl1f_dams tl1f_echoes tl1f_deep tl1f_slide tl1a_heights tl1a_ladders tl1a_minutes tl1a_echoFrom tl1a_echoTo tl1a_homes tl1a_talls tl1a_known tv0f_deeds tv0a_kinds tv0a_firsts tv0a_seconds tv1f_deeds tv1a_kinds tv1a_firsts tv1a_seconds ts0f_facts ts0a_heard ts0a_huts ts0a_minutes ts1f_facts ts1a_heard ts1a_huts ts1a_minutes tc0f_voices tc0f_step tc0a_parts tc0a_heights tc1f_voices tc1f_step tc1a_parts tc1a_heights rlf_huts rlf_singers rlf_villages rlf_dams rlf_echoes rlf_deep rlf_slide rla_heights rla_ladders rla_minutes rla_echoFrom rla_echoTo rla_homes rla_talls rla_known rvf_deeds rva_kinds rva_firsts rva_seconds rsf_facts rsa_heard rsa_huts rsa_minutes rcf_voices rcf_step rca_parts rca_heights x1 x2 post_2) : q_wx_X10_keep_99 ta_counts tl0f_huts tl0f_singers tl0f_villages tl0f_dams tl0f_echoes tl0f_deep tl0f_slide tl0a_heights tl0a_ladders tl0a_minutes tl0a_echoFrom tl0a_echoTo tl0a_homes tl0a_talls tl0a_known tl1f_huts tl1f_singers tl1f_villages tl1f_dams tl1f_echoes tl1f_deep tl1f_slide tl1a_heights tl1a_ladders tl1a_minutes tl1a_echoFrom tl1a_echoTo tl1a_homes tl1a_talls tl1a_known tv0f_deeds tv0a_kinds tv0a_firsts tv0a_seconds tv1f_deeds tv1a_kinds tv1a_firsts tv1a_seconds ts0f_facts ts0a_heard ts0a_huts ts0a_minutes ts1f_facts ts1a_heard ts1a_huts ts1a_minutes tc0f_voices tc0f_step tc0a_parts tc0a_heights tc1f_voices tc1f_step tc1a_parts tc1a_heights rlf_huts rlf_singers rlf_villages rlf_dams rlf_echoes rlf_deep rlf_slide rla_heights rla_ladders rla_minutes rla_echoFrom rla_echoTo rla_homes rla_talls rla_known rvf_deeds rva_kinds rva_firsts rva_seconds rsf_facts rsa_heard rsa_huts rsa_minutes rcf_voices rcf_step rca_parts rca_heights x1 x2 post_3 := ⟨h1.1, fun v1 e2 => ⟨(h1.2 v1 e2).1, fun v3 e4 => h_post _ _ _ _ _ _ _ _ _ _ _ _ _ _ _ _ _ _ _ _ _ _ _ _ _ _ _ _ _ _ _ _ _ _ _ _ _ _ _ _ _ _ _ _ _ _ _ _ _ _ _ _ _ _ _ ((h1.2 v1 e2).2 v3 e4) ((h2.2 v1 e2).2 v3 e4)⟩⟩
set_option maxRecDepth 40000 in
theorem cj_q_wx_X10_keep_0 {ta_counts : Nat → Int32} {tl0f_huts : Int32} {tl0f_singers : Int32} {tl0f_villages : Int32} {tl0f_dams : Int32} {tl0f_echoes : Int32} {tl0f_deep : Int32} {tl0f_slide : Int32} {tl0a_heights : Nat → Int32} {tl0a_ladders : Nat → Int32} {tl0a_minutes : Nat → Int32} {tl0a_echoFrom : Nat → Int32} {tl0a_echoTo : Nat → Int32} {tl0a_homes : Nat → Int32} {tl0a_talls : Nat → Int32} {tl0a_known : Nat → Int32} {tl1f_huts : Int32} {tl1f_singers : Int32} {tl1f_villages : Int32} {tl1f_dams : Int32} {tl1f_echoes : Int32} {tl1f_deep : Int32} {tl1f_slide : Int32} {tl1a_heights : Nat → Int32} {tl1a_ladders : Nat → Int32} {tl1a_minutes : Nat → Int32} {tl1a_echoFrom : Nat → Int32} {tl1a_echoTo : Nat → Int32} {tl1a_homes : Nat → Int32} {tl1a_talls : Nat → Int32} {tl1a_known : Nat → Int32} {tv0f_deeds : Int32} {tv0a_kinds : Nat → Int32} {tv0a_firsts : Nat → Int32} {tv0a_seconds : Nat → Int32} {tv1f_deeds : Int32} {tv1a_kinds : Nat → Int32} {tv1a_firsts : Nat → Int32} {tv1a_seconds : Nat → Int32} {ts0f_facts : Int32} {ts0a_heard : Nat → Int32} {ts0a_huts : Nat → Int32} {ts0a_minutes : Nat → Int32} {ts1f_facts : Int32} {ts1a_heard : Nat → Int32} {ts1a_huts : Nat → Int32} {ts1a_minutes : Nat → Int32} {tc0f_voices : Int32} {tc0f_step : Int32} {tc0a_parts : Nat → Int32} {tc0a_heights : Nat → Int32} {tc1f_voices : Int32} {tc1f_step : Int32} {tc1a_parts : Nat → Int32} {tc1a_heights : Nat → Int32} {rlf_huts : Int32} {rlf_singers : Int32} {rlf_villages : Int32} {rlf_dams : Int32} {rlf_echoes : Int32} {rlf_deep : Int32} {rlf_slide : Int32} {rla_heights : Nat → Int32} {rla_ladders : Nat → Int32} {rla_minutes : Nat → Int32} {rla_echoFrom : Nat → Int32} {rla_echoTo : Nat → Int32} {rla_homes : Nat → Int32} {rla_talls : Nat → Int32} {rla_known : Nat → Int32} {rvf_deeds : Int32} {rva_kinds : Nat → Int32} {rva_firsts : Nat → Int32} {rva_seconds : Nat → Int32} {rsf_facts : Int32} {rsa_heard : Nat → Int32} {rsa_huts : Nat → Int32} {rsa_minutes : Nat → Int32} {rcf_voices : Int32} {rcf_step : Int32} {rca_parts : Nat → Int32} {rca_heights : Nat → Int32} {x1 : Int32} {x2 : Int32} {post_1 post_2 post_3 : (Nat → Int32) → (Int32) → (Int32) → (Int32) → (Int32) → (Int32) → (Int32) → (Int32) → (Nat → Int32) → (Nat → Int32) → (Nat → Int32) → (Nat → Int32) → (Nat → Int32) → (Nat → Int32) → (Nat → Int32) → (Nat → Int32) → (Int32) → (Int32) → (Int32) → (Int32) → (Int32) → (Int32) → (Int32) → (Nat → Int32) → (Nat → Int32) → (Nat → Int32) → (Nat → Int32) → (Nat → Int32) → (Nat → Int32) → (Nat → Int32) → (Nat → Int32) → (Int32) → (Nat → Int32) → (Nat → Int32) → (Nat → Int32) → (Int32) → (Nat → Int32) → (Nat → Int32) → (Nat → Int32) → (Int32) → (Nat → Int32) → (Nat → Int32) → (Nat → Int32) → (Int32) → (Nat → Int32) → (Nat → Int32) → (Nat → Int32) → (Int32) → (Int32) → (Nat → Int32) → (Nat → Int32) → (Int32) → (Int32) → (Nat → Int32) → (Nat → Int32) → Prop} (h_post : ∀ x0 x1 x2 x3 x4 x5 x6 x7 x8 x9 x10 x11 x12 x13 x14 x15 x16 x17 x18 x19 x20 x21 x22 x23 x24 x25 x26 x27 x28 x29 x30 x31 x32 x33 x34 x35 x36 x37 x38 x39 x40 x41 x42 x43 x44 x45 x46 x47 x48 x49 x50 x51 x52 x53 x54, post_1 x0 x1 x2 x3 x4 x5 x6 x7 x8 x9 x10 x11 x12 x13 x14 x15 x16 x17 x18 x19 x20 x21 x22 x23 x24 x25 x26 x27 x28 x29 x30 x31 x32 x33 x34 x35 x36 x37 x38 x39 x40 x41 x42 x43 x44 x45 x46 x47 x48 x49 x50 x51 x52 x53 x54 → post_2 x0 x1 x2 x3 x4 x5 x6 x7 x8 x9 x10 x11 x12 x13 x14 x15 x16 x17 x18 x19 x20 x21 x22 x23 x24 x25 x26 x27 x28 x29 x30 x31 x32 x33 x34 x35 x36 x37 x38 x39 x40 x41 x42 x43 x44 x45 x46 x47 x48 x49 x50 x51 x52 x53 x54 → post_3 x0 x1 x2 x3 x4 x5 x6 x7 x8 x9 x10 x11 x12 x13 x14 x15 x16 x17 x18 x19 x20 x21 x22 x23 x24 x25 x26 x27 x28 x29 x30 x31 x32 x33 x34 x35 x36 x37 x38 x39 x40 x41 x42 x43 x44 x45 x46 x47 x48 x49 x50 x51 x52 x53 x54) (h1 : q_wx_X10_keep_0 ta_counts tl0f_huts tl0f_singers tl0f_villages tl0f_dams tl0f_echoes tl0f_deep tl0f_slide tl0a_heights tl0a_ladders tl0a_minutes tl0a_echoFrom tl0a_echoTo tl0a_homes tl0a_talls tl0a_known tl1f_huts tl1f_singers tl1f_villages tl1f_dams tl1f_echoes tl1f_deep tl1f_slide tl1a_heights tl1a_ladders tl1a_minutes tl1a_echoFrom tl1a_echoTo tl1a_homes tl1a_talls tl1a_known tv0f_deeds tv0a_kinds tv0a_firsts tv0a_seconds tv1f_deeds tv1a_kinds tv1a_firsts tv1a_seconds ts0f_facts ts0a_heard ts0a_huts ts0a_minutes ts1f_facts ts1a_heard ts1a_huts ts1a_minutes tc0f_voices tc0f_step tc0a_parts tc0a_heights tc1f_voices tc1f_step tc1a_parts tc1a_heights rlf_huts rlf_singers rlf_villages rlf_dams rlf_echoes rlf_deep rlf_slide rla_heights rla_ladders rla_minutes rla_echoFrom rla_echoTo rla_homes rla_talls rla_known rvf_deeds rva_kinds rva_firsts rva_seconds rsf_facts rsa_heard rsa_huts rsa_minutes rcf_voices rcf_step rca_parts rca_heights x1 x2 post_1) (h2 : q_wx_X10_keep_0 ta_counts tl0f_huts tl0f_singers tl0f_villages tl0f_dams tl0f_echoes tl0f_deep tl0f_slide tl0a_heights tl0a_ladders tl0a_minutes tl0a_echoFrom tl0a_echoTo tl0a_homes tl0a_talls tl0a_known tl1f_huts tl1f_singers tl1f_villages tl1f_dams tl1f_echoes tl1f_deep tl1f_slide tl1a_heights tl1a_ladders tl1a_minutes tl1a_echoFrom tl1a_echoTo tl1a_homes tl1a_talls tl1a_known tv0f_deeds tv0a_kinds tv0a_firsts tv0a_seconds tv1f_deeds tv1a_kinds tv1a_firsts tv1a_seconds ts0f_facts ts0a_heard ts0a_huts ts0a_minutes ts1f_facts ts1a_heard ts1a_huts ts1a_minutes tc0f_voices tc0f_step tc0a_parts tc0a_heights tc1f_voices tc1f_step tc1a_parts tc1a_heights rlf_huts rlf_singers rlf_villages rlf_dams rlf_echoes rlf_deep rlf_slide rla_heights rla_ladders rla_minutes rla_echoFrom rla_echoTo rla_homes rla_talls rla_known rvf_deeds rva_kinds rva_firsts rva_seconds rsf_facts rsa_heard rsa_huts rsa_minutes rcf_voices rcf_step rca_parts rca_heights x1 x2 post_2) : q_wx_X10_keep_0 ta_counts tl0f_huts tl0f_singers tl0f_villages tl0f_dams tl0f_echoes tl0f_deep tl0f_slide tl0a_heights tl0a_ladders tl0a_minutes tl0a_echoFrom tl0a_echoTo tl0a_homes tl0a_talls tl0a_known tl1f_huts tl1f_singers tl1f_villages tl1f_dams tl1f_echoes tl1f_deep tl1f_slide tl1a_heights tl1a_ladders tl1a_minutes tl1a_echoFrom tl1a_echoTo tl1a_homes tl1a_talls tl1a_known tv0f_deeds tv0a_kinds tv0a_firsts tv0a_seconds tv1f_deeds tv1a_kinds tv1a_firsts tv1a_seconds ts0f_facts ts0a_heard ts0a_huts ts0a_minutes ts1f_facts ts1a_heard ts1a_huts ts1a_minutes tc0f_voices tc0f_step tc0a_parts tc0a_heights tc1f_voices tc1f_step tc1a_parts tc1a_heights rlf_huts rlf_singers rlf_villages rlf_dams rlf_echoes rlf_deep rlf_slide rla_heights rla_ladders rla_minutes rla_echoFrom rla_echoTo rla_homes rla_talls rla_known rvf_deeds rva_kinds rva_firsts rva_seconds rsf_facts rsa_heard rsa_huts rsa_minutes rcf_voices rcf_step rca_parts rca_heights x1 x2 post_3 := ⟨fun c1 => ⟨fun c2 => ⟨fun c3 => ⟨(((h1.1 c1).1 c2).1 c3).1, fun c4 => cj_q_wcc_X0_copyFrom_3_0 (fun _ _ _ _ h5 h6 => cj_q_wx_X10_keep_99 h_post h5 h6) ((((h1.1 c1).1 c2).1 c3).2.1 c4) ((((h2.1 c1).1 c2).1 c3).2.1 c4), fun c7 => cj_q_wcc_X0_copyFrom_3_0 (fun _ _ _ _ h8 h9 => cj_q_wx_X10_keep_99 h_post h8 h9) ((((h1.1 c1).1 c2).1 c3).2.2 c7) ((((h2.1 c1).1 c2).1 c3).2.2 c7)⟩, fun c10 => ⟨(((h1.1 c1).1 c2).2 c10).1, fun c11 => cj_q_wss_X6_copyFrom_4_0 (fun _ _ _ _ h12 h13 => cj_q_wx_X10_keep_99 h_post h12 h13) ((((h1.1 c1).1 c2).2 c10).2.1 c11) ((((h2.1 c1).1 c2).2 c10).2.1 c11), fun c14 => cj_q_wss_X6_copyFrom_4_0 (fun _ _ _ _ h15 h16 => cj_q_wx_X10_keep_99 h_post h15 h16) ((((h1.1 c1).1 c2).2 c10).2.2 c14) ((((h2.1 c1).1 c2).2 c10).2.2 c14)⟩⟩, fun c17 => ⟨((h1.1 c1).2 c17).1, fun c18 => cj_q_wvv_X1_copyFrom_4_0 (fun _ _ _ _ h19 h20 => cj_q_wx_X10_keep_99 h_post h19 h20) (((h1.1 c1).2 c17).2.1 c18) (((h2.1 c1).2 c17).2.1 c18), fun c21 => cj_q_wvv_X1_copyFrom_4_0 (fun _ _ _ _ h22 h23 => cj_q_wx_X10_keep_99 h_post h22 h23) (((h1.1 c1).2 c17).2.2 c21) (((h2.1 c1).2 c17).2.2 c21)⟩⟩, fun c24 => ⟨(h1.2 c24).1, fun c25 => cj_q_wll_X2_copyFrom_9_0 (fun _ _ _ _ _ _ _ _ _ _ _ _ _ _ _ h26 h27 => cj_q_wx_X10_keep_99 h_post h26 h27) ((h1.2 c24).2.1 c25) ((h2.2 c24).2.1 c25), fun c28 => cj_q_wll_X2_copyFrom_9_0 (fun _ _ _ _ _ _ _ _ _ _ _ _ _ _ _ h29 h30 => cj_q_wx_X10_keep_99 h_post h29 h30) ((h1.2 c24).2.2 c28) ((h2.2 c24).2.2 c28)⟩⟩
set_option maxRecDepth 40000 in
theorem cj_q_wx_X10_numberFor_0 {ta_counts : Nat → Int32} {x1 : Int32} {x2 : Int32} {post_1 post_2 post_3 : Int32 → Prop} (h_post : ∀ x0, post_1 x0 → post_2 x0 → post_3 x0) (h1 : q_wx_X10_numberFor_0 ta_counts x1 x2 post_1) (h2 : q_wx_X10_numberFor_0 ta_counts x1 x2 post_2) : q_wx_X10_numberFor_0 ta_counts x1 x2 post_3 := ⟨fun c1 => h_post _ (h1.1 c1) (h2.1 c1), fun c2 => ⟨fun c3 => ⟨((h1.2 c2).1 c3).1, fun v4 e5 => ⟨fun c6 => ⟨fun c7 => h_post _ (((((h1.2 c2).1 c3).2 v4 e5).1 c6).1 c7) (((((h2.2 c2).1 c3).2 v4 e5).1 c6).1 c7), fun c8 => ⟨fun c9 => h_post _ ((((((h1.2 c2).1 c3).2 v4 e5).1 c6).2 c8).1 c9) ((((((h2.2 c2).1 c3).2 v4 e5).1 c6).2 c8).1 c9), fun c10 => h_post _ ((((((h1.2 c2).1 c3).2 v4 e5).1 c6).2 c8).2 c10) ((((((h2.2 c2).1 c3).2 v4 e5).1 c6).2 c8).2 c10)⟩⟩, fun c11 => ⟨fun c12 => h_post _ (((((h1.2 c2).1 c3).2 v4 e5).2 c11).1 c12) (((((h2.2 c2).1 c3).2 v4 e5).2 c11).1 c12), fun c13 => h_post _ (((((h1.2 c2).1 c3).2 v4 e5).2 c11).2 c13) (((((h2.2 c2).1 c3).2 v4 e5).2 c11).2 c13)⟩⟩⟩, fun c14 => h_post _ ((h1.2 c2).2 c14) ((h2.2 c2).2 c14)⟩⟩
set_option maxRecDepth 40000 in
theorem cj_q_wx_X10_text_0 {ta_tape : Nat → Int32} {tf_length : Int32} {tf_fault : Int32} {tf_place : Int32} {ta_counts : Nat → Int32} {tl0f_huts : Int32} {tl0f_singers : Int32} {tl0f_villages : Int32} {tl0f_dams : Int32} {tl0f_echoes : Int32} {tl0f_deep : Int32} {tl0f_slide : Int32} {tl0a_heights : Nat → Int32} {tl0a_ladders : Nat → Int32} {tl0a_minutes : Nat → Int32} {tl0a_echoFrom : Nat → Int32} {tl0a_echoTo : Nat → Int32} {tl0a_homes : Nat → Int32} {tl0a_talls : Nat → Int32} {tl0a_known : Nat → Int32} {tl1f_huts : Int32} {tl1f_singers : Int32} {tl1f_villages : Int32} {tl1f_dams : Int32} {tl1f_echoes : Int32} {tl1f_deep : Int32} {tl1f_slide : Int32} {tl1a_heights : Nat → Int32} {tl1a_ladders : Nat → Int32} {tl1a_minutes : Nat → Int32} {tl1a_echoFrom : Nat → Int32} {tl1a_echoTo : Nat → Int32} {tl1a_homes : Nat → Int32} {tl1a_talls : Nat → Int32} {tl1a_known : Nat → Int32} {tv0f_deeds : Int32} {tv0a_kinds : Nat → Int32} {tv0a_firsts : Nat → Int32} {tv0a_seconds : Nat → Int32} {tv1f_deeds : Int32} {tv1a_kinds : Nat → Int32} {tv1a_firsts : Nat → Int32} {tv1a_seconds : Nat → Int32} {ts0f_facts : Int32} {ts0a_heard : Nat → Int32} {ts0a_huts : Nat → Int32} {ts0a_minutes : Nat → Int32} {ts1f_facts : Int32} {ts1a_heard : Nat → Int32} {ts1a_huts : Nat → Int32} {ts1a_minutes : Nat → Int32} {tc0f_voices : Int32} {tc0f_step : Int32} {tc0a_parts : Nat → Int32} {tc0a_heights : Nat → Int32} {tc1f_voices : Int32} {tc1f_step : Int32} {tc1a_parts : Nat → Int32} {tc1a_heights : Nat → Int32} {rlf_huts : Int32} {rlf_singers : Int32} {rlf_villages : Int32} {rlf_dams : Int32} {rlf_echoes : Int32} {rlf_deep : Int32} {rlf_slide : Int32} {rla_heights : Nat → Int32} {rla_ladders : Nat → Int32} {rla_minutes : Nat → Int32} {rla_echoFrom : Nat → Int32} {rla_echoTo : Nat → Int32} {rla_homes : Nat → Int32} {rla_talls : Nat → Int32} {rla_known : Nat → Int32} {rvf_deeds : Int32} {rva_kinds : Nat → Int32} {rva_firsts : Nat → Int32} {rva_seconds : Nat → Int32} {rsf_facts : Int32} {rsa_heard : Nat → Int32} {rsa_huts : Nat → Int32} {rsa_minutes : Nat → Int32} {rcf_voices : Int32} {rcf_step : Int32} {rca_parts : Nat → Int32} {rca_heights : Nat → Int32} {rf_fault : Int32} {rf_faultPlace : Int32} {ra_numbers : Nat → Int32} {ra_tape : Nat → Int32} {rf_length : Int32} {rf_behind : Int32} {rf_kind : Int32} {rf_first : Int32} {rf_value : Int32} {rf_hutsToldOf : Int32} {rf_singersToldOf : Int32} {x1 : Int32} {x2 : Int32} {post_1 post_2 post_3 : Int32 → (Int32) → (Int32) → (Int32) → (Nat → Int32) → (Int32) → (Int32) → (Int32) → (Int32) → (Int32) → (Int32) → (Int32) → (Nat → Int32) → (Nat → Int32) → (Nat → Int32) → (Nat → Int32) → (Nat → Int32) → (Nat → Int32) → (Nat → Int32) → (Nat → Int32) → (Int32) → (Int32) → (Int32) → (Int32) → (Int32) → (Int32) → (Int32) → (Nat → Int32) → (Nat → Int32) → (Nat → Int32) → (Nat → Int32) → (Nat → Int32) → (Nat → Int32) → (Nat → Int32) → (Nat → Int32) → (Int32) → (Nat → Int32) → (Nat → Int32) → (Nat → Int32) → (Int32) → (Nat → Int32) → (Nat → Int32) → (Nat → Int32) → (Int32) → (Nat → Int32) → (Nat → Int32) → (Nat → Int32) → (Int32) → (Nat → Int32) → (Nat → Int32) → (Nat → Int32) → (Int32) → (Int32) → (Nat → Int32) → (Nat → Int32) → (Int32) → (Int32) → (Nat → Int32) → (Nat → Int32) → (Int32) → (Int32) → (Int32) → (Int32) → (Int32) → (Int32) → (Int32) → (Nat → Int32) → (Nat → Int32) → (Nat → Int32) → (Nat → Int32) → (Nat → Int32) → (Nat → Int32) → (Nat → Int32) → (Nat → Int32) → (Int32) → (Nat → Int32) → (Nat → Int32) → (Nat → Int32) → (Int32) → (Nat → Int32) → (Nat → Int32) → (Nat → Int32) → (Int32) → (Int32) → (Nat → Int32) → (Nat → Int32) → (Int32) → (Int32) → (Nat → Int32) → (Nat → Int32) → (Int32) → (Int32) → (Int32) → (Int32) → (Int32) → (Int32) → (Int32) → Prop} (h_post : ∀ x0 x1 x2 x3 x4 x5 x6 x7 x8 x9 x10 x11 x12 x13 x14 x15 x16 x17 x18 x19 x20 x21 x22 x23 x24 x25 x26 x27 x28 x29 x30 x31 x32 x33 x34 x35 x36 x37 x38 x39 x40 x41 x42 x43 x44 x45 x46 x47 x48 x49 x50 x51 x52 x53 x54 x55 x56 x57 x58 x59 x60 x61 x62 x63 x64 x65 x66 x67 x68 x69 x70 x71 x72 x73 x74 x75 x76 x77 x78 x79 x80 x81 x82 x83 x84 x85 x86 x87 x88 x89 x90 x91 x92 x93 x94 x95 x96, post_1 x0 x1 x2 x3 x4 x5 x6 x7 x8 x9 x10 x11 x12 x13 x14 x15 x16 x17 x18 x19 x20 x21 x22 x23 x24 x25 x26 x27 x28 x29 x30 x31 x32 x33 x34 x35 x36 x37 x38 x39 x40 x41 x42 x43 x44 x45 x46 x47 x48 x49 x50 x51 x52 x53 x54 x55 x56 x57 x58 x59 x60 x61 x62 x63 x64 x65 x66 x67 x68 x69 x70 x71 x72 x73 x74 x75 x76 x77 x78 x79 x80 x81 x82 x83 x84 x85 x86 x87 x88 x89 x90 x91 x92 x93 x94 x95 x96 → post_2 x0 x1 x2 x3 x4 x5 x6 x7 x8 x9 x10 x11 x12 x13 x14 x15 x16 x17 x18 x19 x20 x21 x22 x23 x24 x25 x26 x27 x28 x29 x30 x31 x32 x33 x34 x35 x36 x37 x38 x39 x40 x41 x42 x43 x44 x45 x46 x47 x48 x49 x50 x51 x52 x53 x54 x55 x56 x57 x58 x59 x60 x61 x62 x63 x64 x65 x66 x67 x68 x69 x70 x71 x72 x73 x74 x75 x76 x77 x78 x79 x80 x81 x82 x83 x84 x85 x86 x87 x88 x89 x90 x91 x92 x93 x94 x95 x96 → post_3 x0 x1 x2 x3 x4 x5 x6 x7 x8 x9 x10 x11 x12 x13 x14 x15 x16 x17 x18 x19 x20 x21 x22 x23 x24 x25 x26 x27 x28 x29 x30 x31 x32 x33 x34 x35 x36 x37 x38 x39 x40 x41 x42 x43 x44 x45 x46 x47 x48 x49 x50 x51 x52 x53 x54 x55 x56 x57 x58 x59 x60 x61 x62 x63 x64 x65 x66 x67 x68 x69 x70 x71 x72 x73 x74 x75 x76 x77 x78 x79 x80 x81 x82 x83 x84 x85 x86 x87 x88 x89 x90 x91 x92 x93 x94 x95 x96) (h1 : q_wx_X10_text_0 ta_tape tf_length tf_fault tf_place ta_counts tl0f_huts tl0f_singers tl0f_villages tl0f_dams tl0f_echoes tl0f_deep tl0f_slide tl0a_heights tl0a_ladders tl0a_minutes tl0a_echoFrom tl0a_echoTo tl0a_homes tl0a_talls tl0a_known tl1f_huts tl1f_singers tl1f_villages tl1f_dams tl1f_echoes tl1f_deep tl1f_slide tl1a_heights tl1a_ladders tl1a_minutes tl1a_echoFrom tl1a_echoTo tl1a_homes tl1a_talls tl1a_known tv0f_deeds tv0a_kinds tv0a_firsts tv0a_seconds tv1f_deeds tv1a_kinds tv1a_firsts tv1a_seconds ts0f_facts ts0a_heard ts0a_huts ts0a_minutes ts1f_facts ts1a_heard ts1a_huts ts1a_minutes tc0f_voices tc0f_step tc0a_parts tc0a_heights tc1f_voices tc1f_step tc1a_parts tc1a_heights rlf_huts rlf_singers rlf_villages rlf_dams rlf_echoes rlf_deep rlf_slide rla_heights rla_ladders rla_minutes rla_echoFrom rla_echoTo rla_homes rla_talls rla_known rvf_deeds rva_kinds rva_firsts rva_seconds rsf_facts rsa_heard rsa_huts rsa_minutes rcf_voices rcf_step rca_parts rca_heights rf_fault rf_faultPlace ra_numbers ra_tape rf_length rf_behind rf_kind rf_first rf_value rf_hutsToldOf rf_singersToldOf x1 x2 post_1) (h2 : q_wx_X10_text_0 ta_tape tf_length tf_fault tf_place ta_counts tl0f_huts tl0f_singers tl0f_villages tl0f_dams tl0f_echoes tl0f_deep tl0f_slide tl0a_heights tl0a_ladders tl0a_minutes tl0a_echoFrom tl0a_echoTo tl0a_homes tl0a_talls tl0a_known tl1f_huts tl1f_singers tl1f_villages tl1f_dams tl1f_echoes tl1f_deep tl1f_slide tl1a_heights tl1a_ladders tl1a_minutes tl1a_echoFrom tl1a_echoTo tl1a_homes tl1a_talls tl1a_known tv0f_deeds tv0a_kinds tv0a_firsts tv0a_seconds tv1f_deeds tv1a_kinds tv1a_firsts tv1a_seconds ts0f_facts ts0a_heard ts0a_huts ts0a_minutes ts1f_facts ts1a_heard ts1a_huts ts1a_minutes tc0f_voices tc0f_step tc0a_parts tc0a_heights tc1f_voices tc1f_step tc1a_parts tc1a_heights rlf_huts rlf_singers rlf_villages rlf_dams rlf_echoes rlf_deep rlf_slide rla_heights rla_ladders rla_minutes rla_echoFrom rla_echoTo rla_homes rla_talls rla_known rvf_deeds rva_kinds rva_firsts rva_seconds rsf_facts rsa_heard rsa_huts rsa_minutes rcf_voices rcf_step rca_parts rca_heights rf_fault rf_faultPlace ra_numbers ra_tape rf_length rf_behind rf_kind rf_first rf_value rf_hutsToldOf rf_singersToldOf x1 x2 post_2) : q_wx_X10_text_0 ta_tape tf_length tf_fault tf_place ta_counts tl0f_huts tl0f_singers tl0f_villages tl0f_dams tl0f_echoes tl0f_deep tl0f_slide tl0a_heights tl0a_ladders tl0a_minutes tl0a_echoFrom tl0a_echoTo tl0a_homes tl0a_talls tl0a_known tl1f_huts tl1f_singers tl1f_villages tl1f_dams tl1f_echoes tl1f_deep tl1f_slide tl1a_heights tl1a_ladders tl1a_minutes tl1a_echoFrom tl1a_echoTo tl1a_homes tl1a_talls tl1a_known tv0f_deeds tv0a_kinds tv0a_firsts tv0a_seconds tv1f_deeds tv1a_kinds tv1a_firsts tv1a_seconds ts0f_facts ts0a_heard ts0a_huts ts0a_minutes ts1f_facts ts1a_heard ts1a_huts ts1a_minutes tc0f_voices tc0f_step tc0a_parts tc0a_heights tc1f_voices tc1f_step tc1a_parts tc1a_heights rlf_huts rlf_singers rlf_villages rlf_dams rlf_echoes rlf_deep rlf_slide rla_heights rla_ladders rla_minutes rla_echoFrom rla_echoTo rla_homes rla_talls rla_known rvf_deeds rva_kinds rva_firsts rva_seconds rsf_facts rsa_heard rsa_huts rsa_minutes rcf_voices rcf_step rca_parts rca_heights rf_fault rf_faultPlace ra_numbers ra_tape rf_length rf_behind rf_kind rf_first rf_value rf_hutsToldOf rf_singersToldOf x1 x2 post_3 := cj_q_wx_X10_numberFor_0 (fun _ h1 h2 => ⟨fun c3 => cj_q_wr_X4_read_23_0 (fun _ _ _ _ _ _ _ _ _ _ _ _ _ _ _ _ _ _ _ _ _ _ _ _ _ _ _ _ _ _ _ _ _ _ _ _ _ _ h4 h5 => ⟨fun c6 => cj_q_wx_X10_keep_0 (fun _ _ _ _ _ _ _ _ _ _ _ _ _ _ _ _ _ _ _ _ _ _ _ _ _ _ _ _ _ _ _ _ _ _ _ _ _ _ _ _ _ _ _ _ _ _ _ _ _ _ _ _ _ _ _ h7 h8 => h_post _ _ _ _ _ _ _ _ _ _ _ _ _ _ _ _ _ _ _ _ _ _ _ _ _ _ _ _ _ _ _ _ _ _ _ _ _ _ _ _ _ _ _ _ _ _ _ _ _ _ _ _ _ _ _ _ _ _ _ _ _ _ _ _ _ _ _ _ _ _ _ _ _ _ _ _ _ _ _ _ _ _ _ _ _ _ _ _ _ _ _ _ _ _ _ _ _ h7 h8) (h4.1 c6) (h5.1 c6), fun c9 => h_post _ _ _ _ _ _ _ _ _ _ _ _ _ _ _ _ _ _ _ _ _ _ _ _ _ _ _ _ _ _ _ _ _ _ _ _ _ _ _ _ _ _ _ _ _ _ _ _ _ _ _ _ _ _ _ _ _ _ _ _ _ _ _ _ _ _ _ _ _ _ _ _ _ _ _ _ _ _ _ _ _ _ _ _ _ _ _ _ _ _ _ _ _ _ _ _ _ (h4.2 c9) (h5.2 c9)⟩) (h1.1 c3) (h2.1 c3), fun c10 => h_post _ _ _ _ _ _ _ _ _ _ _ _ _ _ _ _ _ _ _ _ _ _ _ _ _ _ _ _ _ _ _ _ _ _ _ _ _ _ _ _ _ _ _ _ _ _ _ _ _ _ _ _ _ _ _ _ _ _ _ _ _ _ _ _ _ _ _ _ _ _ _ _ _ _ _ _ _ _ _ _ _ _ _ _ _ _ _ _ _ _ _ _ _ _ _ _ _ (h1.2 c10) (h2.2 c10)⟩) h1 h2
set_option maxRecDepth 40000 in
theorem cj_q_m_four_3 {a_tape : Nat → Int32} {a_size : Nat → Int32} {x1 : Int32} {x2 : Int32} {post_1 post_2 post_3 : (Nat → Int32) → (Nat → Int32) → Prop} (h_post : ∀ x0 x1, post_1 x0 x1 → post_2 x0 x1 → post_3 x0 x1) (h1 : q_m_four_3 a_tape a_size x1 x2 post_1) (h2 : q_m_four_3 a_tape a_size x1 x2 post_2) : q_m_four_3 a_tape a_size x1 x2 post_3 := lfp_3 h1 h2 (fun A B C hsk1 _ _ _ hak1 hck1 => ⟨fun c2 => h_post _ _ (hak1.1 c2) (hck1.1 c2), fun c3 => fun v4 e5 => ⟨((hak1.2 c3) v4 e5).1, fun v6 e7 => fun v8 e9 => fun v10 e11 => fun v12 e13 => hsk1 _ _ _ ((((((hak1.2 c3) v4 e5).2 v6 e7) v8 e9) v10 e11) v12 e13) ((((((hck1.2 c3) v4 e5).2 v6 e7) v8 e9) v10 e11) v12 e13)⟩⟩) (fun A B hqk1 _ _ _ hbk1 => ⟨fun c14 => (hbk1.1 c14), fun c15 => fun v16 e17 => ⟨((hbk1.2 c15) v16 e17).1, fun v18 e19 => fun v20 e21 => fun v22 e23 => fun v24 e25 => hqk1 _ _ _ ((((((hbk1.2 c15) v16 e17).2 v18 e19) v20 e21) v22 e23) v24 e25)⟩⟩)
set_option maxRecDepth 40000 in
theorem cj_q_m_four_0 {a_tape : Nat → Int32} {a_size : Nat → Int32} {x1 : Int32} {post_1 post_2 post_3 : (Nat → Int32) → (Nat → Int32) → Prop} (h_post : ∀ x0 x1, post_1 x0 x1 → post_2 x0 x1 → post_3 x0 x1) (h1 : q_m_four_0 a_tape a_size x1 post_1) (h2 : q_m_four_0 a_tape a_size x1 post_2) : q_m_four_0 a_tape a_size x1 post_3 := cj_q_m_four_3 h_post h1 h2
set_option maxRecDepth 40000 in
theorem cj_q_m_feed_0 {f_code : Int32} {a_tape : Nat → Int32} {a_size : Nat → Int32} {x1 : Int32} {x2 : Int32} {x3 : Int32} {x4 : Int32} {x5 : Int32} {post_1 post_2 post_3 : Int32 → (Int32) → (Nat → Int32) → (Nat → Int32) → Prop} (h_post : ∀ x0 x1 x2 x3, post_1 x0 x1 x2 x3 → post_2 x0 x1 x2 x3 → post_3 x0 x1 x2 x3) (h1 : q_m_feed_0 f_code a_tape a_size x1 x2 x3 x4 x5 post_1) (h2 : q_m_feed_0 f_code a_tape a_size x1 x2 x3 x4 x5 post_2) : q_m_feed_0 f_code a_tape a_size x1 x2 x3 x4 x5 post_3 := ⟨fun c1 => cj_q_m_four_0 (fun _ _ h2 h3 => cj_q_m_four_0 (fun _ _ h4 h5 => cj_q_m_four_0 (fun _ _ h6 h7 => cj_q_m_four_0 (fun _ _ h8 h9 => cj_q_m_four_0 (fun _ _ h10 h11 => h_post _ _ _ _ h10 h11) h8 h9) h6 h7) h4 h5) h2 h3) (h1.1 c1) (h2.1 c1), fun c12 => h_post _ _ _ _ (h1.2 c12) (h2.2 c12)⟩
set_option maxRecDepth 40000 in
theorem cj_q_m_in_0 {x0 : Int32} {x1 : Int32} {x2 : Int32} {post_1 post_2 post_3 : Int32 → Prop} (h_post : ∀ x0, post_1 x0 → post_2 x0 → post_3 x0) (h1 : q_m_in_0 x0 x1 x2 post_1) (h2 : q_m_in_0 x0 x1 x2 post_2) : q_m_in_0 x0 x1 x2 post_3 := ⟨fun c1 => h_post _ (h1.1 c1) (h2.1 c1), fun c2 => ⟨fun c3 => h_post _ ((h1.2 c2).1 c3) ((h2.2 c2).1 c3), fun c4 => h_post _ ((h1.2 c2).2 c4) ((h2.2 c2).2 c4)⟩⟩
set_option maxRecDepth 40000 in
theorem cj_q_m_is_0 {a_many : Nat → Int32} {x1 : Int32} {x2 : Int32} {post_1 post_2 post_3 : Int32 → Prop} (h_post : ∀ x0, post_1 x0 → post_2 x0 → post_3 x0) (h1 : q_m_is_0 a_many x1 x2 post_1) (h2 : q_m_is_0 a_many x1 x2 post_2) : q_m_is_0 a_many x1 x2 post_3 := ⟨h1.1, cj_q_m_in_0 (fun _ h1 h2 => ⟨h1.1, h_post _ h1.2 h2.2⟩) h1.2 h2.2⟩
set_option maxRecDepth 40000 in
theorem cj_q_m_fails_0 {f_begins : Int32} {f_wrongAt : Int32} {post_1 post_2 post_3 : Int32 → (Int32) → Prop} (h_post : ∀ x0 x1, post_1 x0 x1 → post_2 x0 x1 → post_3 x0 x1) (h1 : q_m_fails_0 f_begins f_wrongAt post_1) (h2 : q_m_fails_0 f_begins f_wrongAt post_2) : q_m_fails_0 f_begins f_wrongAt post_3 := h_post _ _ h1 h2
set_option maxRecDepth 40000 in
theorem cj_q_m_further_0 {a_told : Nat → Int32} {x1 : Int32} {x2 : Int32} {post_1 post_2 post_3 : Int32 → (Nat → Int32) → Prop} (h_post : ∀ x0 x1, post_1 x0 x1 → post_2 x0 x1 → post_3 x0 x1) (h1 : q_m_further_0 a_told x1 x2 post_1) (h2 : q_m_further_0 a_told x1 x2 post_2) : q_m_further_0 a_told x1 x2 post_3 := ⟨h1.1, fun v1 e2 => ⟨fun c3 => ⟨((h1.2 v1 e2).1 c3).1, fun v4 e5 => ⟨(((h1.2 v1 e2).1 c3).2 v4 e5).1, fun v6 e7 => h_post _ _ ((((h1.2 v1 e2).1 c3).2 v4 e5).2 v6 e7) ((((h2.2 v1 e2).1 c3).2 v4 e5).2 v6 e7)⟩⟩, fun c8 => h_post _ _ ((h1.2 v1 e2).2 c8) ((h2.2 v1 e2).2 c8)⟩⟩
set_option maxRecDepth 40000 in
theorem cj_q_m_keep_10 {a_told : Nat → Int32} {a_read : Nat → Int32} {x1 : Int32} {x3 : Int32} {x4 : Int32} {post_1 post_2 post_3 : (Nat → Int32) → Prop} (h_post : ∀ x0, post_1 x0 → post_2 x0 → post_3 x0) (h1 : q_m_keep_10 a_told a_read x1 x3 x4 post_1) (h2 : q_m_keep_10 a_told a_read x1 x3 x4 post_2) : q_m_keep_10 a_told a_read x1 x3 x4 post_3 := lfp_2 h1 h2 (fun A B C hsk1 _ _ hak1 hck1 => ⟨fun c2 => h_post _ (hak1.1 c2) (hck1.1 c2), fun c3 => ⟨fun c4 => h_post _ ((hak1.2 c3).1 c4) ((hck1.2 c3).1 c4), fun c5 => ⟨((hak1.2 c3).2 c5).1, fun v6 e7 => ⟨(((hak1.2 c3).2 c5).2 v6 e7).1, fun v8 e9 => fun v10 e11 => hsk1 _ _ (((((hak1.2 c3).2 c5).2 v6 e7).2 v8 e9) v10 e11) (((((hck1.2 c3).2 c5).2 v6 e7).2 v8 e9) v10 e11)⟩⟩⟩⟩) (fun A B hqk1 _ _ hbk1 => ⟨fun c12 => (hbk1.1 c12), fun c13 => ⟨fun c14 => ((hbk1.2 c13).1 c14), fun c15 => ⟨((hbk1.2 c13).2 c15).1, fun v16 e17 => ⟨(((hbk1.2 c13).2 c15).2 v16 e17).1, fun v18 e19 => fun v20 e21 => hqk1 _ _ (((((hbk1.2 c13).2 c15).2 v16 e17).2 v18 e19) v20 e21)⟩⟩⟩⟩)
set_option maxRecDepth 40000 in
theorem cj_q_m_keep_0 {a_told : Nat → Int32} {a_read : Nat → Int32} {x1 : Int32} {x2 : Int32} {post_1 post_2 post_3 : (Nat → Int32) → Prop} (h_post : ∀ x0, post_1 x0 → post_2 x0 → post_3 x0) (h1 : q_m_keep_0 a_told a_read x1 x2 post_1) (h2 : q_m_keep_0 a_told a_read x1 x2 post_2) : q_m_keep_0 a_told a_read x1 x2 post_3 := cj_q_m_further_0 (fun _ _ h1 h2 => cj_q_m_keep_10 h_post h1 h2) h1 h2
set_option maxRecDepth 40000 in
theorem cj_q_m_later_31 {f_laterFault : Int32} {f_laterPlace : Int32} {x1 : Int32} {x2 : Int32} {post_1 post_2 post_3 : (Int32) → (Int32) → Prop} (h_post : ∀ x0 x1, post_1 x0 x1 → post_2 x0 x1 → post_3 x0 x1) (h1 : q_m_later_31 f_laterFault f_laterPlace x1 x2 post_1) (h2 : q_m_later_31 f_laterFault f_laterPlace x1 x2 post_2) : q_m_later_31 f_laterFault f_laterPlace x1 x2 post_3 := h_post _ _ h1 h2
set_option maxRecDepth 40000 in
theorem cj_q_m_later_0 {f_laterFault : Int32} {f_laterPlace : Int32} {x1 : Int32} {x2 : Int32} {post_1 post_2 post_3 : (Int32) → (Int32) → Prop} (h_post : ∀ x0 x1, post_1 x0 x1 → post_2 x0 x1 → post_3 x0 x1) (h1 : q_m_later_0 f_laterFault f_laterPlace x1 x2 post_1) (h2 : q_m_later_0 f_laterFault f_laterPlace x1 x2 post_2) : q_m_later_0 f_laterFault f_laterPlace x1 x2 post_3 := ⟨fun c1 => cj_q_m_later_31 h_post (h1.1 c1) (h2.1 c1), fun c2 => ⟨fun c3 => cj_q_m_later_31 h_post ((h1.2 c2).1 c3) ((h2.2 c2).1 c3), fun c4 => ⟨fun c5 => h_post _ _ (((h1.2 c2).2 c4).1 c5) (((h2.2 c2).2 c4).1 c5), fun c6 => ⟨fun c7 => h_post _ _ ((((h1.2 c2).2 c4).2 c6).1 c7) ((((h2.2 c2).2 c4).2 c6).1 c7), fun c8 => cj_q_m_later_31 h_post ((((h1.2 c2).2 c4).2 c6).2 c8) ((((h2.2 c2).2 c4).2 c6).2 c8)⟩⟩⟩⟩
set_option maxRecDepth 40000 in
theorem cj_q_m_see_0 {a_tape : Nat → Int32} {f_reached : Int32} {f_length : Int32} {post_1 post_2 post_3 : Int32 → Prop} (h_post : ∀ x0, post_1 x0 → post_2 x0 → post_3 x0) (h1 : q_m_see_0 a_tape f_reached f_length post_1) (h2 : q_m_see_0 a_tape f_reached f_length post_2) : q_m_see_0 a_tape f_reached f_length post_3 := ⟨fun c1 => h_post _ (h1.1 c1) (h2.1 c1), fun c2 => ⟨(h1.2 c2).1, h_post _ (h1.2 c2).2 (h2.2 c2).2⟩⟩
set_option maxRecDepth 40000 in
theorem cj_q_m_token_205 {P163_1 P163_2 P163_3 : Int32 → (Int32) → (Int32) → Prop} {a_tape : Nat → Int32} {f_reached : Int32} {f_length : Int32} {f_begins : Int32} {f_sort : Int32} {f_value : Int32} {f_word : Int64} {x2 : Int32} {y0 : Int32} {post_1 post_2 post_3 : (Int32) → (Int32) → (Int32) → (Int32) → (Int64) → Prop} (h_P163 : ∀ x0 x1 x2, P163_1 x0 x1 x2 → P163_2 x0 x1 x2 → P163_3 x0 x1 x2) (h_post : ∀ x0 x1 x2 x3 x4, post_1 x0 x1 x2 x3 x4 → post_2 x0 x1 x2 x3 x4 → post_3 x0 x1 x2 x3 x4) (h1 : q_m_token_205 P163_1 a_tape f_reached f_length f_begins f_sort f_value f_word x2 y0 post_1) (h2 : q_m_token_205 P163_2 a_tape f_reached f_length f_begins f_sort f_value f_word x2 y0 post_2) : q_m_token_205 P163_3 a_tape f_reached f_length f_begins f_sort f_value f_word x2 y0 post_3 := fun v1 e2 => fun v3 e4 => h_P163 _ _ _ ((h1 v1 e2) v3 e4) ((h2 v1 e2) v3 e4)
set_option maxRecDepth 40000 in
theorem cj_q_m_token_235 {a_tape : Nat → Int32} {f_reached : Int32} {f_length : Int32} {f_begins : Int32} {f_sort : Int32} {f_value : Int32} {f_word : Int64} {y0 : Int32} {post_1 post_2 post_3 : (Int32) → (Int32) → (Int32) → (Int32) → (Int64) → Prop} (h_post : ∀ x0 x1 x2 x3 x4, post_1 x0 x1 x2 x3 x4 → post_2 x0 x1 x2 x3 x4 → post_3 x0 x1 x2 x3 x4) (h1 : q_m_token_235 a_tape f_reached f_length f_begins f_sort f_value f_word y0 post_1) (h2 : q_m_token_235 a_tape f_reached f_length f_begins f_sort f_value f_word y0 post_2) : q_m_token_235 a_tape f_reached f_length f_begins f_sort f_value f_word y0 post_3 := h_post _ _ _ _ _ h1 h2
set_option maxRecDepth 40000 in
theorem cj_q_m_token_163 {a_tape : Nat → Int32} {f_reached : Int32} {f_length : Int32} {f_begins : Int32} {f_sort : Int32} {f_value : Int32} {f_word : Int64} {x2 : Int32} {post_1 post_2 post_3 : (Int32) → (Int32) → (Int32) → (Int32) → (Int64) → Prop} (h_post : ∀ x0 x1 x2 x3 x4, post_1 x0 x1 x2 x3 x4 → post_2 x0 x1 x2 x3 x4 → post_3 x0 x1 x2 x3 x4) (h1 : q_m_token_163 a_tape f_reached f_length f_begins f_sort f_value f_word x2 post_1) (h2 : q_m_token_163 a_tape f_reached f_length f_begins f_sort f_value f_word x2 post_2) : q_m_token_163 a_tape f_reached f_length f_begins f_sort f_value f_word x2 post_3 := lfp_3 h1 h2 (fun A B C hsk1 _ _ _ hak1 hck1 => cj_q_m_see_0 (fun _ h2 h3 => cj_q_m_in_0 (fun _ h4 h5 => ⟨fun c6 => ⟨fun c7 => cj_q_m_token_235 h_post ((h4.1 c6).1 c7) ((h5.1 c6).1 c7), fun c8 => cj_q_m_token_235 h_post ((h4.1 c6).2 c8) ((h5.1 c6).2 c8)⟩, fun c9 => ⟨fun c10 => cj_q_m_token_205 hsk1 h_post ((h4.2 c9).1 c10) ((h5.2 c9).1 c10), fun c11 => cj_q_m_see_0 (fun _ h12 h13 => cj_q_m_token_205 hsk1 h_post h12 h13) ((h4.2 c9).2 c11) ((h5.2 c9).2 c11)⟩⟩) h2 h3) hak1 hck1) (fun A B hqk1 _ _ _ hbk1 => cj_q_m_see_0 (fun _ h14 h15 => cj_q_m_in_0 (fun _ h16 h17 => ⟨fun c18 => ⟨fun c19 => cj_q_m_token_235 (fun _ _ _ _ _ h _ => h) ((h16.1 c18).1 c19) ((h17.1 c18).1 c19), fun c20 => cj_q_m_token_235 (fun _ _ _ _ _ h _ => h) ((h16.1 c18).2 c20) ((h17.1 c18).2 c20)⟩, fun c21 => ⟨fun c22 => cj_q_m_token_205 (fun _ _ _ h _ => hqk1 _ _ _ h) (fun _ _ _ _ _ h _ => h) ((h16.2 c21).1 c22) ((h17.2 c21).1 c22), fun c23 => cj_q_m_see_0 (fun _ h24 h25 => cj_q_m_token_205 (fun _ _ _ h _ => hqk1 _ _ _ h) (fun _ _ _ _ _ h _ => h) h24 h25) ((h16.2 c21).2 c23) ((h17.2 c21).2 c23)⟩⟩) h14 h15) hbk1 hbk1)
set_option maxRecDepth 40000 in
theorem cj_q_m_token_18 {P0_1 P0_2 P0_3 : (Int32) → Prop} {a_tape : Nat → Int32} {f_reached : Int32} {f_length : Int32} {f_begins : Int32} {f_sort : Int32} {f_value : Int32} {f_word : Int64} {post_1 post_2 post_3 : (Int32) → (Int32) → (Int32) → (Int32) → (Int64) → Prop} (h_P0 : ∀ x0, P0_1 x0 → P0_2 x0 → P0_3 x0) (h_post : ∀ x0 x1 x2 x3 x4, post_1 x0 x1 x2 x3 x4 → post_2 x0 x1 x2 x3 x4 → post_3 x0 x1 x2 x3 x4) (h1 : q_m_token_18 P0_1 a_tape f_reached f_length f_begins f_sort f_value f_word post_1) (h2 : q_m_token_18 P0_2 a_tape f_reached f_length f_begins f_sort f_value f_word post_2) : q_m_token_18 P0_3 a_tape f_reached f_length f_begins f_sort f_value f_word post_3 := fun v1 e2 => h_P0 _ (h1 v1 e2) (h2 v1 e2)
set_option maxRecDepth 40000 in
theorem cj_q_m_token_263 {a_tape : Nat → Int32} {f_reached : Int32} {f_length : Int32} {f_begins : Int32} {f_sort : Int32} {f_value : Int32} {f_word : Int64} {y0 : Int32} {post_1 post_2 post_3 : (Int32) → (Int32) → (Int32) → (Int32) → (Int64) → Prop} (h_post : ∀ x0 x1 x2 x3 x4, post_1 x0 x1 x2 x3 x4 → post_2 x0 x1 x2 x3 x4 → post_3 x0 x1 x2 x3 x4) (h1 : q_m_token_263 a_tape f_reached f_length f_begins f_sort f_value f_word y0 post_1) (h2 : q_m_token_263 a_tape f_reached f_length f_begins f_sort f_value f_word y0 post_2) : q_m_token_263 a_tape f_reached f_length f_begins f_sort f_value f_word y0 post_3 := h_post _ _ _ _ _ h1 h2
set_option maxRecDepth 40000 in
theorem cj_q_m_token_136 {a_tape : Nat → Int32} {f_reached : Int32} {f_length : Int32} {f_begins : Int32} {f_sort : Int32} {f_value : Int32} {f_word : Int64} {y0 : Int64} {post_1 post_2 post_3 : (Int32) → (Int32) → (Int32) → (Int32) → (Int64) → Prop} (h_post : ∀ x0 x1 x2 x3 x4, post_1 x0 x1 x2 x3 x4 → post_2 x0 x1 x2 x3 x4 → post_3 x0 x1 x2 x3 x4) (h1 : q_m_token_136 a_tape f_reached f_length f_begins f_sort f_value f_word y0 post_1) (h2 : q_m_token_136 a_tape f_reached f_length f_begins f_sort f_value f_word y0 post_2) : q_m_token_136 a_tape f_reached f_length f_begins f_sort f_value f_word y0 post_3 := h_post _ _ _ _ _ h1 h2
set_option maxRecDepth 40000 in
theorem cj_q_m_token_74 {a_tape : Nat → Int32} {f_reached : Int32} {f_length : Int32} {f_begins : Int32} {f_sort : Int32} {f_value : Int32} {f_word : Int64} {x2 : Int32} {post_1 post_2 post_3 : (Int32) → (Int32) → (Int32) → (Int32) → (Int64) → Prop} (h_post : ∀ x0 x1 x2 x3 x4, post_1 x0 x1 x2 x3 x4 → post_2 x0 x1 x2 x3 x4 → post_3 x0 x1 x2 x3 x4) (h1 : q_m_token_74 a_tape f_reached f_length f_begins f_sort f_value f_word x2 post_1) (h2 : q_m_token_74 a_tape f_reached f_length f_begins f_sort f_value f_word x2 post_2) : q_m_token_74 a_tape f_reached f_length f_begins f_sort f_value f_word x2 post_3 := lfp_3 h1 h2 (fun A B C hsk1 _ _ _ hak1 hck1 => cj_q_m_see_0 (fun _ h2 h3 => cj_q_m_in_0 (fun _ h4 h5 => ⟨fun c6 => ⟨fun c7 => cj_q_m_token_136 h_post ((h4.1 c6).1 c7) ((h5.1 c6).1 c7), fun c8 => cj_q_m_token_136 h_post ((h4.1 c6).2 c8) ((h5.1 c6).2 c8)⟩, fun c9 => cj_q_m_see_0 (fun _ h10 h11 => fun v12 e13 => fun v14 e15 => fun v16 e17 => hsk1 _ _ _ (((h10 v12 e13) v14 e15) v16 e17) (((h11 v12 e13) v14 e15) v16 e17)) (h4.2 c9) (h5.2 c9)⟩) h2 h3) hak1 hck1) (fun A B hqk1 _ _ _ hbk1 => cj_q_m_see_0 (fun _ h18 h19 => cj_q_m_in_0 (fun _ h20 h21 => ⟨fun c22 => ⟨fun c23 => cj_q_m_token_136 (fun _ _ _ _ _ h _ => h) ((h20.1 c22).1 c23) ((h21.1 c22).1 c23), fun c24 => cj_q_m_token_136 (fun _ _ _ _ _ h _ => h) ((h20.1 c22).2 c24) ((h21.1 c22).2 c24)⟩, fun c25 => cj_q_m_see_0 (fun _ h26 h27 => fun v28 e29 => fun v30 e31 => fun v32 e33 => hqk1 _ _ _ (((h26 v28 e29) v30 e31) v32 e33)) (h20.2 c25) (h21.2 c25)⟩) h18 h19) hbk1 hbk1)
set_option maxRecDepth 40000 in
theorem cj_q_m_token_0 {a_tape : Nat → Int32} {f_reached : Int32} {f_length : Int32} {f_begins : Int32} {f_sort : Int32} {f_value : Int32} {f_word : Int64} {post_1 post_2 post_3 : (Int32) → (Int32) → (Int32) → (Int32) → (Int64) → Prop} (h_post : ∀ x0 x1 x2 x3 x4, post_1 x0 x1 x2 x3 x4 → post_2 x0 x1 x2 x3 x4 → post_3 x0 x1 x2 x3 x4) (h1 : q_m_token_0 a_tape f_reached f_length f_begins f_sort f_value f_word post_1) (h2 : q_m_token_0 a_tape f_reached f_length f_begins f_sort f_value f_word post_2) : q_m_token_0 a_tape f_reached f_length f_begins f_sort f_value f_word post_3 := lfp_1 h1 h2 (fun A B C hsk1 _ hak1 hck1 => cj_q_m_see_0 (fun _ h2 h3 => ⟨fun c4 => cj_q_m_token_18 hsk1 h_post (h2.1 c4) (h3.1 c4), fun c5 => cj_q_m_see_0 (fun _ h6 h7 => ⟨fun c8 => cj_q_m_see_0 (fun _ h9 h10 => ⟨fun c11 => cj_q_m_in_0 (fun _ h12 h13 => ⟨fun c14 => cj_q_m_in_0 (fun _ h15 h16 => ⟨fun c17 => fun v18 e19 => ⟨fun c20 => cj_q_m_token_263 h_post (((h15.1 c17) v18 e19).1 c20) (((h16.1 c17) v18 e19).1 c20), fun c21 => cj_q_m_token_263 h_post (((h15.1 c17) v18 e19).2 c21) (((h16.1 c17) v18 e19).2 c21)⟩, fun c22 => cj_q_m_token_163 h_post (h15.2 c22) (h16.2 c22)⟩) (h12.1 c14) (h13.1 c14), fun c23 => cj_q_m_token_74 h_post (h12.2 c23) (h13.2 c23)⟩) (h9.1 c11) (h10.1 c11), fun c24 => h_post _ _ _ _ _ (h9.2 c24) (h10.2 c24)⟩) (h6.1 c8) (h7.1 c8), fun c25 => cj_q_m_token_18 hsk1 h_post (h6.2 c25) (h7.2 c25)⟩) (h2.2 c5) (h3.2 c5)⟩) hak1 hck1) (fun A B hqk1 _ hbk1 => cj_q_m_see_0 (fun _ h26 h27 => ⟨fun c28 => cj_q_m_token_18 (fun _ h _ => hqk1 _ h) (fun _ _ _ _ _ h _ => h) (h26.1 c28) (h27.1 c28), fun c29 => cj_q_m_see_0 (fun _ h30 h31 => ⟨fun c32 => cj_q_m_see_0 (fun _ h33 h34 => ⟨fun c35 => cj_q_m_in_0 (fun _ h36 h37 => ⟨fun c38 => cj_q_m_in_0 (fun _ h39 h40 => ⟨fun c41 => fun v42 e43 => ⟨fun c44 => cj_q_m_token_263 (fun _ _ _ _ _ h _ => h) (((h39.1 c41) v42 e43).1 c44) (((h40.1 c41) v42 e43).1 c44), fun c45 => cj_q_m_token_263 (fun _ _ _ _ _ h _ => h) (((h39.1 c41) v42 e43).2 c45) (((h40.1 c41) v42 e43).2 c45)⟩, fun c46 => cj_q_m_token_163 (fun _ _ _ _ _ h _ => h) (h39.2 c46) (h40.2 c46)⟩) (h36.1 c38) (h37.1 c38), fun c47 => cj_q_m_token_74 (fun _ _ _ _ _ h _ => h) (h36.2 c47) (h37.2 c47)⟩) (h33.1 c35) (h34.1 c35), fun c48 => (h33.2 c48)⟩) (h30.1 c32) (h31.1 c32), fun c49 => cj_q_m_token_18 (fun _ h _ => hqk1 _ h) (fun _ _ _ _ _ h _ => h) (h30.2 c49) (h31.2 c49)⟩) (h26.2 c29) (h27.2 c29)⟩) hbk1 hbk1)
set_option maxRecDepth 40000 in
theorem cj_q_m_takeBut_58 {a_tape : Nat → Int32} {f_reached : Int32} {f_length : Int32} {f_begins : Int32} {f_sort : Int32} {f_value : Int32} {f_word : Int64} {f_wrongAt : Int32} {f_laterFault : Int32} {f_laterPlace : Int32} {a_read : Nat → Int32} {f_good : Int32} {post_1 post_2 post_3 : Int32 → (Int32) → (Int32) → (Int32) → (Int32) → (Int64) → (Int32) → (Int32) → (Int32) → (Nat → Int32) → (Int32) → Prop} (h_post : ∀ x0 x1 x2 x3 x4 x5 x6 x7 x8 x9 x10, post_1 x0 x1 x2 x3 x4 x5 x6 x7 x8 x9 x10 → post_2 x0 x1 x2 x3 x4 x5 x6 x7 x8 x9 x10 → post_3 x0 x1 x2 x3 x4 x5 x6 x7 x8 x9 x10) (h1 : q_m_takeBut_58 a_tape f_reached f_length f_begins f_sort f_value f_word f_wrongAt f_laterFault f_laterPlace a_read f_good post_1) (h2 : q_m_takeBut_58 a_tape f_reached f_length f_begins f_sort f_value f_word f_wrongAt f_laterFault f_laterPlace a_read f_good post_2) : q_m_takeBut_58 a_tape f_reached f_length f_begins f_sort f_value f_word f_wrongAt f_laterFault f_laterPlace a_read f_good post_3 := cj_q_m_token_0 (fun _ _ _ _ _ h1 h2 => h_post _ _ _ _ _ _ _ _ _ _ _ h1 h2) h1 h2
set_option maxRecDepth 40000 in
theorem cj_q_m_takeBut_44 {a_tape : Nat → Int32} {f_reached : Int32} {f_length : Int32} {f_begins : Int32} {f_sort : Int32} {f_value : Int32} {f_word : Int64} {f_wrongAt : Int32} {f_laterFault : Int32} {f_laterPlace : Int32} {a_read : Nat → Int32} {f_good : Int32} {post_1 post_2 post_3 : Int32 → (Int32) → (Int32) → (Int32) → (Int32) → (Int64) → (Int32) → (Int32) → (Int32) → (Nat → Int32) → (Int32) → Prop} (h_post : ∀ x0 x1 x2 x3 x4 x5 x6 x7 x8 x9 x10, post_1 x0 x1 x2 x3 x4 x5 x6 x7 x8 x9 x10 → post_2 x0 x1 x2 x3 x4 x5 x6 x7 x8 x9 x10 → post_3 x0 x1 x2 x3 x4 x5 x6 x7 x8 x9 x10) (h1 : q_m_takeBut_44 a_tape f_reached f_length f_begins f_sort f_value f_word f_wrongAt f_laterFault f_laterPlace a_read f_good post_1) (h2 : q_m_takeBut_44 a_tape f_reached f_length f_begins f_sort f_value f_word f_wrongAt f_laterFault f_laterPlace a_read f_good post_2) : q_m_takeBut_44 a_tape f_reached f_length f_begins f_sort f_value f_word f_wrongAt f_laterFault f_laterPlace a_read f_good post_3 := cj_q_m_later_0 (fun _ _ h1 h2 => cj_q_m_takeBut_58 h_post h1 h2) h1 h2
set_option maxRecDepth 40000 in
theorem cj_q_m_takeBut_0 {a_tape : Nat → Int32} {f_reached : Int32} {f_length : Int32} {f_begins : Int32} {f_sort : Int32} {f_value : Int32} {f_word : Int64} {f_wrongAt : Int32} {f_laterFault : Int32} {f_laterPlace : Int32} {a_read : Nat → Int32} {f_good : Int32} {x1 : Int32} {x2 : Int32} {x3 : Int32} {x4 : Int32} {post_1 post_2 post_3 : Int32 → (Int32) → (Int32) → (Int32) → (Int32) → (Int64) → (Int32) → (Int32) → (Int32) → (Nat → Int32) → (Int32) → Prop} (h_post : ∀ x0 x1 x2 x3 x4 x5 x6 x7 x8 x9 x10, post_1 x0 x1 x2 x3 x4 x5 x6 x7 x8 x9 x10 → post_2 x0 x1 x2 x3 x4 x5 x6 x7 x8 x9 x10 → post_3 x0 x1 x2 x3 x4 x5 x6 x7 x8 x9 x10) (h1 : q_m_takeBut_0 a_tape f_reached f_length f_begins f_sort f_value f_word f_wrongAt f_laterFault f_laterPlace a_read f_good x1 x2 x3 x4 post_1) (h2 : q_m_takeBut_0 a_tape f_reached f_length f_begins f_sort f_value f_word f_wrongAt f_laterFault f_laterPlace a_read f_good x1 x2 x3 x4 post_2) : q_m_takeBut_0 a_tape f_reached f_length f_begins f_sort f_value f_word f_wrongAt f_laterFault f_laterPlace a_read f_good x1 x2 x3 x4 post_3 := ⟨fun c1 => ⟨(h1.1 c1).1, fun v2 e3 => cj_q_m_in_0 (fun _ h4 h5 => ⟨fun c6 => cj_q_m_takeBut_44 h_post (h4.1 c6) (h5.1 c6), fun c7 => ⟨fun c8 => cj_q_m_takeBut_58 h_post ((h4.2 c7).1 c8) ((h5.2 c7).1 c8), fun c9 => cj_q_m_takeBut_44 h_post ((h4.2 c7).2 c9) ((h5.2 c7).2 c9)⟩⟩) ((h1.1 c1).2 v2 e3) ((h2.1 c1).2 v2 e3)⟩, fun c10 => cj_q_m_fails_0 (fun _ _ h11 h12 => ⟨h11.1, h_post _ _ _ _ _ _ _ _ _ _ _ h11.2 h12.2⟩) (h1.2 c10) (h2.2 c10)⟩
set_option maxRecDepth 40000 in
theorem cj_q_m_take_0 {a_tape : Nat → Int32} {f_reached : Int32} {f_length : Int32} {f_begins : Int32} {f_sort : Int32} {f_value : Int32} {f_word : Int64} {f_wrongAt : Int32} {f_laterFault : Int32} {f_laterPlace : Int32} {a_read : Nat → Int32} {f_good : Int32} {x1 : Int32} {x2 : Int32} {x3 : Int32} {post_1 post_2 post_3 : Int32 → (Int32) → (Int32) → (Int32) → (Int32) → (Int64) → (Int32) → (Int32) → (Int32) → (Nat → Int32) → (Int32) → Prop} (h_post : ∀ x0 x1 x2 x3 x4 x5 x6 x7 x8 x9 x10, post_1 x0 x1 x2 x3 x4 x5 x6 x7 x8 x9 x10 → post_2 x0 x1 x2 x3 x4 x5 x6 x7 x8 x9 x10 → post_3 x0 x1 x2 x3 x4 x5 x6 x7 x8 x9 x10) (h1 : q_m_take_0 a_tape f_reached f_length f_begins f_sort f_value f_word f_wrongAt f_laterFault f_laterPlace a_read f_good x1 x2 x3 post_1) (h2 : q_m_take_0 a_tape f_reached f_length f_begins f_sort f_value f_word f_wrongAt f_laterFault f_laterPlace a_read f_good x1 x2 x3 post_2) : q_m_take_0 a_tape f_reached f_length f_begins f_sort f_value f_word f_wrongAt f_laterFault f_laterPlace a_read f_good x1 x2 x3 post_3 := cj_q_m_takeBut_0 (fun _ _ _ _ _ _ _ _ _ _ _ h1 h2 => ⟨h1.1, h_post _ _ _ _ _ _ _ _ _ _ _ h1.2 h2.2⟩) h1 h2
set_option maxRecDepth 40000 in
theorem cj_q_m_plainLine_0 {a_tape : Nat → Int32} {f_reached : Int32} {f_length : Int32} {f_begins : Int32} {f_sort : Int32} {f_value : Int32} {f_word : Int64} {f_wrongAt : Int32} {f_laterFault : Int32} {f_laterPlace : Int32} {a_told : Nat → Int32} {a_read : Nat → Int32} {f_good : Int32} {x1 : Int32} {x2 : Int32} {x3 : Int32} {post_1 post_2 post_3 : Int32 → (Int32) → (Int32) → (Int32) → (Int32) → (Int64) → (Int32) → (Int32) → (Int32) → (Nat → Int32) → (Nat → Int32) → (Int32) → Prop} (h_post : ∀ x0 x1 x2 x3 x4 x5 x6 x7 x8 x9 x10 x11, post_1 x0 x1 x2 x3 x4 x5 x6 x7 x8 x9 x10 x11 → post_2 x0 x1 x2 x3 x4 x5 x6 x7 x8 x9 x10 x11 → post_3 x0 x1 x2 x3 x4 x5 x6 x7 x8 x9 x10 x11) (h1 : q_m_plainLine_0 a_tape f_reached f_length f_begins f_sort f_value f_word f_wrongAt f_laterFault f_laterPlace a_told a_read f_good x1 x2 x3 post_1) (h2 : q_m_plainLine_0 a_tape f_reached f_length f_begins f_sort f_value f_word f_wrongAt f_laterFault f_laterPlace a_told a_read f_good x1 x2 x3 post_2) : q_m_plainLine_0 a_tape f_reached f_length f_begins f_sort f_value f_word f_wrongAt f_laterFault f_laterPlace a_told a_read f_good x1 x2 x3 post_3 := cj_q_m_take_0 (fun _ _ _ _ _ _ _ _ _ _ _ h1 h2 => ⟨fun c3 => fun v4 e5 => ⟨((h1.1 c3) v4 e5).1, fun v6 e7 => h_post _ _ _ _ _ _ _ _ _ _ _ _ (((h1.1 c3) v4 e5).2 v6 e7) (((h2.1 c3) v4 e5).2 v6 e7)⟩, fun c8 => h_post _ _ _ _ _ _ _ _ _ _ _ _ (h1.2 c8) (h2.2 c8)⟩) h1 h2
set_option maxRecDepth 40000 in
theorem cj_q_m_choirLine_37 {a_tape : Nat → Int32} {f_reached : Int32} {f_length : Int32} {f_begins : Int32} {f_sort : Int32} {f_value : Int32} {f_word : Int64} {f_wrongAt : Int32} {f_laterFault : Int32} {f_laterPlace : Int32} {a_told : Nat → Int32} {a_read : Nat → Int32} {f_good : Int32} {x1 : Int64} {post_1 post_2 post_3 : Int32 → (Int32) → (Int32) → (Int32) → (Int32) → (Int64) → (Int32) → (Int32) → (Int32) → (Nat → Int32) → (Nat → Int32) → (Int32) → Prop} (h_post : ∀ x0 x1 x2 x3 x4 x5 x6 x7 x8 x9 x10 x11, post_1 x0 x1 x2 x3 x4 x5 x6 x7 x8 x9 x10 x11 → post_2 x0 x1 x2 x3 x4 x5 x6 x7 x8 x9 x10 x11 → post_3 x0 x1 x2 x3 x4 x5 x6 x7 x8 x9 x10 x11) (h1 : q_m_choirLine_37 a_tape f_reached f_length f_begins f_sort f_value f_word f_wrongAt f_laterFault f_laterPlace a_told a_read f_good x1 post_1) (h2 : q_m_choirLine_37 a_tape f_reached f_length f_begins f_sort f_value f_word f_wrongAt f_laterFault f_laterPlace a_told a_read f_good x1 post_2) : q_m_choirLine_37 a_tape f_reached f_length f_begins f_sort f_value f_word f_wrongAt f_laterFault f_laterPlace a_told a_read f_good x1 post_3 := cj_q_m_token_0 (fun _ _ _ _ _ h1 h2 => ⟨fun c3 => cj_q_m_take_0 (fun _ _ _ _ _ _ _ _ _ _ _ h4 h5 => ⟨fun c6 => h_post _ _ _ _ _ _ _ _ _ _ _ _ (h4.1 c6) (h5.1 c6), fun c7 => cj_q_m_take_0 (fun _ _ _ _ _ _ _ _ _ _ _ h8 h9 => ⟨fun c10 => cj_q_m_keep_0 (fun _ h11 h12 => h_post _ _ _ _ _ _ _ _ _ _ _ _ h11 h12) (h8.1 c10) (h9.1 c10), fun c13 => h_post _ _ _ _ _ _ _ _ _ _ _ _ (h8.2 c13) (h9.2 c13)⟩) (h4.2 c7) (h5.2 c7)⟩) (h1.1 c3) (h2.1 c3), fun c14 => cj_q_m_plainLine_0 (fun _ _ _ _ _ _ _ _ _ _ _ _ h15 h16 => ⟨h15.1, h_post _ _ _ _ _ _ _ _ _ _ _ _ h15.2 h16.2⟩) (h1.2 c14) (h2.2 c14)⟩) h1 h2
set_option maxRecDepth 40000 in
theorem cj_q_m_full_0 {f_laterFault : Int32} {f_laterPlace : Int32} {a_told : Nat → Int32} {x1 : Int32} {x2 : Int32} {x3 : Int32} {post_1 post_2 post_3 : (Int32) → (Int32) → Prop} (h_post : ∀ x0 x1, post_1 x0 x1 → post_2 x0 x1 → post_3 x0 x1) (h1 : q_m_full_0 f_laterFault f_laterPlace a_told x1 x2 x3 post_1) (h2 : q_m_full_0 f_laterFault f_laterPlace a_told x1 x2 x3 post_2) : q_m_full_0 f_laterFault f_laterPlace a_told x1 x2 x3 post_3 := ⟨h1.1, ⟨fun c1 => h_post _ _ (h1.2.1 c1) (h2.2.1 c1), fun c2 => cj_q_m_later_0 (fun _ _ h3 h4 => h_post _ _ h3 h4) (h1.2.2 c2) (h2.2.2 c2)⟩⟩
set_option maxRecDepth 40000 in
theorem cj_q_m_choirLine_21 {a_tape : Nat → Int32} {f_reached : Int32} {f_length : Int32} {f_begins : Int32} {f_sort : Int32} {f_value : Int32} {f_word : Int64} {f_wrongAt : Int32} {f_laterFault : Int32} {f_laterPlace : Int32} {a_told : Nat → Int32} {a_read : Nat → Int32} {f_good : Int32} {x1 : Int64} {x3 : Int32} {post_1 post_2 post_3 : Int32 → (Int32) → (Int32) → (Int32) → (Int32) → (Int64) → (Int32) → (Int32) → (Int32) → (Nat → Int32) → (Nat → Int32) → (Int32) → Prop} (h_post : ∀ x0 x1 x2 x3 x4 x5 x6 x7 x8 x9 x10 x11, post_1 x0 x1 x2 x3 x4 x5 x6 x7 x8 x9 x10 x11 → post_2 x0 x1 x2 x3 x4 x5 x6 x7 x8 x9 x10 x11 → post_3 x0 x1 x2 x3 x4 x5 x6 x7 x8 x9 x10 x11) (h1 : q_m_choirLine_21 a_tape f_reached f_length f_begins f_sort f_value f_word f_wrongAt f_laterFault f_laterPlace a_told a_read f_good x1 x3 post_1) (h2 : q_m_choirLine_21 a_tape f_reached f_length f_begins f_sort f_value f_word f_wrongAt f_laterFault f_laterPlace a_told a_read f_good x1 x3 post_2) : q_m_choirLine_21 a_tape f_reached f_length f_begins f_sort f_value f_word f_wrongAt f_laterFault f_laterPlace a_told a_read f_good x1 x3 post_3 := ⟨fun c1 => cj_q_m_choirLine_37 h_post (h1.1 c1) (h2.1 c1), fun c2 => cj_q_m_full_0 (fun _ _ h3 h4 => cj_q_m_choirLine_37 h_post h3 h4) (h1.2 c2) (h2.2 c2)⟩
set_option maxRecDepth 40000 in
theorem cj_q_m_choirLine_0 {a_tape : Nat → Int32} {f_reached : Int32} {f_length : Int32} {f_begins : Int32} {f_sort : Int32} {f_value : Int32} {f_word : Int64} {f_wrongAt : Int32} {f_laterFault : Int32} {f_laterPlace : Int32} {a_told : Nat → Int32} {a_read : Nat → Int32} {f_good : Int32} {x1 : Int64} {x3 : Int32} {post_1 post_2 post_3 : Int32 → (Int32) → (Int32) → (Int32) → (Int32) → (Int64) → (Int32) → (Int32) → (Int32) → (Nat → Int32) → (Nat → Int32) → (Int32) → Prop} (h_post : ∀ x0 x1 x2 x3 x4 x5 x6 x7 x8 x9 x10 x11, post_1 x0 x1 x2 x3 x4 x5 x6 x7 x8 x9 x10 x11 → post_2 x0 x1 x2 x3 x4 x5 x6 x7 x8 x9 x10 x11 → post_3 x0 x1 x2 x3 x4 x5 x6 x7 x8 x9 x10 x11) (h1 : q_m_choirLine_0 a_tape f_reached f_length f_begins f_sort f_value f_word f_wrongAt f_laterFault f_laterPlace a_told a_read f_good x1 x3 post_1) (h2 : q_m_choirLine_0 a_tape f_reached f_length f_begins f_sort f_value f_word f_wrongAt f_laterFault f_laterPlace a_told a_read f_good x1 x3 post_2) : q_m_choirLine_0 a_tape f_reached f_length f_begins f_sort f_value f_word f_wrongAt f_laterFault f_laterPlace a_told a_read f_good x1 x3 post_3 := ⟨fun c1 => cj_q_m_choirLine_21 h_post (h1.1 c1) (h2.1 c1), fun c2 => ⟨fun c3 => cj_q_m_choirLine_21 h_post ((h1.2 c2).1 c3) ((h2.2 c2).1 c3), fun c4 => cj_q_m_fails_0 (fun _ _ h5 h6 => ⟨h5.1, h_post _ _ _ _ _ _ _ _ _ _ _ _ h5.2 h6.2⟩) ((h1.2 c2).2 c4) ((h2.2 c2).2 c4)⟩⟩
set_option maxRecDepth 40000 in
theorem cj_q_m_deedBy_0 {x0 : Int64} {post_1 post_2 post_3 : Int32 → Prop} (h_post : ∀ x0, post_1 x0 → post_2 x0 → post_3 x0) (h1 : q_m_deedBy_0 x0 post_1) (h2 : q_m_deedBy_0 x0 post_2) : q_m_deedBy_0 x0 post_3 := ⟨fun c1 => ⟨fun c2 => ⟨fun c3 => ⟨fun c4 => ⟨fun c5 => ⟨fun c6 => h_post _ ((((((h1.1 c1).1 c2).1 c3).1 c4).1 c5).1 c6) ((((((h2.1 c1).1 c2).1 c3).1 c4).1 c5).1 c6), fun c7 => h_post _ ((((((h1.1 c1).1 c2).1 c3).1 c4).1 c5).2 c7) ((((((h2.1 c1).1 c2).1 c3).1 c4).1 c5).2 c7)⟩, fun c8 => h_post _ (((((h1.1 c1).1 c2).1 c3).1 c4).2 c8) (((((h2.1 c1).1 c2).1 c3).1 c4).2 c8)⟩, fun c9 => h_post _ ((((h1.1 c1).1 c2).1 c3).2 c9) ((((h2.1 c1).1 c2).1 c3).2 c9)⟩, fun c10 => h_post _ (((h1.1 c1).1 c2).2 c10) (((h2.1 c1).1 c2).2 c10)⟩, fun c11 => h_post _ ((h1.1 c1).2 c11) ((h2.1 c1).2 c11)⟩, fun c12 => h_post _ (h1.2 c12) (h2.2 c12)⟩
set_option maxRecDepth 40000 in
theorem cj_q_m_eveningLine_75 {a_tape : Nat → Int32} {f_reached : Int32} {f_length : Int32} {f_begins : Int32} {f_sort : Int32} {f_value : Int32} {f_word : Int64} {f_wrongAt : Int32} {f_laterFault : Int32} {f_laterPlace : Int32} {a_told : Nat → Int32} {a_read : Nat → Int32} {f_good : Int32} {x4 : Int32} {post_1 post_2 post_3 : Int32 → (Int32) → (Int32) → (Int32) → (Int32) → (Int64) → (Int32) → (Int32) → (Int32) → (Nat → Int32) → (Nat → Int32) → (Int32) → Prop} (h_post : ∀ x0 x1 x2 x3 x4 x5 x6 x7 x8 x9 x10 x11, post_1 x0 x1 x2 x3 x4 x5 x6 x7 x8 x9 x10 x11 → post_2 x0 x1 x2 x3 x4 x5 x6 x7 x8 x9 x10 x11 → post_3 x0 x1 x2 x3 x4 x5 x6 x7 x8 x9 x10 x11) (h1 : q_m_eveningLine_75 a_tape f_reached f_length f_begins f_sort f_value f_word f_wrongAt f_laterFault f_laterPlace a_told a_read f_good x4 post_1) (h2 : q_m_eveningLine_75 a_tape f_reached f_length f_begins f_sort f_value f_word f_wrongAt f_laterFault f_laterPlace a_told a_read f_good x4 post_2) : q_m_eveningLine_75 a_tape f_reached f_length f_begins f_sort f_value f_word f_wrongAt f_laterFault f_laterPlace a_told a_read f_good x4 post_3 := fun v1 e2 => cj_q_m_keep_0 (fun _ h3 h4 => h_post _ _ _ _ _ _ _ _ _ _ _ _ h3 h4) (h1 v1 e2) (h2 v1 e2)
set_option maxRecDepth 40000 in
theorem cj_q_m_eveningLine_67 {a_tape : Nat → Int32} {f_reached : Int32} {f_length : Int32} {f_begins : Int32} {f_sort : Int32} {f_value : Int32} {f_word : Int64} {f_wrongAt : Int32} {f_laterFault : Int32} {f_laterPlace : Int32} {a_told : Nat → Int32} {a_read : Nat → Int32} {f_good : Int32} {x4 : Int32} {y0 : Int32} {y1 : Int32} {y2 : Int32} {post_1 post_2 post_3 : Int32 → (Int32) → (Int32) → (Int32) → (Int32) → (Int64) → (Int32) → (Int32) → (Int32) → (Nat → Int32) → (Nat → Int32) → (Int32) → Prop} (h_post : ∀ x0 x1 x2 x3 x4 x5 x6 x7 x8 x9 x10 x11, post_1 x0 x1 x2 x3 x4 x5 x6 x7 x8 x9 x10 x11 → post_2 x0 x1 x2 x3 x4 x5 x6 x7 x8 x9 x10 x11 → post_3 x0 x1 x2 x3 x4 x5 x6 x7 x8 x9 x10 x11) (h1 : q_m_eveningLine_67 a_tape f_reached f_length f_begins f_sort f_value f_word f_wrongAt f_laterFault f_laterPlace a_told a_read f_good x4 y0 y1 y2 post_1) (h2 : q_m_eveningLine_67 a_tape f_reached f_length f_begins f_sort f_value f_word f_wrongAt f_laterFault f_laterPlace a_told a_read f_good x4 y0 y1 y2 post_2) : q_m_eveningLine_67 a_tape f_reached f_length f_begins f_sort f_value f_word f_wrongAt f_laterFault f_laterPlace a_told a_read f_good x4 y0 y1 y2 post_3 := cj_q_m_take_0 (fun _ _ _ _ _ _ _ _ _ _ _ h1 h2 => ⟨fun c3 => cj_q_m_eveningLine_75 h_post (h1.1 c3) (h2.1 c3), fun c4 => h_post _ _ _ _ _ _ _ _ _ _ _ _ (h1.2 c4) (h2.2 c4)⟩) h1 h2
set_option maxRecDepth 40000 in
theorem cj_q_m_eveningLine_0 {a_tape : Nat → Int32} {f_reached : Int32} {f_length : Int32} {f_begins : Int32} {f_sort : Int32} {f_value : Int32} {f_word : Int64} {f_wrongAt : Int32} {f_laterFault : Int32} {f_laterPlace : Int32} {a_told : Nat → Int32} {a_read : Nat → Int32} {f_good : Int32} {x1 : Int64} {x3 : Int32} {post_1 post_2 post_3 : Int32 → (Int32) → (Int32) → (Int32) → (Int32) → (Int64) → (Int32) → (Int32) → (Int32) → (Nat → Int32) → (Nat → Int32) → (Int32) → Prop} (h_post : ∀ x0 x1 x2 x3 x4 x5 x6 x7 x8 x9 x10 x11, post_1 x0 x1 x2 x3 x4 x5 x6 x7 x8 x9 x10 x11 → post_2 x0 x1 x2 x3 x4 x5 x6 x7 x8 x9 x10 x11 → post_3 x0 x1 x2 x3 x4 x5 x6 x7 x8 x9 x10 x11) (h1 : q_m_eveningLine_0 a_tape f_reached f_length f_begins f_sort f_value f_word f_wrongAt f_laterFault f_laterPlace a_told a_read f_good x1 x3 post_1) (h2 : q_m_eveningLine_0 a_tape f_reached f_length f_begins f_sort f_value f_word f_wrongAt f_laterFault f_laterPlace a_told a_read f_good x1 x3 post_2) : q_m_eveningLine_0 a_tape f_reached f_length f_begins f_sort f_value f_word f_wrongAt f_laterFault f_laterPlace a_told a_read f_good x1 x3 post_3 := cj_q_m_deedBy_0 (fun _ h1 h2 => ⟨fun c3 => cj_q_m_full_0 (fun _ _ h4 h5 => cj_q_m_token_0 (fun _ _ _ _ _ h6 h7 => fun v8 e9 => cj_q_m_take_0 (fun _ _ _ _ _ _ _ _ _ _ _ h10 h11 => ⟨fun c12 => h_post _ _ _ _ _ _ _ _ _ _ _ _ (h10.1 c12) (h11.1 c12), fun c13 => ⟨fun c14 => cj_q_m_eveningLine_75 h_post ((h10.2 c13).1 c14) ((h11.2 c13).1 c14), fun c15 => ⟨fun c16 => cj_q_m_eveningLine_67 h_post (((h10.2 c13).2 c15).1 c16) (((h11.2 c13).2 c15).1 c16), fun c17 => cj_q_m_eveningLine_67 h_post (((h10.2 c13).2 c15).2 c17) (((h11.2 c13).2 c15).2 c17)⟩⟩⟩) (h6 v8 e9) (h7 v8 e9)) h4 h5) (h1.1 c3) (h2.1 c3), fun c18 => cj_q_m_fails_0 (fun _ _ h19 h20 => ⟨h19.1, h_post _ _ _ _ _ _ _ _ _ _ _ _ h19.2 h20.2⟩) (h1.2 c18) (h2.2 c18)⟩) h1 h2
set_option maxRecDepth 40000 in
theorem cj_q_m_isLandWord_80 {post_1 post_2 post_3 : Int32 → Prop} (h_post : ∀ x0, post_1 x0 → post_2 x0 → post_3 x0) (h1 : q_m_isLandWord_80 post_1) (h2 : q_m_isLandWord_80 post_2) : q_m_isLandWord_80 post_3 := h_post _ h1 h2
set_option maxRecDepth 40000 in
theorem cj_q_m_isLandWord_0 {x1 : Int64} {post_1 post_2 post_3 : Int32 → Prop} (h_post : ∀ x0, post_1 x0 → post_2 x0 → post_3 x0) (h1 : q_m_isLandWord_0 x1 post_1) (h2 : q_m_isLandWord_0 x1 post_2) : q_m_isLandWord_0 x1 post_3 := ⟨fun c1 => cj_q_m_isLandWord_80 h_post (h1.1 c1) (h2.1 c1), fun c2 => ⟨fun c3 => cj_q_m_isLandWord_80 h_post ((h1.2 c2).1 c3) ((h2.2 c2).1 c3), fun c4 => ⟨fun c5 => cj_q_m_isLandWord_80 h_post (((h1.2 c2).2 c4).1 c5) (((h2.2 c2).2 c4).1 c5), fun c6 => ⟨fun c7 => cj_q_m_isLandWord_80 h_post ((((h1.2 c2).2 c4).2 c6).1 c7) ((((h2.2 c2).2 c4).2 c6).1 c7), fun c8 => ⟨fun c9 => cj_q_m_isLandWord_80 h_post (((((h1.2 c2).2 c4).2 c6).2 c8).1 c9) (((((h2.2 c2).2 c4).2 c6).2 c8).1 c9), fun c10 => ⟨fun c11 => cj_q_m_isLandWord_80 h_post ((((((h1.2 c2).2 c4).2 c6).2 c8).2 c10).1 c11) ((((((h2.2 c2).2 c4).2 c6).2 c8).2 c10).1 c11), fun c12 => ⟨fun c13 => cj_q_m_isLandWord_80 h_post (((((((h1.2 c2).2 c4).2 c6).2 c8).2 c10).2 c12).1 c13) (((((((h2.2 c2).2 c4).2 c6).2 c8).2 c10).2 c12).1 c13), fun c14 => ⟨fun c15 => cj_q_m_isLandWord_80 h_post ((((((((h1.2 c2).2 c4).2 c6).2 c8).2 c10).2 c12).2 c14).1 c15) ((((((((h2.2 c2).2 c4).2 c6).2 c8).2 c10).2 c12).2 c14).1 c15), fun c16 => ⟨fun c17 => cj_q_m_isLandWord_80 h_post (((((((((h1.2 c2).2 c4).2 c6).2 c8).2 c10).2 c12).2 c14).2 c16).1 c17) (((((((((h2.2 c2).2 c4).2 c6).2 c8).2 c10).2 c12).2 c14).2 c16).1 c17), fun c18 => ⟨fun c19 => h_post _ ((((((((((h1.2 c2).2 c4).2 c6).2 c8).2 c10).2 c12).2 c14).2 c16).2 c18).1 c19) ((((((((((h2.2 c2).2 c4).2 c6).2 c8).2 c10).2 c12).2 c14).2 c16).2 c18).1 c19), fun c20 => cj_q_m_isLandWord_80 h_post ((((((((((h1.2 c2).2 c4).2 c6).2 c8).2 c10).2 c12).2 c14).2 c16).2 c18).2 c20) ((((((((((h2.2 c2).2 c4).2 c6).2 c8).2 c10).2 c12).2 c14).2 c16).2 c18).2 c20)⟩⟩⟩⟩⟩⟩⟩⟩⟩⟩
set_option maxRecDepth 40000 in
theorem cj_q_m_greater_0 {x0 : Int32} {x1 : Int32} {post_1 post_2 post_3 : Int32 → Prop} (h_post : ∀ x0, post_1 x0 → post_2 x0 → post_3 x0) (h1 : q_m_greater_0 x0 x1 post_1) (h2 : q_m_greater_0 x0 x1 post_2) : q_m_greater_0 x0 x1 post_3 := ⟨fun c1 => h_post _ (h1.1 c1) (h2.1 c1), fun c2 => h_post _ (h1.2 c2) (h2.2 c2)⟩
set_option maxRecDepth 40000 in
theorem cj_q_m_takeHut_0 {a_tape : Nat → Int32} {f_reached : Int32} {f_length : Int32} {f_begins : Int32} {f_sort : Int32} {f_value : Int32} {f_word : Int64} {f_wrongAt : Int32} {f_laterFault : Int32} {f_laterPlace : Int32} {a_read : Nat → Int32} {f_farHut : Int32} {f_good : Int32} {x1 : Int32} {x2 : Int32} {post_1 post_2 post_3 : Int32 → (Int32) → (Int32) → (Int32) → (Int32) → (Int64) → (Int32) → (Int32) → (Int32) → (Nat → Int32) → (Int32) → (Int32) → Prop} (h_post : ∀ x0 x1 x2 x3 x4 x5 x6 x7 x8 x9 x10 x11, post_1 x0 x1 x2 x3 x4 x5 x6 x7 x8 x9 x10 x11 → post_2 x0 x1 x2 x3 x4 x5 x6 x7 x8 x9 x10 x11 → post_3 x0 x1 x2 x3 x4 x5 x6 x7 x8 x9 x10 x11) (h1 : q_m_takeHut_0 a_tape f_reached f_length f_begins f_sort f_value f_word f_wrongAt f_laterFault f_laterPlace a_read f_farHut f_good x1 x2 post_1) (h2 : q_m_takeHut_0 a_tape f_reached f_length f_begins f_sort f_value f_word f_wrongAt f_laterFault f_laterPlace a_read f_farHut f_good x1 x2 post_2) : q_m_takeHut_0 a_tape f_reached f_length f_begins f_sort f_value f_word f_wrongAt f_laterFault f_laterPlace a_read f_farHut f_good x1 x2 post_3 := cj_q_m_takeBut_0 (fun _ _ _ _ _ _ _ _ _ _ _ h1 h2 => ⟨fun c3 => ⟨(h1.1 c3).1, cj_q_m_greater_0 (fun _ h4 h5 => h_post _ _ _ _ _ _ _ _ _ _ _ _ h4 h5) (h1.1 c3).2 (h2.1 c3).2⟩, fun c6 => h_post _ _ _ _ _ _ _ _ _ _ _ _ (h1.2 c6) (h2.2 c6)⟩) h1 h2
set_option maxRecDepth 40000 in
theorem cj_q_m_echoLine_0 {a_tape : Nat → Int32} {f_reached : Int32} {f_length : Int32} {f_begins : Int32} {f_sort : Int32} {f_value : Int32} {f_word : Int64} {f_wrongAt : Int32} {f_laterFault : Int32} {f_laterPlace : Int32} {a_told : Nat → Int32} {a_read : Nat → Int32} {f_farHut : Int32} {f_good : Int32} {post_1 post_2 post_3 : Int32 → (Int32) → (Int32) → (Int32) → (Int32) → (Int64) → (Int32) → (Int32) → (Int32) → (Nat → Int32) → (Nat → Int32) → (Int32) → (Int32) → Prop} (h_post : ∀ x0 x1 x2 x3 x4 x5 x6 x7 x8 x9 x10 x11 x12, post_1 x0 x1 x2 x3 x4 x5 x6 x7 x8 x9 x10 x11 x12 → post_2 x0 x1 x2 x3 x4 x5 x6 x7 x8 x9 x10 x11 x12 → post_3 x0 x1 x2 x3 x4 x5 x6 x7 x8 x9 x10 x11 x12) (h1 : q_m_echoLine_0 a_tape f_reached f_length f_begins f_sort f_value f_word f_wrongAt f_laterFault f_laterPlace a_told a_read f_farHut f_good post_1) (h2 : q_m_echoLine_0 a_tape f_reached f_length f_begins f_sort f_value f_word f_wrongAt f_laterFault f_laterPlace a_told a_read f_farHut f_good post_2) : q_m_echoLine_0 a_tape f_reached f_length f_begins f_sort f_value f_word f_wrongAt f_laterFault f_laterPlace a_told a_read f_farHut f_good post_3 := cj_q_m_takeHut_0 (fun _ _ _ _ _ _ _ _ _ _ _ _ h1 h2 => ⟨fun c3 => h_post _ _ _ _ _ _ _ _ _ _ _ _ _ (h1.1 c3) (h2.1 c3), fun c4 => cj_q_m_takeHut_0 (fun _ _ _ _ _ _ _ _ _ _ _ _ h5 h6 => ⟨fun c7 => cj_q_m_further_0 (fun _ _ h8 h9 => ⟨fun c10 => h_post _ _ _ _ _ _ _ _ _ _ _ _ _ (h8.1 c10) (h9.1 c10), fun c11 => fun v12 e13 => ⟨((h8.2 c11) v12 e13).1, fun v14 e15 => fun v16 e17 => ⟨((((h8.2 c11) v12 e13).2 v14 e15) v16 e17).1, fun v18 e19 => h_post _ _ _ _ _ _ _ _ _ _ _ _ _ (((((h8.2 c11) v12 e13).2 v14 e15) v16 e17).2 v18 e19) (((((h9.2 c11) v12 e13).2 v14 e15) v16 e17).2 v18 e19)⟩⟩⟩) (h5.1 c7) (h6.1 c7), fun c20 => h_post _ _ _ _ _ _ _ _ _ _ _ _ _ (h5.2 c20) (h6.2 c20)⟩) (h1.2 c4) (h2.2 c4)⟩) h1 h2
set_option maxRecDepth 40000 in
theorem cj_q_m_hutLine_0 {a_tape : Nat → Int32} {f_reached : Int32} {f_length : Int32} {f_begins : Int32} {f_sort : Int32} {f_value : Int32} {f_word : Int64} {f_wrongAt : Int32} {f_laterFault : Int32} {f_laterPlace : Int32} {a_told : Nat → Int32} {a_read : Nat → Int32} {f_good : Int32} {post_1 post_2 post_3 : Int32 → (Int32) → (Int32) → (Int32) → (Int32) → (Int64) → (Int32) → (Int32) → (Int32) → (Nat → Int32) → (Nat → Int32) → (Int32) → Prop} (h_post : ∀ x0 x1 x2 x3 x4 x5 x6 x7 x8 x9 x10 x11, post_1 x0 x1 x2 x3 x4 x5 x6 x7 x8 x9 x10 x11 → post_2 x0 x1 x2 x3 x4 x5 x6 x7 x8 x9 x10 x11 → post_3 x0 x1 x2 x3 x4 x5 x6 x7 x8 x9 x10 x11) (h1 : q_m_hutLine_0 a_tape f_reached f_length f_begins f_sort f_value f_word f_wrongAt f_laterFault f_laterPlace a_told a_read f_good post_1) (h2 : q_m_hutLine_0 a_tape f_reached f_length f_begins f_sort f_value f_word f_wrongAt f_laterFault f_laterPlace a_told a_read f_good post_2) : q_m_hutLine_0 a_tape f_reached f_length f_begins f_sort f_value f_word f_wrongAt f_laterFault f_laterPlace a_told a_read f_good post_3 := cj_q_m_take_0 (fun _ _ _ _ _ _ _ _ _ _ _ h1 h2 => ⟨fun c3 => cj_q_m_further_0 (fun _ _ h4 h5 => ⟨fun c6 => h_post _ _ _ _ _ _ _ _ _ _ _ _ (h4.1 c6) (h5.1 c6), fun c7 => fun v8 e9 => ⟨((h4.2 c7) v8 e9).1, fun v10 e11 => h_post _ _ _ _ _ _ _ _ _ _ _ _ (((h4.2 c7) v8 e9).2 v10 e11) (((h5.2 c7) v8 e9).2 v10 e11)⟩⟩) (h1.1 c3) (h2.1 c3), fun c12 => h_post _ _ _ _ _ _ _ _ _ _ _ _ (h1.2 c12) (h2.2 c12)⟩) h1 h2
set_option maxRecDepth 40000 in
theorem cj_q_m_knowsLine_0 {a_tape : Nat → Int32} {f_reached : Int32} {f_length : Int32} {f_begins : Int32} {f_sort : Int32} {f_value : Int32} {f_word : Int64} {f_wrongAt : Int32} {f_laterFault : Int32} {f_laterPlace : Int32} {a_told : Nat → Int32} {a_read : Nat → Int32} {f_farSinger : Int32} {f_good : Int32} {post_1 post_2 post_3 : Int32 → (Int32) → (Int32) → (Int32) → (Int32) → (Int64) → (Int32) → (Int32) → (Int32) → (Nat → Int32) → (Nat → Int32) → (Int32) → (Int32) → Prop} (h_post : ∀ x0 x1 x2 x3 x4 x5 x6 x7 x8 x9 x10 x11 x12, post_1 x0 x1 x2 x3 x4 x5 x6 x7 x8 x9 x10 x11 x12 → post_2 x0 x1 x2 x3 x4 x5 x6 x7 x8 x9 x10 x11 x12 → post_3 x0 x1 x2 x3 x4 x5 x6 x7 x8 x9 x10 x11 x12) (h1 : q_m_knowsLine_0 a_tape f_reached f_length f_begins f_sort f_value f_word f_wrongAt f_laterFault f_laterPlace a_told a_read f_farSinger f_good post_1) (h2 : q_m_knowsLine_0 a_tape f_reached f_length f_begins f_sort f_value f_word f_wrongAt f_laterFault f_laterPlace a_told a_read f_farSinger f_good post_2) : q_m_knowsLine_0 a_tape f_reached f_length f_begins f_sort f_value f_word f_wrongAt f_laterFault f_laterPlace a_told a_read f_farSinger f_good post_3 := cj_q_m_take_0 (fun _ _ _ _ _ _ _ _ _ _ _ h1 h2 => ⟨fun c3 => h_post _ _ _ _ _ _ _ _ _ _ _ _ _ (h1.1 c3) (h2.1 c3), fun c4 => cj_q_m_take_0 (fun _ _ _ _ _ _ _ _ _ _ _ h5 h6 => ⟨fun c7 => cj_q_m_greater_0 (fun _ h8 h9 => ⟨fun c10 => h_post _ _ _ _ _ _ _ _ _ _ _ _ _ (h8.1 c10) (h9.1 c10), fun c11 => ⟨(h8.2 c11).1, fun v12 e13 => ⟨((h8.2 c11).2 v12 e13).1, fun v14 e15 => h_post _ _ _ _ _ _ _ _ _ _ _ _ _ (((h8.2 c11).2 v12 e13).2 v14 e15) (((h9.2 c11).2 v12 e13).2 v14 e15)⟩⟩⟩) (h5.1 c7) (h6.1 c7), fun c16 => h_post _ _ _ _ _ _ _ _ _ _ _ _ _ (h5.2 c16) (h6.2 c16)⟩) (h1.2 c4) (h2.2 c4)⟩) h1 h2
set_option maxRecDepth 40000 in
theorem cj_q_m_ladderLine_0 {a_tape : Nat → Int32} {f_reached : Int32} {f_length : Int32} {f_begins : Int32} {f_sort : Int32} {f_value : Int32} {f_word : Int64} {f_wrongAt : Int32} {f_laterFault : Int32} {f_laterPlace : Int32} {a_told : Nat → Int32} {a_read : Nat → Int32} {f_farHut : Int32} {f_good : Int32} {post_1 post_2 post_3 : Int32 → (Int32) → (Int32) → (Int32) → (Int32) → (Int64) → (Int32) → (Int32) → (Int32) → (Nat → Int32) → (Nat → Int32) → (Int32) → (Int32) → Prop} (h_post : ∀ x0 x1 x2 x3 x4 x5 x6 x7 x8 x9 x10 x11 x12, post_1 x0 x1 x2 x3 x4 x5 x6 x7 x8 x9 x10 x11 x12 → post_2 x0 x1 x2 x3 x4 x5 x6 x7 x8 x9 x10 x11 x12 → post_3 x0 x1 x2 x3 x4 x5 x6 x7 x8 x9 x10 x11 x12) (h1 : q_m_ladderLine_0 a_tape f_reached f_length f_begins f_sort f_value f_word f_wrongAt f_laterFault f_laterPlace a_told a_read f_farHut f_good post_1) (h2 : q_m_ladderLine_0 a_tape f_reached f_length f_begins f_sort f_value f_word f_wrongAt f_laterFault f_laterPlace a_told a_read f_farHut f_good post_2) : q_m_ladderLine_0 a_tape f_reached f_length f_begins f_sort f_value f_word f_wrongAt f_laterFault f_laterPlace a_told a_read f_farHut f_good post_3 := cj_q_m_takeHut_0 (fun _ _ _ _ _ _ _ _ _ _ _ _ h1 h2 => ⟨fun c3 => h_post _ _ _ _ _ _ _ _ _ _ _ _ _ (h1.1 c3) (h2.1 c3), fun c4 => cj_q_m_take_0 (fun _ _ _ _ _ _ _ _ _ _ _ h5 h6 => ⟨fun c7 => ⟨fun c8 => h_post _ _ _ _ _ _ _ _ _ _ _ _ _ ((h5.1 c7).1 c8) ((h6.1 c7).1 c8), fun c9 => fun v10 e11 => ⟨(((h5.1 c7).2 c9) v10 e11).1, fun v12 e13 => h_post _ _ _ _ _ _ _ _ _ _ _ _ _ ((((h5.1 c7).2 c9) v10 e11).2 v12 e13) ((((h6.1 c7).2 c9) v10 e11).2 v12 e13)⟩⟩, fun c14 => h_post _ _ _ _ _ _ _ _ _ _ _ _ _ (h5.2 c14) (h6.2 c14)⟩) (h1.2 c4) (h2.2 c4)⟩) h1 h2
set_option maxRecDepth 40000 in
theorem cj_q_m_bitLine_37 {a_tape : Nat → Int32} {f_reached : Int32} {f_length : Int32} {f_begins : Int32} {f_sort : Int32} {f_value : Int32} {f_word : Int64} {f_wrongAt : Int32} {f_laterFault : Int32} {f_laterPlace : Int32} {a_told : Nat → Int32} {a_read : Nat → Int32} {f_farHut : Int32} {f_good : Int32} {y0 : Int32} {y1 : Int32} {y2 : Int32} {post_1 post_2 post_3 : Int32 → (Int32) → (Int32) → (Int32) → (Int32) → (Int64) → (Int32) → (Int32) → (Int32) → (Nat → Int32) → (Nat → Int32) → (Int32) → (Int32) → Prop} (h_post : ∀ x0 x1 x2 x3 x4 x5 x6 x7 x8 x9 x10 x11 x12, post_1 x0 x1 x2 x3 x4 x5 x6 x7 x8 x9 x10 x11 x12 → post_2 x0 x1 x2 x3 x4 x5 x6 x7 x8 x9 x10 x11 x12 → post_3 x0 x1 x2 x3 x4 x5 x6 x7 x8 x9 x10 x11 x12) (h1 : q_m_bitLine_37 a_tape f_reached f_length f_begins f_sort f_value f_word f_wrongAt f_laterFault f_laterPlace a_told a_read f_farHut f_good y0 y1 y2 post_1) (h2 : q_m_bitLine_37 a_tape f_reached f_length f_begins f_sort f_value f_word f_wrongAt f_laterFault f_laterPlace a_told a_read f_farHut f_good y0 y1 y2 post_2) : q_m_bitLine_37 a_tape f_reached f_length f_begins f_sort f_value f_word f_wrongAt f_laterFault f_laterPlace a_told a_read f_farHut f_good y0 y1 y2 post_3 := fun v1 e2 => ⟨(h1 v1 e2).1, fun v3 e4 => h_post _ _ _ _ _ _ _ _ _ _ _ _ _ ((h1 v1 e2).2 v3 e4) ((h2 v1 e2).2 v3 e4)⟩
set_option maxRecDepth 40000 in
theorem cj_q_m_bitLine_0 {a_tape : Nat → Int32} {f_reached : Int32} {f_length : Int32} {f_begins : Int32} {f_sort : Int32} {f_value : Int32} {f_word : Int64} {f_wrongAt : Int32} {f_laterFault : Int32} {f_laterPlace : Int32} {a_told : Nat → Int32} {a_read : Nat → Int32} {f_farHut : Int32} {f_good : Int32} {x1 : Int32} {post_1 post_2 post_3 : Int32 → (Int32) → (Int32) → (Int32) → (Int32) → (Int64) → (Int32) → (Int32) → (Int32) → (Nat → Int32) → (Nat → Int32) → (Int32) → (Int32) → Prop} (h_post : ∀ x0 x1 x2 x3 x4 x5 x6 x7 x8 x9 x10 x11 x12, post_1 x0 x1 x2 x3 x4 x5 x6 x7 x8 x9 x10 x11 x12 → post_2 x0 x1 x2 x3 x4 x5 x6 x7 x8 x9 x10 x11 x12 → post_3 x0 x1 x2 x3 x4 x5 x6 x7 x8 x9 x10 x11 x12) (h1 : q_m_bitLine_0 a_tape f_reached f_length f_begins f_sort f_value f_word f_wrongAt f_laterFault f_laterPlace a_told a_read f_farHut f_good x1 post_1) (h2 : q_m_bitLine_0 a_tape f_reached f_length f_begins f_sort f_value f_word f_wrongAt f_laterFault f_laterPlace a_told a_read f_farHut f_good x1 post_2) : q_m_bitLine_0 a_tape f_reached f_length f_begins f_sort f_value f_word f_wrongAt f_laterFault f_laterPlace a_told a_read f_farHut f_good x1 post_3 := cj_q_m_takeHut_0 (fun _ _ _ _ _ _ _ _ _ _ _ _ h1 h2 => ⟨fun c3 => ⟨(h1.1 c3).1, ⟨fun c4 => cj_q_m_bitLine_37 h_post ((h1.1 c3).2.1 c4) ((h2.1 c3).2.1 c4), fun c5 => cj_q_m_bitLine_37 h_post ((h1.1 c3).2.2 c5) ((h2.1 c3).2.2 c5)⟩⟩, fun c6 => h_post _ _ _ _ _ _ _ _ _ _ _ _ _ (h1.2 c6) (h2.2 c6)⟩) h1 h2
set_option maxRecDepth 40000 in
theorem cj_q_m_landLine_107 {a_tape : Nat → Int32} {f_reached : Int32} {f_length : Int32} {f_begins : Int32} {f_sort : Int32} {f_value : Int32} {f_word : Int64} {f_wrongAt : Int32} {f_laterFault : Int32} {f_laterPlace : Int32} {a_told : Nat → Int32} {a_read : Nat → Int32} {f_farHut : Int32} {f_farSinger : Int32} {f_good : Int32} {y0 : Int32} {post_1 post_2 post_3 : Int32 → (Int32) → (Int32) → (Int32) → (Int32) → (Int64) → (Int32) → (Int32) → (Int32) → (Nat → Int32) → (Nat → Int32) → (Int32) → (Int32) → (Int32) → Prop} (h_post : ∀ x0 x1 x2 x3 x4 x5 x6 x7 x8 x9 x10 x11 x12 x13, post_1 x0 x1 x2 x3 x4 x5 x6 x7 x8 x9 x10 x11 x12 x13 → post_2 x0 x1 x2 x3 x4 x5 x6 x7 x8 x9 x10 x11 x12 x13 → post_3 x0 x1 x2 x3 x4 x5 x6 x7 x8 x9 x10 x11 x12 x13) (h1 : q_m_landLine_107 a_tape f_reached f_length f_begins f_sort f_value f_word f_wrongAt f_laterFault f_laterPlace a_told a_read f_farHut f_farSinger f_good y0 post_1) (h2 : q_m_landLine_107 a_tape f_reached f_length f_begins f_sort f_value f_word f_wrongAt f_laterFault f_laterPlace a_told a_read f_farHut f_farSinger f_good y0 post_2) : q_m_landLine_107 a_tape f_reached f_length f_begins f_sort f_value f_word f_wrongAt f_laterFault f_laterPlace a_told a_read f_farHut f_farSinger f_good y0 post_3 := cj_q_m_bitLine_0 (fun _ _ _ _ _ _ _ _ _ _ _ _ _ h1 h2 => ⟨h1.1, h_post _ _ _ _ _ _ _ _ _ _ _ _ _ _ h1.2 h2.2⟩) h1 h2
set_option maxRecDepth 40000 in
theorem cj_q_m_landLine_93 {a_tape : Nat → Int32} {f_reached : Int32} {f_length : Int32} {f_begins : Int32} {f_sort : Int32} {f_value : Int32} {f_word : Int64} {f_wrongAt : Int32} {f_laterFault : Int32} {f_laterPlace : Int32} {a_told : Nat → Int32} {a_read : Nat → Int32} {f_farHut : Int32} {f_farSinger : Int32} {f_good : Int32} {x1 : Int64} {post_1 post_2 post_3 : Int32 → (Int32) → (Int32) → (Int32) → (Int32) → (Int64) → (Int32) → (Int32) → (Int32) → (Nat → Int32) → (Nat → Int32) → (Int32) → (Int32) → (Int32) → Prop} (h_post : ∀ x0 x1 x2 x3 x4 x5 x6 x7 x8 x9 x10 x11 x12 x13, post_1 x0 x1 x2 x3 x4 x5 x6 x7 x8 x9 x10 x11 x12 x13 → post_2 x0 x1 x2 x3 x4 x5 x6 x7 x8 x9 x10 x11 x12 x13 → post_3 x0 x1 x2 x3 x4 x5 x6 x7 x8 x9 x10 x11 x12 x13) (h1 : q_m_landLine_93 a_tape f_reached f_length f_begins f_sort f_value f_word f_wrongAt f_laterFault f_laterPlace a_told a_read f_farHut f_farSinger f_good x1 post_1) (h2 : q_m_landLine_93 a_tape f_reached f_length f_begins f_sort f_value f_word f_wrongAt f_laterFault f_laterPlace a_told a_read f_farHut f_farSinger f_good x1 post_2) : q_m_landLine_93 a_tape f_reached f_length f_begins f_sort f_value f_word f_wrongAt f_laterFault f_laterPlace a_told a_read f_farHut f_farSinger f_good x1 post_3 := ⟨fun c1 => cj_q_m_landLine_107 h_post (h1.1 c1) (h2.1 c1), fun c2 => cj_q_m_landLine_107 h_post (h1.2 c2) (h2.2 c2)⟩
set_option maxRecDepth 40000 in
theorem cj_q_m_singerLine_0 {a_tape : Nat → Int32} {f_reached : Int32} {f_length : Int32} {f_begins : Int32} {f_sort : Int32} {f_value : Int32} {f_word : Int64} {f_wrongAt : Int32} {f_laterFault : Int32} {f_laterPlace : Int32} {a_told : Nat → Int32} {a_read : Nat → Int32} {f_farHut : Int32} {f_good : Int32} {post_1 post_2 post_3 : Int32 → (Int32) → (Int32) → (Int32) → (Int32) → (Int64) → (Int32) → (Int32) → (Int32) → (Nat → Int32) → (Nat → Int32) → (Int32) → (Int32) → Prop} (h_post : ∀ x0 x1 x2 x3 x4 x5 x6 x7 x8 x9 x10 x11 x12, post_1 x0 x1 x2 x3 x4 x5 x6 x7 x8 x9 x10 x11 x12 → post_2 x0 x1 x2 x3 x4 x5 x6 x7 x8 x9 x10 x11 x12 → post_3 x0 x1 x2 x3 x4 x5 x6 x7 x8 x9 x10 x11 x12) (h1 : q_m_singerLine_0 a_tape f_reached f_length f_begins f_sort f_value f_word f_wrongAt f_laterFault f_laterPlace a_told a_read f_farHut f_good post_1) (h2 : q_m_singerLine_0 a_tape f_reached f_length f_begins f_sort f_value f_word f_wrongAt f_laterFault f_laterPlace a_told a_read f_farHut f_good post_2) : q_m_singerLine_0 a_tape f_reached f_length f_begins f_sort f_value f_word f_wrongAt f_laterFault f_laterPlace a_told a_read f_farHut f_good post_3 := cj_q_m_takeHut_0 (fun _ _ _ _ _ _ _ _ _ _ _ _ h1 h2 => ⟨fun c3 => h_post _ _ _ _ _ _ _ _ _ _ _ _ _ (h1.1 c3) (h2.1 c3), fun c4 => cj_q_m_take_0 (fun _ _ _ _ _ _ _ _ _ _ _ h5 h6 => ⟨fun c7 => cj_q_m_further_0 (fun _ _ h8 h9 => ⟨fun c10 => h_post _ _ _ _ _ _ _ _ _ _ _ _ _ (h8.1 c10) (h9.1 c10), fun c11 => fun v12 e13 => ⟨((h8.2 c11) v12 e13).1, fun v14 e15 => fun v16 e17 => ⟨((((h8.2 c11) v12 e13).2 v14 e15) v16 e17).1, fun v18 e19 => h_post _ _ _ _ _ _ _ _ _ _ _ _ _ (((((h8.2 c11) v12 e13).2 v14 e15) v16 e17).2 v18 e19) (((((h9.2 c11) v12 e13).2 v14 e15) v16 e17).2 v18 e19)⟩⟩⟩) (h5.1 c7) (h6.1 c7), fun c20 => h_post _ _ _ _ _ _ _ _ _ _ _ _ _ (h5.2 c20) (h6.2 c20)⟩) (h1.2 c4) (h2.2 c4)⟩) h1 h2
set_option maxRecDepth 40000 in
theorem cj_q_m_wayLine_0 {a_tape : Nat → Int32} {f_reached : Int32} {f_length : Int32} {f_begins : Int32} {f_sort : Int32} {f_value : Int32} {f_word : Int64} {f_wrongAt : Int32} {f_laterFault : Int32} {f_laterPlace : Int32} {a_told : Nat → Int32} {a_read : Nat → Int32} {f_farHut : Int32} {f_good : Int32} {post_1 post_2 post_3 : Int32 → (Int32) → (Int32) → (Int32) → (Int32) → (Int64) → (Int32) → (Int32) → (Int32) → (Nat → Int32) → (Nat → Int32) → (Int32) → (Int32) → Prop} (h_post : ∀ x0 x1 x2 x3 x4 x5 x6 x7 x8 x9 x10 x11 x12, post_1 x0 x1 x2 x3 x4 x5 x6 x7 x8 x9 x10 x11 x12 → post_2 x0 x1 x2 x3 x4 x5 x6 x7 x8 x9 x10 x11 x12 → post_3 x0 x1 x2 x3 x4 x5 x6 x7 x8 x9 x10 x11 x12) (h1 : q_m_wayLine_0 a_tape f_reached f_length f_begins f_sort f_value f_word f_wrongAt f_laterFault f_laterPlace a_told a_read f_farHut f_good post_1) (h2 : q_m_wayLine_0 a_tape f_reached f_length f_begins f_sort f_value f_word f_wrongAt f_laterFault f_laterPlace a_told a_read f_farHut f_good post_2) : q_m_wayLine_0 a_tape f_reached f_length f_begins f_sort f_value f_word f_wrongAt f_laterFault f_laterPlace a_told a_read f_farHut f_good post_3 := cj_q_m_takeHut_0 (fun _ _ _ _ _ _ _ _ _ _ _ _ h1 h2 => ⟨fun c3 => h_post _ _ _ _ _ _ _ _ _ _ _ _ _ (h1.1 c3) (h2.1 c3), fun c4 => cj_q_m_takeHut_0 (fun _ _ _ _ _ _ _ _ _ _ _ _ h5 h6 => ⟨fun c7 => h_post _ _ _ _ _ _ _ _ _ _ _ _ _ (h5.1 c7) (h6.1 c7), fun c8 => cj_q_m_take_0 (fun _ _ _ _ _ _ _ _ _ _ _ h9 h10 => ⟨fun c11 => ⟨fun c12 => h_post _ _ _ _ _ _ _ _ _ _ _ _ _ ((h9.1 c11).1 c12) ((h10.1 c11).1 c12), fun c13 => fun v14 e15 => ⟨(((h9.1 c11).2 c13) v14 e15).1, fun v16 e17 => fun v18 e19 => ⟨(((((h9.1 c11).2 c13) v14 e15).2 v16 e17) v18 e19).1, fun v20 e21 => h_post _ _ _ _ _ _ _ _ _ _ _ _ _ ((((((h9.1 c11).2 c13) v14 e15).2 v16 e17) v18 e19).2 v20 e21) ((((((h10.1 c11).2 c13) v14 e15).2 v16 e17) v18 e19).2 v20 e21)⟩⟩⟩, fun c22 => h_post _ _ _ _ _ _ _ _ _ _ _ _ _ (h9.2 c22) (h10.2 c22)⟩) (h5.2 c8) (h6.2 c8)⟩) (h1.2 c4) (h2.2 c4)⟩) h1 h2
set_option maxRecDepth 40000 in
theorem cj_q_m_landLine_60 {a_tape : Nat → Int32} {f_reached : Int32} {f_length : Int32} {f_begins : Int32} {f_sort : Int32} {f_value : Int32} {f_word : Int64} {f_wrongAt : Int32} {f_laterFault : Int32} {f_laterPlace : Int32} {a_told : Nat → Int32} {a_read : Nat → Int32} {f_farHut : Int32} {f_farSinger : Int32} {f_good : Int32} {x1 : Int64} {post_1 post_2 post_3 : Int32 → (Int32) → (Int32) → (Int32) → (Int32) → (Int64) → (Int32) → (Int32) → (Int32) → (Nat → Int32) → (Nat → Int32) → (Int32) → (Int32) → (Int32) → Prop} (h_post : ∀ x0 x1 x2 x3 x4 x5 x6 x7 x8 x9 x10 x11 x12 x13, post_1 x0 x1 x2 x3 x4 x5 x6 x7 x8 x9 x10 x11 x12 x13 → post_2 x0 x1 x2 x3 x4 x5 x6 x7 x8 x9 x10 x11 x12 x13 → post_3 x0 x1 x2 x3 x4 x5 x6 x7 x8 x9 x10 x11 x12 x13) (h1 : q_m_landLine_60 a_tape f_reached f_length f_begins f_sort f_value f_word f_wrongAt f_laterFault f_laterPlace a_told a_read f_farHut f_farSinger f_good x1 post_1) (h2 : q_m_landLine_60 a_tape f_reached f_length f_begins f_sort f_value f_word f_wrongAt f_laterFault f_laterPlace a_told a_read f_farHut f_farSinger f_good x1 post_2) : q_m_landLine_60 a_tape f_reached f_length f_begins f_sort f_value f_word f_wrongAt f_laterFault f_laterPlace a_told a_read f_farHut f_farSinger f_good x1 post_3 := cj_q_m_token_0 (fun _ _ _ _ _ h1 h2 => ⟨fun c3 => ⟨fun c4 => cj_q_m_landLine_93 h_post ((h1.1 c3).1 c4) ((h2.1 c3).1 c4), fun c5 => ⟨fun c6 => ⟨fun c7 => ⟨fun c8 => ⟨fun c9 => ⟨fun c10 => ⟨fun c11 => ⟨fun c12 => cj_q_m_knowsLine_0 (fun _ _ _ _ _ _ _ _ _ _ _ _ _ h13 h14 => ⟨h13.1, h_post _ _ _ _ _ _ _ _ _ _ _ _ _ _ h13.2 h14.2⟩) (((((((((h1.1 c3).2 c5).1 c6).1 c7).1 c8).1 c9).1 c10).1 c11).1 c12) (((((((((h2.1 c3).2 c5).1 c6).1 c7).1 c8).1 c9).1 c10).1 c11).1 c12), fun c15 => cj_q_m_singerLine_0 (fun _ _ _ _ _ _ _ _ _ _ _ _ _ h16 h17 => ⟨h16.1, h_post _ _ _ _ _ _ _ _ _ _ _ _ _ _ h16.2 h17.2⟩) (((((((((h1.1 c3).2 c5).1 c6).1 c7).1 c8).1 c9).1 c10).1 c11).2 c15) (((((((((h2.1 c3).2 c5).1 c6).1 c7).1 c8).1 c9).1 c10).1 c11).2 c15)⟩, fun c18 => cj_q_m_ladderLine_0 (fun _ _ _ _ _ _ _ _ _ _ _ _ _ h19 h20 => ⟨h19.1, h_post _ _ _ _ _ _ _ _ _ _ _ _ _ _ h19.2 h20.2⟩) ((((((((h1.1 c3).2 c5).1 c6).1 c7).1 c8).1 c9).1 c10).2 c18) ((((((((h2.1 c3).2 c5).1 c6).1 c7).1 c8).1 c9).1 c10).2 c18)⟩, fun c21 => cj_q_m_echoLine_0 (fun _ _ _ _ _ _ _ _ _ _ _ _ _ h22 h23 => ⟨h22.1, h_post _ _ _ _ _ _ _ _ _ _ _ _ _ _ h22.2 h23.2⟩) (((((((h1.1 c3).2 c5).1 c6).1 c7).1 c8).1 c9).2 c21) (((((((h2.1 c3).2 c5).1 c6).1 c7).1 c8).1 c9).2 c21)⟩, fun c24 => cj_q_m_wayLine_0 (fun _ _ _ _ _ _ _ _ _ _ _ _ _ h25 h26 => ⟨h25.1, h_post _ _ _ _ _ _ _ _ _ _ _ _ _ _ h25.2 h26.2⟩) ((((((h1.1 c3).2 c5).1 c6).1 c7).1 c8).2 c24) ((((((h2.1 c3).2 c5).1 c6).1 c7).1 c8).2 c24)⟩, fun c27 => cj_q_m_plainLine_0 (fun _ _ _ _ _ _ _ _ _ _ _ _ h28 h29 => ⟨h28.1, h_post _ _ _ _ _ _ _ _ _ _ _ _ _ _ h28.2 h29.2⟩) (((((h1.1 c3).2 c5).1 c6).1 c7).2 c27) (((((h2.1 c3).2 c5).1 c6).1 c7).2 c27)⟩, fun c30 => cj_q_m_plainLine_0 (fun _ _ _ _ _ _ _ _ _ _ _ _ h31 h32 => ⟨h31.1, h_post _ _ _ _ _ _ _ _ _ _ _ _ _ _ h31.2 h32.2⟩) ((((h1.1 c3).2 c5).1 c6).2 c30) ((((h2.1 c3).2 c5).1 c6).2 c30)⟩, fun c33 => cj_q_m_landLine_93 h_post (((h1.1 c3).2 c5).2 c33) (((h2.1 c3).2 c5).2 c33)⟩⟩, fun c34 => cj_q_m_hutLine_0 (fun _ _ _ _ _ _ _ _ _ _ _ _ h35 h36 => ⟨h35.1, h_post _ _ _ _ _ _ _ _ _ _ _ _ _ _ h35.2 h36.2⟩) (h1.2 c34) (h2.2 c34)⟩) h1 h2
set_option maxRecDepth 40000 in
theorem cj_q_m_landLine_44 {a_tape : Nat → Int32} {f_reached : Int32} {f_length : Int32} {f_begins : Int32} {f_sort : Int32} {f_value : Int32} {f_word : Int64} {f_wrongAt : Int32} {f_laterFault : Int32} {f_laterPlace : Int32} {a_told : Nat → Int32} {a_read : Nat → Int32} {f_farHut : Int32} {f_farSinger : Int32} {f_good : Int32} {x1 : Int64} {x3 : Int32} {post_1 post_2 post_3 : Int32 → (Int32) → (Int32) → (Int32) → (Int32) → (Int64) → (Int32) → (Int32) → (Int32) → (Nat → Int32) → (Nat → Int32) → (Int32) → (Int32) → (Int32) → Prop} (h_post : ∀ x0 x1 x2 x3 x4 x5 x6 x7 x8 x9 x10 x11 x12 x13, post_1 x0 x1 x2 x3 x4 x5 x6 x7 x8 x9 x10 x11 x12 x13 → post_2 x0 x1 x2 x3 x4 x5 x6 x7 x8 x9 x10 x11 x12 x13 → post_3 x0 x1 x2 x3 x4 x5 x6 x7 x8 x9 x10 x11 x12 x13) (h1 : q_m_landLine_44 a_tape f_reached f_length f_begins f_sort f_value f_word f_wrongAt f_laterFault f_laterPlace a_told a_read f_farHut f_farSinger f_good x1 x3 post_1) (h2 : q_m_landLine_44 a_tape f_reached f_length f_begins f_sort f_value f_word f_wrongAt f_laterFault f_laterPlace a_told a_read f_farHut f_farSinger f_good x1 x3 post_2) : q_m_landLine_44 a_tape f_reached f_length f_begins f_sort f_value f_word f_wrongAt f_laterFault f_laterPlace a_told a_read f_farHut f_farSinger f_good x1 x3 post_3 := ⟨fun c1 => cj_q_m_landLine_60 h_post (h1.1 c1) (h2.1 c1), fun c2 => cj_q_m_full_0 (fun _ _ h3 h4 => cj_q_m_landLine_60 h_post h3 h4) (h1.2 c2) (h2.2 c2)⟩
set_option maxRecDepth 40000 in
theorem cj_q_m_landLine_29 {a_tape : Nat → Int32} {f_reached : Int32} {f_length : Int32} {f_begins : Int32} {f_sort : Int32} {f_value : Int32} {f_word : Int64} {f_wrongAt : Int32} {f_laterFault : Int32} {f_laterPlace : Int32} {a_told : Nat → Int32} {a_read : Nat → Int32} {f_farHut : Int32} {f_farSinger : Int32} {f_good : Int32} {x1 : Int64} {x3 : Int32} {post_1 post_2 post_3 : Int32 → (Int32) → (Int32) → (Int32) → (Int32) → (Int64) → (Int32) → (Int32) → (Int32) → (Nat → Int32) → (Nat → Int32) → (Int32) → (Int32) → (Int32) → Prop} (h_post : ∀ x0 x1 x2 x3 x4 x5 x6 x7 x8 x9 x10 x11 x12 x13, post_1 x0 x1 x2 x3 x4 x5 x6 x7 x8 x9 x10 x11 x12 x13 → post_2 x0 x1 x2 x3 x4 x5 x6 x7 x8 x9 x10 x11 x12 x13 → post_3 x0 x1 x2 x3 x4 x5 x6 x7 x8 x9 x10 x11 x12 x13) (h1 : q_m_landLine_29 a_tape f_reached f_length f_begins f_sort f_value f_word f_wrongAt f_laterFault f_laterPlace a_told a_read f_farHut f_farSinger f_good x1 x3 post_1) (h2 : q_m_landLine_29 a_tape f_reached f_length f_begins f_sort f_value f_word f_wrongAt f_laterFault f_laterPlace a_told a_read f_farHut f_farSinger f_good x1 x3 post_2) : q_m_landLine_29 a_tape f_reached f_length f_begins f_sort f_value f_word f_wrongAt f_laterFault f_laterPlace a_told a_read f_farHut f_farSinger f_good x1 x3 post_3 := ⟨fun c1 => cj_q_m_landLine_44 h_post (h1.1 c1) (h2.1 c1), fun c2 => cj_q_m_full_0 (fun _ _ h3 h4 => cj_q_m_landLine_44 h_post h3 h4) (h1.2 c2) (h2.2 c2)⟩
set_option maxRecDepth 40000 in
theorem cj_q_m_landLine_0 {a_tape : Nat → Int32} {f_reached : Int32} {f_length : Int32} {f_begins : Int32} {f_sort : Int32} {f_value : Int32} {f_word : Int64} {f_wrongAt : Int32} {f_laterFault : Int32} {f_laterPlace : Int32} {a_told : Nat → Int32} {a_read : Nat → Int32} {f_farHut : Int32} {f_farSinger : Int32} {f_good : Int32} {x1 : Int64} {x3 : Int32} {post_1 post_2 post_3 : Int32 → (Int32) → (Int32) → (Int32) → (Int32) → (Int64) → (Int32) → (Int32) → (Int32) → (Nat → Int32) → (Nat → Int32) → (Int32) → (Int32) → (Int32) → Prop} (h_post : ∀ x0 x1 x2 x3 x4 x5 x6 x7 x8 x9 x10 x11 x12 x13, post_1 x0 x1 x2 x3 x4 x5 x6 x7 x8 x9 x10 x11 x12 x13 → post_2 x0 x1 x2 x3 x4 x5 x6 x7 x8 x9 x10 x11 x12 x13 → post_3 x0 x1 x2 x3 x4 x5 x6 x7 x8 x9 x10 x11 x12 x13) (h1 : q_m_landLine_0 a_tape f_reached f_length f_begins f_sort f_value f_word f_wrongAt f_laterFault f_laterPlace a_told a_read f_farHut f_farSinger f_good x1 x3 post_1) (h2 : q_m_landLine_0 a_tape f_reached f_length f_begins f_sort f_value f_word f_wrongAt f_laterFault f_laterPlace a_told a_read f_farHut f_farSinger f_good x1 x3 post_2) : q_m_landLine_0 a_tape f_reached f_length f_begins f_sort f_value f_word f_wrongAt f_laterFault f_laterPlace a_told a_read f_farHut f_farSinger f_good x1 x3 post_3 := cj_q_m_isLandWord_0 (fun _ h1 h2 => ⟨fun c3 => ⟨fun c4 => cj_q_m_landLine_29 h_post ((h1.1 c3).1 c4) ((h2.1 c3).1 c4), fun c5 => cj_q_m_full_0 (fun _ _ h6 h7 => cj_q_m_landLine_29 h_post h6 h7) ((h1.1 c3).2 c5) ((h2.1 c3).2 c5)⟩, fun c8 => cj_q_m_fails_0 (fun _ _ h9 h10 => ⟨h9.1, h_post _ _ _ _ _ _ _ _ _ _ _ _ _ _ h9.2 h10.2⟩) (h1.2 c8) (h2.2 c8)⟩) h1 h2
set_option maxRecDepth 40000 in
theorem cj_q_m_sightLine_75 {a_tape : Nat → Int32} {f_reached : Int32} {f_length : Int32} {f_begins : Int32} {f_sort : Int32} {f_value : Int32} {f_word : Int64} {f_wrongAt : Int32} {f_laterFault : Int32} {f_laterPlace : Int32} {a_told : Nat → Int32} {a_read : Nat → Int32} {f_good : Int32} {y0 : Int32} {y1 : Int32} {post_1 post_2 post_3 : Int32 → (Int32) → (Int32) → (Int32) → (Int32) → (Int64) → (Int32) → (Int32) → (Int32) → (Nat → Int32) → (Nat → Int32) → (Int32) → Prop} (h_post : ∀ x0 x1 x2 x3 x4 x5 x6 x7 x8 x9 x10 x11, post_1 x0 x1 x2 x3 x4 x5 x6 x7 x8 x9 x10 x11 → post_2 x0 x1 x2 x3 x4 x5 x6 x7 x8 x9 x10 x11 → post_3 x0 x1 x2 x3 x4 x5 x6 x7 x8 x9 x10 x11) (h1 : q_m_sightLine_75 a_tape f_reached f_length f_begins f_sort f_value f_word f_wrongAt f_laterFault f_laterPlace a_told a_read f_good y0 y1 post_1) (h2 : q_m_sightLine_75 a_tape f_reached f_length f_begins f_sort f_value f_word f_wrongAt f_laterFault f_laterPlace a_told a_read f_good y0 y1 post_2) : q_m_sightLine_75 a_tape f_reached f_length f_begins f_sort f_value f_word f_wrongAt f_laterFault f_laterPlace a_told a_read f_good y0 y1 post_3 := ⟨h1.1, fun v1 e2 => cj_q_m_keep_0 (fun _ h3 h4 => h_post _ _ _ _ _ _ _ _ _ _ _ _ h3 h4) (h1.2 v1 e2) (h2.2 v1 e2)⟩
set_option maxRecDepth 40000 in
theorem cj_q_m_sightLine_21 {a_tape : Nat → Int32} {f_reached : Int32} {f_length : Int32} {f_begins : Int32} {f_sort : Int32} {f_value : Int32} {f_word : Int64} {f_wrongAt : Int32} {f_laterFault : Int32} {f_laterPlace : Int32} {a_told : Nat → Int32} {a_read : Nat → Int32} {f_good : Int32} {x1 : Int64} {x3 : Int32} {post_1 post_2 post_3 : Int32 → (Int32) → (Int32) → (Int32) → (Int32) → (Int64) → (Int32) → (Int32) → (Int32) → (Nat → Int32) → (Nat → Int32) → (Int32) → Prop} (h_post : ∀ x0 x1 x2 x3 x4 x5 x6 x7 x8 x9 x10 x11, post_1 x0 x1 x2 x3 x4 x5 x6 x7 x8 x9 x10 x11 → post_2 x0 x1 x2 x3 x4 x5 x6 x7 x8 x9 x10 x11 → post_3 x0 x1 x2 x3 x4 x5 x6 x7 x8 x9 x10 x11) (h1 : q_m_sightLine_21 a_tape f_reached f_length f_begins f_sort f_value f_word f_wrongAt f_laterFault f_laterPlace a_told a_read f_good x1 x3 post_1) (h2 : q_m_sightLine_21 a_tape f_reached f_length f_begins f_sort f_value f_word f_wrongAt f_laterFault f_laterPlace a_told a_read f_good x1 x3 post_2) : q_m_sightLine_21 a_tape f_reached f_length f_begins f_sort f_value f_word f_wrongAt f_laterFault f_laterPlace a_told a_read f_good x1 x3 post_3 := cj_q_m_full_0 (fun _ _ h1 h2 => cj_q_m_token_0 (fun _ _ _ _ _ h3 h4 => cj_q_m_take_0 (fun _ _ _ _ _ _ _ _ _ _ _ h5 h6 => ⟨fun c7 => h_post _ _ _ _ _ _ _ _ _ _ _ _ (h5.1 c7) (h6.1 c7), fun c8 => cj_q_m_take_0 (fun _ _ _ _ _ _ _ _ _ _ _ h9 h10 => ⟨fun c11 => ⟨fun c12 => cj_q_m_sightLine_75 h_post ((h9.1 c11).1 c12) ((h10.1 c11).1 c12), fun c13 => cj_q_m_sightLine_75 h_post ((h9.1 c11).2 c13) ((h10.1 c11).2 c13)⟩, fun c14 => h_post _ _ _ _ _ _ _ _ _ _ _ _ (h9.2 c14) (h10.2 c14)⟩) (h5.2 c8) (h6.2 c8)⟩) h3 h4) h1 h2) h1 h2
set_option maxRecDepth 40000 in
theorem cj_q_m_sightLine_0 {a_tape : Nat → Int32} {f_reached : Int32} {f_length : Int32} {f_begins : Int32} {f_sort : Int32} {f_value : Int32} {f_word : Int64} {f_wrongAt : Int32} {f_laterFault : Int32} {f_laterPlace : Int32} {a_told : Nat → Int32} {a_read : Nat → Int32} {f_good : Int32} {x1 : Int64} {x3 : Int32} {post_1 post_2 post_3 : Int32 → (Int32) → (Int32) → (Int32) → (Int32) → (Int64) → (Int32) → (Int32) → (Int32) → (Nat → Int32) → (Nat → Int32) → (Int32) → Prop} (h_post : ∀ x0 x1 x2 x3 x4 x5 x6 x7 x8 x9 x10 x11, post_1 x0 x1 x2 x3 x4 x5 x6 x7 x8 x9 x10 x11 → post_2 x0 x1 x2 x3 x4 x5 x6 x7 x8 x9 x10 x11 → post_3 x0 x1 x2 x3 x4 x5 x6 x7 x8 x9 x10 x11) (h1 : q_m_sightLine_0 a_tape f_reached f_length f_begins f_sort f_value f_word f_wrongAt f_laterFault f_laterPlace a_told a_read f_good x1 x3 post_1) (h2 : q_m_sightLine_0 a_tape f_reached f_length f_begins f_sort f_value f_word f_wrongAt f_laterFault f_laterPlace a_told a_read f_good x1 x3 post_2) : q_m_sightLine_0 a_tape f_reached f_length f_begins f_sort f_value f_word f_wrongAt f_laterFault f_laterPlace a_told a_read f_good x1 x3 post_3 := ⟨fun c1 => cj_q_m_sightLine_21 h_post (h1.1 c1) (h2.1 c1), fun c2 => ⟨fun c3 => cj_q_m_sightLine_21 h_post ((h1.2 c2).1 c3) ((h2.2 c2).1 c3), fun c4 => cj_q_m_fails_0 (fun _ _ h5 h6 => ⟨h5.1, h_post _ _ _ _ _ _ _ _ _ _ _ _ h5.2 h6.2⟩) ((h1.2 c2).2 c4) ((h2.2 c2).2 c4)⟩⟩
set_option maxRecDepth 40000 in
theorem cj_q_m_lineOf_0 {a_tape : Nat → Int32} {f_reached : Int32} {f_length : Int32} {f_begins : Int32} {f_sort : Int32} {f_value : Int32} {f_word : Int64} {f_wrongAt : Int32} {f_laterFault : Int32} {f_laterPlace : Int32} {a_told : Nat → Int32} {a_read : Nat → Int32} {f_farHut : Int32} {f_farSinger : Int32} {f_good : Int32} {x1 : Int32} {x2 : Int64} {x4 : Int32} {post_1 post_2 post_3 : Int32 → (Int32) → (Int32) → (Int32) → (Int32) → (Int64) → (Int32) → (Int32) → (Int32) → (Nat → Int32) → (Nat → Int32) → (Int32) → (Int32) → (Int32) → Prop} (h_post : ∀ x0 x1 x2 x3 x4 x5 x6 x7 x8 x9 x10 x11 x12 x13, post_1 x0 x1 x2 x3 x4 x5 x6 x7 x8 x9 x10 x11 x12 x13 → post_2 x0 x1 x2 x3 x4 x5 x6 x7 x8 x9 x10 x11 x12 x13 → post_3 x0 x1 x2 x3 x4 x5 x6 x7 x8 x9 x10 x11 x12 x13) (h1 : q_m_lineOf_0 a_tape f_reached f_length f_begins f_sort f_value f_word f_wrongAt f_laterFault f_laterPlace a_told a_read f_farHut f_farSinger f_good x1 x2 x4 post_1) (h2 : q_m_lineOf_0 a_tape f_reached f_length f_begins f_sort f_value f_word f_wrongAt f_laterFault f_laterPlace a_told a_read f_farHut f_farSinger f_good x1 x2 x4 post_2) : q_m_lineOf_0 a_tape f_reached f_length f_begins f_sort f_value f_word f_wrongAt f_laterFault f_laterPlace a_told a_read f_farHut f_farSinger f_good x1 x2 x4 post_3 := ⟨fun c1 => cj_q_m_choirLine_0 (fun _ _ _ _ _ _ _ _ _ _ _ _ h2 h3 => ⟨h2.1, h_post _ _ _ _ _ _ _ _ _ _ _ _ _ _ h2.2 h3.2⟩) (h1.1 c1) (h2.1 c1), fun c4 => cj_q_m_landLine_0 (fun _ _ _ _ _ _ _ _ _ _ _ _ _ _ h5 h6 => ⟨h5.1, h_post _ _ _ _ _ _ _ _ _ _ _ _ _ _ h5.2 h6.2⟩) (h1.2.1 c4) (h2.2.1 c4), fun c7 => cj_q_m_eveningLine_0 (fun _ _ _ _ _ _ _ _ _ _ _ _ h8 h9 => ⟨h8.1, h_post _ _ _ _ _ _ _ _ _ _ _ _ _ _ h8.2 h9.2⟩) (h1.2.2.1 c7) (h2.2.2.1 c7), fun c10 => cj_q_m_sightLine_0 (fun _ _ _ _ _ _ _ _ _ _ _ _ h11 h12 => ⟨h11.1, h_post _ _ _ _ _ _ _ _ _ _ _ _ _ _ h11.2 h12.2⟩) (h1.2.2.2 c10) (h2.2.2.2 c10)⟩
set_option maxRecDepth 40000 in
theorem cj_q_m_lines_71 {P2_1 P2_2 P2_3 : Int32 → (Int32) → (Int32) → (Int32) → (Int32) → (Int64) → (Int32) → (Int32) → (Int32) → (Nat → Int32) → (Nat → Int32) → (Int32) → (Int32) → (Int32) → Prop} {a_tape : Nat → Int32} {f_reached : Int32} {f_length : Int32} {f_begins : Int32} {f_sort : Int32} {f_value : Int32} {f_word : Int64} {f_wrongAt : Int32} {f_laterFault : Int32} {f_laterPlace : Int32} {a_told : Nat → Int32} {a_read : Nat → Int32} {f_farHut : Int32} {f_farSinger : Int32} {f_good : Int32} {x1 : Int32} {x2 : Int32} {post_1 post_2 post_3 : Int32 → (Int32) → (Int32) → (Int32) → (Int32) → (Int64) → (Int32) → (Int32) → (Int32) → (Nat → Int32) → (Nat → Int32) → (Int32) → (Int32) → (Int32) → Prop} (h_P2 : ∀ x0 x1 x2 x3 x4 x5 x6 x7 x8 x9 x10 x11 x12 x13, P2_1 x0 x1 x2 x3 x4 x5 x6 x7 x8 x9 x10 x11 x12 x13 → P2_2 x0 x1 x2 x3 x4 x5 x6 x7 x8 x9 x10 x11 x12 x13 → P2_3 x0 x1 x2 x3 x4 x5 x6 x7 x8 x9 x10 x11 x12 x13) (h_post : ∀ x0 x1 x2 x3 x4 x5 x6 x7 x8 x9 x10 x11 x12 x13, post_1 x0 x1 x2 x3 x4 x5 x6 x7 x8 x9 x10 x11 x12 x13 → post_2 x0 x1 x2 x3 x4 x5 x6 x7 x8 x9 x10 x11 x12 x13 → post_3 x0 x1 x2 x3 x4 x5 x6 x7 x8 x9 x10 x11 x12 x13) (h1 : q_m_lines_71 P2_1 a_tape f_reached f_length f_begins f_sort f_value f_word f_wrongAt f_laterFault f_laterPlace a_told a_read f_farHut f_farSinger f_good x1 x2 post_1) (h2 : q_m_lines_71 P2_2 a_tape f_reached f_length f_begins f_sort f_value f_word f_wrongAt f_laterFault f_laterPlace a_told a_read f_farHut f_farSinger f_good x1 x2 post_2) : q_m_lines_71 P2_3 a_tape f_reached f_length f_begins f_sort f_value f_word f_wrongAt f_laterFault f_laterPlace a_told a_read f_farHut f_farSinger f_good x1 x2 post_3 := h_P2 _ _ _ _ _ _ _ _ _ _ _ _ _ _ h1 h2
set_option maxRecDepth 40000 in
theorem cj_q_m_lines_63 {P2_1 P2_2 P2_3 : Int32 → (Int32) → (Int32) → (Int32) → (Int32) → (Int64) → (Int32) → (Int32) → (Int32) → (Nat → Int32) → (Nat → Int32) → (Int32) → (Int32) → (Int32) → Prop} {a_tape : Nat → Int32} {f_reached : Int32} {f_length : Int32} {f_begins : Int32} {f_sort : Int32} {f_value : Int32} {f_word : Int64} {f_wrongAt : Int32} {f_laterFault : Int32} {f_laterPlace : Int32} {a_told : Nat → Int32} {a_read : Nat → Int32} {f_farHut : Int32} {f_farSinger : Int32} {f_good : Int32} {x1 : Int32} {x2 : Int32} {post_1 post_2 post_3 : Int32 → (Int32) → (Int32) → (Int32) → (Int32) → (Int64) → (Int32) → (Int32) → (Int32) → (Nat → Int32) → (Nat → Int32) → (Int32) → (Int32) → (Int32) → Prop} (h_P2 : ∀ x0 x1 x2 x3 x4 x5 x6 x7 x8 x9 x10 x11 x12 x13, P2_1 x0 x1 x2 x3 x4 x5 x6 x7 x8 x9 x10 x11 x12 x13 → P2_2 x0 x1 x2 x3 x4 x5 x6 x7 x8 x9 x10 x11 x12 x13 → P2_3 x0 x1 x2 x3 x4 x5 x6 x7 x8 x9 x10 x11 x12 x13) (h_post : ∀ x0 x1 x2 x3 x4 x5 x6 x7 x8 x9 x10 x11 x12 x13, post_1 x0 x1 x2 x3 x4 x5 x6 x7 x8 x9 x10 x11 x12 x13 → post_2 x0 x1 x2 x3 x4 x5 x6 x7 x8 x9 x10 x11 x12 x13 → post_3 x0 x1 x2 x3 x4 x5 x6 x7 x8 x9 x10 x11 x12 x13) (h1 : q_m_lines_63 P2_1 a_tape f_reached f_length f_begins f_sort f_value f_word f_wrongAt f_laterFault f_laterPlace a_told a_read f_farHut f_farSinger f_good x1 x2 post_1) (h2 : q_m_lines_63 P2_2 a_tape f_reached f_length f_begins f_sort f_value f_word f_wrongAt f_laterFault f_laterPlace a_told a_read f_farHut f_farSinger f_good x1 x2 post_2) : q_m_lines_63 P2_3 a_tape f_reached f_length f_begins f_sort f_value f_word f_wrongAt f_laterFault f_laterPlace a_told a_read f_farHut f_farSinger f_good x1 x2 post_3 := ⟨fun c1 => cj_q_m_lines_71 h_P2 h_post (h1.1 c1) (h2.1 c1), fun c2 => cj_q_m_token_0 (fun _ _ _ _ _ h3 h4 => cj_q_m_lines_71 h_P2 h_post h3 h4) (h1.2 c2) (h2.2 c2)⟩
set_option maxRecDepth 40000 in
theorem cj_q_m_lines_41 {P2_1 P2_2 P2_3 : Int32 → (Int32) → (Int32) → (Int32) → (Int32) → (Int64) → (Int32) → (Int32) → (Int32) → (Nat → Int32) → (Nat → Int32) → (Int32) → (Int32) → (Int32) → Prop} {a_tape : Nat → Int32} {f_reached : Int32} {f_length : Int32} {f_begins : Int32} {f_sort : Int32} {f_value : Int32} {f_word : Int64} {f_wrongAt : Int32} {f_laterFault : Int32} {f_laterPlace : Int32} {a_told : Nat → Int32} {a_read : Nat → Int32} {f_farHut : Int32} {f_farSinger : Int32} {f_good : Int32} {x1 : Int32} {x3 : Int32} {y0 : Int32} {y1 : Int64} {post_1 post_2 post_3 : Int32 → (Int32) → (Int32) → (Int32) → (Int32) → (Int64) → (Int32) → (Int32) → (Int32) → (Nat → Int32) → (Nat → Int32) → (Int32) → (Int32) → (Int32) → Prop} (h_P2 : ∀ x0 x1 x2 x3 x4 x5 x6 x7 x8 x9 x10 x11 x12 x13, P2_1 x0 x1 x2 x3 x4 x5 x6 x7 x8 x9 x10 x11 x12 x13 → P2_2 x0 x1 x2 x3 x4 x5 x6 x7 x8 x9 x10 x11 x12 x13 → P2_3 x0 x1 x2 x3 x4 x5 x6 x7 x8 x9 x10 x11 x12 x13) (h_post : ∀ x0 x1 x2 x3 x4 x5 x6 x7 x8 x9 x10 x11 x12 x13, post_1 x0 x1 x2 x3 x4 x5 x6 x7 x8 x9 x10 x11 x12 x13 → post_2 x0 x1 x2 x3 x4 x5 x6 x7 x8 x9 x10 x11 x12 x13 → post_3 x0 x1 x2 x3 x4 x5 x6 x7 x8 x9 x10 x11 x12 x13) (h1 : q_m_lines_41 P2_1 a_tape f_reached f_length f_begins f_sort f_value f_word f_wrongAt f_laterFault f_laterPlace a_told a_read f_farHut f_farSinger f_good x1 x3 y0 y1 post_1) (h2 : q_m_lines_41 P2_2 a_tape f_reached f_length f_begins f_sort f_value f_word f_wrongAt f_laterFault f_laterPlace a_told a_read f_farHut f_farSinger f_good x1 x3 y0 y1 post_2) : q_m_lines_41 P2_3 a_tape f_reached f_length f_begins f_sort f_value f_word f_wrongAt f_laterFault f_laterPlace a_told a_read f_farHut f_farSinger f_good x1 x3 y0 y1 post_3 := cj_q_m_lineOf_0 (fun _ _ _ _ _ _ _ _ _ _ _ _ _ _ h1 h2 => ⟨fun c3 => cj_q_m_lines_63 h_P2 h_post (h1.1 c3) (h2.1 c3), fun c4 => ⟨fun c5 => cj_q_m_lines_63 h_P2 h_post ((h1.2 c4).1 c5) ((h2.2 c4).1 c5), fun c6 => cj_q_m_fails_0 (fun _ _ h7 h8 => cj_q_m_lines_63 h_P2 h_post h7 h8) ((h1.2 c4).2 c6) ((h2.2 c4).2 c6)⟩⟩) h1 h2
set_option maxRecDepth 40000 in
theorem cj_q_m_lines_2 {a_tape : Nat → Int32} {f_reached : Int32} {f_length : Int32} {f_begins : Int32} {f_sort : Int32} {f_value : Int32} {f_word : Int64} {f_wrongAt : Int32} {f_laterFault : Int32} {f_laterPlace : Int32} {a_told : Nat → Int32} {a_read : Nat → Int32} {f_farHut : Int32} {f_farSinger : Int32} {f_good : Int32} {x1 : Int32} {x2 : Int32} {post_1 post_2 post_3 : Int32 → (Int32) → (Int32) → (Int32) → (Int32) → (Int64) → (Int32) → (Int32) → (Int32) → (Nat → Int32) → (Nat → Int32) → (Int32) → (Int32) → (Int32) → Prop} (h_post : ∀ x0 x1 x2 x3 x4 x5 x6 x7 x8 x9 x10 x11 x12 x13, post_1 x0 x1 x2 x3 x4 x5 x6 x7 x8 x9 x10 x11 x12 x13 → post_2 x0 x1 x2 x3 x4 x5 x6 x7 x8 x9 x10 x11 x12 x13 → post_3 x0 x1 x2 x3 x4 x5 x6 x7 x8 x9 x10 x11 x12 x13) (h1 : q_m_lines_2 a_tape f_reached f_length f_begins f_sort f_value f_word f_wrongAt f_laterFault f_laterPlace a_told a_read f_farHut f_farSinger f_good x1 x2 post_1) (h2 : q_m_lines_2 a_tape f_reached f_length f_begins f_sort f_value f_word f_wrongAt f_laterFault f_laterPlace a_told a_read f_farHut f_farSinger f_good x1 x2 post_2) : q_m_lines_2 a_tape f_reached f_length f_begins f_sort f_value f_word f_wrongAt f_laterFault f_laterPlace a_told a_read f_farHut f_farSinger f_good x1 x2 post_3 := lfp_14 h1 h2 (fun A B C hsk1 _ _ _ _ _ _ _ _ _ _ _ _ _ _ hak1 hck1 => ⟨fun c2 => ⟨(hak1.1 c2).1, h_post _ _ _ _ _ _ _ _ _ _ _ _ _ _ (hak1.1 c2).2 (hck1.1 c2).2⟩, fun c3 => ⟨fun c4 => ⟨((hak1.2 c3).1 c4).1, h_post _ _ _ _ _ _ _ _ _ _ _ _ _ _ ((hak1.2 c3).1 c4).2 ((hck1.2 c3).1 c4).2⟩, fun c5 => ⟨fun c6 => cj_q_m_lines_41 hsk1 h_post (((hak1.2 c3).2 c5).1 c6) (((hck1.2 c3).2 c5).1 c6), fun c7 => cj_q_m_lines_41 hsk1 h_post (((hak1.2 c3).2 c5).2 c7) (((hck1.2 c3).2 c5).2 c7)⟩⟩⟩) (fun A B hqk1 _ _ _ _ _ _ _ _ _ _ _ _ _ _ hbk1 => ⟨fun c8 => ⟨(hbk1.1 c8).1, (hbk1.1 c8).2⟩, fun c9 => ⟨fun c10 => ⟨((hbk1.2 c9).1 c10).1, ((hbk1.2 c9).1 c10).2⟩, fun c11 => ⟨fun c12 => cj_q_m_lines_41 (fun _ _ _ _ _ _ _ _ _ _ _ _ _ _ h _ => hqk1 _ _ _ _ _ _ _ _ _ _ _ _ _ _ h) (fun _ _ _ _ _ _ _ _ _ _ _ _ _ _ h _ => h) (((hbk1.2 c9).2 c11).1 c12) (((hbk1.2 c9).2 c11).1 c12), fun c13 => cj_q_m_lines_41 (fun _ _ _ _ _ _ _ _ _ _ _ _ _ _ h _ => hqk1 _ _ _ _ _ _ _ _ _ _ _ _ _ _ h) (fun _ _ _ _ _ _ _ _ _ _ _ _ _ _ h _ => h) (((hbk1.2 c9).2 c11).2 c13) (((hbk1.2 c9).2 c11).2 c13)⟩⟩⟩)
set_option maxRecDepth 40000 in
theorem cj_q_m_lines_0 {a_tape : Nat → Int32} {f_reached : Int32} {f_length : Int32} {f_begins : Int32} {f_sort : Int32} {f_value : Int32} {f_word : Int64} {f_wrongAt : Int32} {f_laterFault : Int32} {f_laterPlace : Int32} {a_told : Nat → Int32} {a_read : Nat → Int32} {f_farHut : Int32} {f_farSinger : Int32} {f_good : Int32} {x1 : Int32} {post_1 post_2 post_3 : Int32 → (Int32) → (Int32) → (Int32) → (Int32) → (Int64) → (Int32) → (Int32) → (Int32) → (Nat → Int32) → (Nat → Int32) → (Int32) → (Int32) → (Int32) → Prop} (h_post : ∀ x0 x1 x2 x3 x4 x5 x6 x7 x8 x9 x10 x11 x12 x13, post_1 x0 x1 x2 x3 x4 x5 x6 x7 x8 x9 x10 x11 x12 x13 → post_2 x0 x1 x2 x3 x4 x5 x6 x7 x8 x9 x10 x11 x12 x13 → post_3 x0 x1 x2 x3 x4 x5 x6 x7 x8 x9 x10 x11 x12 x13) (h1 : q_m_lines_0 a_tape f_reached f_length f_begins f_sort f_value f_word f_wrongAt f_laterFault f_laterPlace a_told a_read f_farHut f_farSinger f_good x1 post_1) (h2 : q_m_lines_0 a_tape f_reached f_length f_begins f_sort f_value f_word f_wrongAt f_laterFault f_laterPlace a_told a_read f_farHut f_farSinger f_good x1 post_2) : q_m_lines_0 a_tape f_reached f_length f_begins f_sort f_value f_word f_wrongAt f_laterFault f_laterPlace a_told a_read f_farHut f_farSinger f_good x1 post_3 := cj_q_m_lines_2 h_post h1 h2
set_option maxRecDepth 40000 in
theorem cj_q_m_readText_170 {a_tape : Nat → Int32} {a_fault : Nat → Int32} {a_faultPlace : Nat → Int32} {f_reached : Int32} {f_length : Int32} {f_begins : Int32} {f_sort : Int32} {f_value : Int32} {f_word : Int64} {f_wrongAt : Int32} {f_laterFault : Int32} {f_laterPlace : Int32} {a_told : Nat → Int32} {a_read : Nat → Int32} {f_farHut : Int32} {f_farSinger : Int32} {f_good : Int32} {y0 : Int32} {y1 : Int32} {post_1 post_2 post_3 : Int32 → (Nat → Int32) → (Nat → Int32) → (Int32) → (Int32) → (Int32) → (Int32) → (Int64) → (Int32) → (Int32) → (Int32) → (Nat → Int32) → (Nat → Int32) → (Int32) → (Int32) → (Int32) → Prop} (h_post : ∀ x0 x1 x2 x3 x4 x5 x6 x7 x8 x9 x10 x11 x12 x13 x14 x15, post_1 x0 x1 x2 x3 x4 x5 x6 x7 x8 x9 x10 x11 x12 x13 x14 x15 → post_2 x0 x1 x2 x3 x4 x5 x6 x7 x8 x9 x10 x11 x12 x13 x14 x15 → post_3 x0 x1 x2 x3 x4 x5 x6 x7 x8 x9 x10 x11 x12 x13 x14 x15) (h1 : q_m_readText_170 a_tape a_fault a_faultPlace f_reached f_length f_begins f_sort f_value f_word f_wrongAt f_laterFault f_laterPlace a_told a_read f_farHut f_farSinger f_good y0 y1 post_1) (h2 : q_m_readText_170 a_tape a_fault a_faultPlace f_reached f_length f_begins f_sort f_value f_word f_wrongAt f_laterFault f_laterPlace a_told a_read f_farHut f_farSinger f_good y0 y1 post_2) : q_m_readText_170 a_tape a_fault a_faultPlace f_reached f_length f_begins f_sort f_value f_word f_wrongAt f_laterFault f_laterPlace a_told a_read f_farHut f_farSinger f_good y0 y1 post_3 := ⟨h1.1, fun v1 e2 => ⟨fun c3 => h_post _ _ _ _ _ _ _ _ _ _ _ _ _ _ _ _ ((h1.2 v1 e2).1 c3) ((h2.2 v1 e2).1 c3), fun c4 => h_post _ _ _ _ _ _ _ _ _ _ _ _ _ _ _ _ ((h1.2 v1 e2).2 c4) ((h2.2 v1 e2).2 c4)⟩⟩
set_option maxRecDepth 40000 in
theorem cj_q_m_readText_138 {a_tape : Nat → Int32} {a_fault : Nat → Int32} {a_faultPlace : Nat → Int32} {f_reached : Int32} {f_length : Int32} {f_begins : Int32} {f_sort : Int32} {f_value : Int32} {f_word : Int64} {f_wrongAt : Int32} {f_laterFault : Int32} {f_laterPlace : Int32} {a_told : Nat → Int32} {a_read : Nat → Int32} {f_farHut : Int32} {f_farSinger : Int32} {f_good : Int32} {x2 : Int32} {y0 : Int32} {y1 : Int32} {post_1 post_2 post_3 : Int32 → (Nat → Int32) → (Nat → Int32) → (Int32) → (Int32) → (Int32) → (Int32) → (Int64) → (Int32) → (Int32) → (Int32) → (Nat → Int32) → (Nat → Int32) → (Int32) → (Int32) → (Int32) → Prop} (h_post : ∀ x0 x1 x2 x3 x4 x5 x6 x7 x8 x9 x10 x11 x12 x13 x14 x15, post_1 x0 x1 x2 x3 x4 x5 x6 x7 x8 x9 x10 x11 x12 x13 x14 x15 → post_2 x0 x1 x2 x3 x4 x5 x6 x7 x8 x9 x10 x11 x12 x13 x14 x15 → post_3 x0 x1 x2 x3 x4 x5 x6 x7 x8 x9 x10 x11 x12 x13 x14 x15) (h1 : q_m_readText_138 a_tape a_fault a_faultPlace f_reached f_length f_begins f_sort f_value f_word f_wrongAt f_laterFault f_laterPlace a_told a_read f_farHut f_farSinger f_good x2 y0 y1 post_1) (h2 : q_m_readText_138 a_tape a_fault a_faultPlace f_reached f_length f_begins f_sort f_value f_word f_wrongAt f_laterFault f_laterPlace a_told a_read f_farHut f_farSinger f_good x2 y0 y1 post_2) : q_m_readText_138 a_tape a_fault a_faultPlace f_reached f_length f_begins f_sort f_value f_word f_wrongAt f_laterFault f_laterPlace a_told a_read f_farHut f_farSinger f_good x2 y0 y1 post_3 := ⟨h1.1, fun v1 e2 => ⟨fun c3 => ⟨fun c4 => cj_q_m_readText_170 h_post (((h1.2 v1 e2).1 c3).1 c4) (((h2.2 v1 e2).1 c3).1 c4), fun c5 => cj_q_m_readText_170 h_post (((h1.2 v1 e2).1 c3).2 c5) (((h2.2 v1 e2).1 c3).2 c5)⟩, fun c6 => cj_q_m_readText_170 h_post ((h1.2 v1 e2).2 c6) ((h2.2 v1 e2).2 c6)⟩⟩
set_option maxRecDepth 40000 in
theorem cj_q_m_readText_121 {a_tape : Nat → Int32} {a_fault : Nat → Int32} {a_faultPlace : Nat → Int32} {f_reached : Int32} {f_length : Int32} {f_begins : Int32} {f_sort : Int32} {f_value : Int32} {f_word : Int64} {f_wrongAt : Int32} {f_laterFault : Int32} {f_laterPlace : Int32} {a_told : Nat → Int32} {a_read : Nat → Int32} {f_farHut : Int32} {f_farSinger : Int32} {f_good : Int32} {x2 : Int32} {post_1 post_2 post_3 : Int32 → (Nat → Int32) → (Nat → Int32) → (Int32) → (Int32) → (Int32) → (Int32) → (Int64) → (Int32) → (Int32) → (Int32) → (Nat → Int32) → (Nat → Int32) → (Int32) → (Int32) → (Int32) → Prop} (h_post : ∀ x0 x1 x2 x3 x4 x5 x6 x7 x8 x9 x10 x11 x12 x13 x14 x15, post_1 x0 x1 x2 x3 x4 x5 x6 x7 x8 x9 x10 x11 x12 x13 x14 x15 → post_2 x0 x1 x2 x3 x4 x5 x6 x7 x8 x9 x10 x11 x12 x13 x14 x15 → post_3 x0 x1 x2 x3 x4 x5 x6 x7 x8 x9 x10 x11 x12 x13 x14 x15) (h1 : q_m_readText_121 a_tape a_fault a_faultPlace f_reached f_length f_begins f_sort f_value f_word f_wrongAt f_laterFault f_laterPlace a_told a_read f_farHut f_farSinger f_good x2 post_1) (h2 : q_m_readText_121 a_tape a_fault a_faultPlace f_reached f_length f_begins f_sort f_value f_word f_wrongAt f_laterFault f_laterPlace a_told a_read f_farHut f_farSinger f_good x2 post_2) : q_m_readText_121 a_tape a_fault a_faultPlace f_reached f_length f_begins f_sort f_value f_word f_wrongAt f_laterFault f_laterPlace a_told a_read f_farHut f_farSinger f_good x2 post_3 := ⟨fun c1 => cj_q_m_readText_138 h_post (h1.1 c1) (h2.1 c1), fun c2 => cj_q_m_readText_138 h_post (h1.2 c2) (h2.2 c2)⟩
set_option maxRecDepth 40000 in
theorem cj_q_m_readText_112 {a_tape : Nat → Int32} {a_fault : Nat → Int32} {a_faultPlace : Nat → Int32} {f_reached : Int32} {f_length : Int32} {f_begins : Int32} {f_sort : Int32} {f_value : Int32} {f_word : Int64} {f_wrongAt : Int32} {f_laterFault : Int32} {f_laterPlace : Int32} {a_told : Nat → Int32} {a_read : Nat → Int32} {f_farHut : Int32} {f_farSinger : Int32} {f_good : Int32} {x2 : Int32} {post_1 post_2 post_3 : Int32 → (Nat → Int32) → (Nat → Int32) → (Int32) → (Int32) → (Int32) → (Int32) → (Int64) → (Int32) → (Int32) → (Int32) → (Nat → Int32) → (Nat → Int32) → (Int32) → (Int32) → (Int32) → Prop} (h_post : ∀ x0 x1 x2 x3 x4 x5 x6 x7 x8 x9 x10 x11 x12 x13 x14 x15, post_1 x0 x1 x2 x3 x4 x5 x6 x7 x8 x9 x10 x11 x12 x13 x14 x15 → post_2 x0 x1 x2 x3 x4 x5 x6 x7 x8 x9 x10 x11 x12 x13 x14 x15 → post_3 x0 x1 x2 x3 x4 x5 x6 x7 x8 x9 x10 x11 x12 x13 x14 x15) (h1 : q_m_readText_112 a_tape a_fault a_faultPlace f_reached f_length f_begins f_sort f_value f_word f_wrongAt f_laterFault f_laterPlace a_told a_read f_farHut f_farSinger f_good x2 post_1) (h2 : q_m_readText_112 a_tape a_fault a_faultPlace f_reached f_length f_begins f_sort f_value f_word f_wrongAt f_laterFault f_laterPlace a_told a_read f_farHut f_farSinger f_good x2 post_2) : q_m_readText_112 a_tape a_fault a_faultPlace f_reached f_length f_begins f_sort f_value f_word f_wrongAt f_laterFault f_laterPlace a_told a_read f_farHut f_farSinger f_good x2 post_3 := cj_q_m_later_0 (fun _ _ h1 h2 => cj_q_m_readText_121 h_post h1 h2) h1 h2
set_option maxRecDepth 40000 in
theorem cj_q_m_readText_41 {a_tape : Nat → Int32} {a_fault : Nat → Int32} {a_faultPlace : Nat → Int32} {f_reached : Int32} {f_length : Int32} {f_begins : Int32} {f_sort : Int32} {f_value : Int32} {f_word : Int64} {f_wrongAt : Int32} {f_laterFault : Int32} {f_laterPlace : Int32} {a_told : Nat → Int32} {a_read : Nat → Int32} {f_farHut : Int32} {f_farSinger : Int32} {f_good : Int32} {x1 : Int32} {post_1 post_2 post_3 : Int32 → (Nat → Int32) → (Nat → Int32) → (Int32) → (Int32) → (Int32) → (Int32) → (Int64) → (Int32) → (Int32) → (Int32) → (Nat → Int32) → (Nat → Int32) → (Int32) → (Int32) → (Int32) → Prop} (h_post : ∀ x0 x1 x2 x3 x4 x5 x6 x7 x8 x9 x10 x11 x12 x13 x14 x15, post_1 x0 x1 x2 x3 x4 x5 x6 x7 x8 x9 x10 x11 x12 x13 x14 x15 → post_2 x0 x1 x2 x3 x4 x5 x6 x7 x8 x9 x10 x11 x12 x13 x14 x15 → post_3 x0 x1 x2 x3 x4 x5 x6 x7 x8 x9 x10 x11 x12 x13 x14 x15) (h1 : q_m_readText_41 a_tape a_fault a_faultPlace f_reached f_length f_begins f_sort f_value f_word f_wrongAt f_laterFault f_laterPlace a_told a_read f_farHut f_farSinger f_good x1 post_1) (h2 : q_m_readText_41 a_tape a_fault a_faultPlace f_reached f_length f_begins f_sort f_value f_word f_wrongAt f_laterFault f_laterPlace a_told a_read f_farHut f_farSinger f_good x1 post_2) : q_m_readText_41 a_tape a_fault a_faultPlace f_reached f_length f_begins f_sort f_value f_word f_wrongAt f_laterFault f_laterPlace a_told a_read f_farHut f_farSinger f_good x1 post_3 := cj_q_m_token_0 (fun _ _ _ _ _ h1 h2 => cj_q_m_lines_0 (fun _ _ _ _ _ _ _ _ _ _ _ _ _ _ h3 h4 => ⟨fun c5 => cj_q_m_readText_121 h_post (h3.1 c5) (h4.1 c5), fun c6 => ⟨fun c7 => cj_q_m_readText_121 h_post ((h3.2 c6).1 c7) ((h4.2 c6).1 c7), fun c8 => ⟨fun c9 => cj_q_m_readText_121 h_post (((h3.2 c6).2 c8).1 c9) (((h4.2 c6).2 c8).1 c9), fun c10 => ⟨fun c11 => cj_q_m_readText_112 h_post ((((h3.2 c6).2 c8).2 c10).1 c11) ((((h4.2 c6).2 c8).2 c10).1 c11), fun c12 => ⟨fun c13 => cj_q_m_readText_121 h_post (((((h3.2 c6).2 c8).2 c10).2 c12).1 c13) (((((h4.2 c6).2 c8).2 c10).2 c12).1 c13), fun c14 => cj_q_m_readText_112 h_post (((((h3.2 c6).2 c8).2 c10).2 c12).2 c14) (((((h4.2 c6).2 c8).2 c10).2 c12).2 c14)⟩⟩⟩⟩⟩) h1 h2) h1 h2
set_option maxRecDepth 40000 in
theorem cj_q_m_readText_2 {a_tape : Nat → Int32} {a_fault : Nat → Int32} {a_faultPlace : Nat → Int32} {f_reached : Int32} {f_length : Int32} {f_begins : Int32} {f_sort : Int32} {f_value : Int32} {f_word : Int64} {f_wrongAt : Int32} {f_laterFault : Int32} {f_laterPlace : Int32} {a_told : Nat → Int32} {a_read : Nat → Int32} {f_farHut : Int32} {f_farSinger : Int32} {f_good : Int32} {x1 : Int32} {x2 : Int32} {post_1 post_2 post_3 : Int32 → (Nat → Int32) → (Nat → Int32) → (Int32) → (Int32) → (Int32) → (Int32) → (Int64) → (Int32) → (Int32) → (Int32) → (Nat → Int32) → (Nat → Int32) → (Int32) → (Int32) → (Int32) → Prop} (h_post : ∀ x0 x1 x2 x3 x4 x5 x6 x7 x8 x9 x10 x11 x12 x13 x14 x15, post_1 x0 x1 x2 x3 x4 x5 x6 x7 x8 x9 x10 x11 x12 x13 x14 x15 → post_2 x0 x1 x2 x3 x4 x5 x6 x7 x8 x9 x10 x11 x12 x13 x14 x15 → post_3 x0 x1 x2 x3 x4 x5 x6 x7 x8 x9 x10 x11 x12 x13 x14 x15) (h1 : q_m_readText_2 a_tape a_fault a_faultPlace f_reached f_length f_begins f_sort f_value f_word f_wrongAt f_laterFault f_laterPlace a_told a_read f_farHut f_farSinger f_good x1 x2 post_1) (h2 : q_m_readText_2 a_tape a_fault a_faultPlace f_reached f_length f_begins f_sort f_value f_word f_wrongAt f_laterFault f_laterPlace a_told a_read f_farHut f_farSinger f_good x1 x2 post_2) : q_m_readText_2 a_tape a_fault a_faultPlace f_reached f_length f_begins f_sort f_value f_word f_wrongAt f_laterFault f_laterPlace a_told a_read f_farHut f_farSinger f_good x1 x2 post_3 := lfp_2 h1 h2 (fun A B C hsk1 _ _ hak1 hck1 => ⟨fun c2 => ⟨fun c3 => cj_q_m_readText_41 h_post ((hak1.1 c2).1 c3) ((hck1.1 c2).1 c3), fun c4 => fun v5 e6 => fun v7 e8 => cj_q_m_readText_41 h_post ((((hak1.1 c2).2 c4) v5 e6) v7 e8) ((((hck1.1 c2).2 c4) v5 e6) v7 e8)⟩, fun c9 => ⟨(hak1.2 c9).1, fun v10 e11 => fun v12 e13 => hsk1 _ _ (((hak1.2 c9).2 v10 e11) v12 e13) (((hck1.2 c9).2 v10 e11) v12 e13)⟩⟩) (fun A B hqk1 _ _ hbk1 => ⟨fun c14 => ⟨fun c15 => cj_q_m_readText_41 (fun _ _ _ _ _ _ _ _ _ _ _ _ _ _ _ _ h _ => h) ((hbk1.1 c14).1 c15) ((hbk1.1 c14).1 c15), fun c16 => fun v17 e18 => fun v19 e20 => cj_q_m_readText_41 (fun _ _ _ _ _ _ _ _ _ _ _ _ _ _ _ _ h _ => h) ((((hbk1.1 c14).2 c16) v17 e18) v19 e20) ((((hbk1.1 c14).2 c16) v17 e18) v19 e20)⟩, fun c21 => ⟨(hbk1.2 c21).1, fun v22 e23 => fun v24 e25 => hqk1 _ _ (((hbk1.2 c21).2 v22 e23) v24 e25)⟩⟩)
set_option maxRecDepth 40000 in
theorem cj_q_m_readText_0 {a_tape : Nat → Int32} {a_fault : Nat → Int32} {a_faultPlace : Nat → Int32} {f_reached : Int32} {f_length : Int32} {f_begins : Int32} {f_sort : Int32} {f_value : Int32} {f_word : Int64} {f_wrongAt : Int32} {f_laterFault : Int32} {f_laterPlace : Int32} {a_told : Nat → Int32} {a_read : Nat → Int32} {f_farHut : Int32} {f_farSinger : Int32} {f_good : Int32} {x1 : Int32} {post_1 post_2 post_3 : Int32 → (Nat → Int32) → (Nat → Int32) → (Int32) → (Int32) → (Int32) → (Int32) → (Int64) → (Int32) → (Int32) → (Int32) → (Nat → Int32) → (Nat → Int32) → (Int32) → (Int32) → (Int32) → Prop} (h_post : ∀ x0 x1 x2 x3 x4 x5 x6 x7 x8 x9 x10 x11 x12 x13 x14 x15, post_1 x0 x1 x2 x3 x4 x5 x6 x7 x8 x9 x10 x11 x12 x13 x14 x15 → post_2 x0 x1 x2 x3 x4 x5 x6 x7 x8 x9 x10 x11 x12 x13 x14 x15 → post_3 x0 x1 x2 x3 x4 x5 x6 x7 x8 x9 x10 x11 x12 x13 x14 x15) (h1 : q_m_readText_0 a_tape a_fault a_faultPlace f_reached f_length f_begins f_sort f_value f_word f_wrongAt f_laterFault f_laterPlace a_told a_read f_farHut f_farSinger f_good x1 post_1) (h2 : q_m_readText_0 a_tape a_fault a_faultPlace f_reached f_length f_begins f_sort f_value f_word f_wrongAt f_laterFault f_laterPlace a_told a_read f_farHut f_farSinger f_good x1 post_2) : q_m_readText_0 a_tape a_fault a_faultPlace f_reached f_length f_begins f_sort f_value f_word f_wrongAt f_laterFault f_laterPlace a_told a_read f_farHut f_farSinger f_good x1 post_3 := cj_q_m_readText_2 h_post h1 h2
set_option maxRecDepth 40000 in
theorem cj_q_m_store_6_3 {a_lands : Nat → Int32} {a_told : Nat → Int32} {x2 : Int32} {x3 : Int32} {x4 : Int32} {post_1 post_2 post_3 : (Nat → Int32) → Prop} (h_post : ∀ x0, post_1 x0 → post_2 x0 → post_3 x0) (h1 : q_m_store_6_3 a_lands a_told x2 x3 x4 post_1) (h2 : q_m_store_6_3 a_lands a_told x2 x3 x4 post_2) : q_m_store_6_3 a_lands a_told x2 x3 x4 post_3 := lfp_2 h1 h2 (fun A B C hsk1 _ _ hak1 hck1 => ⟨fun c2 => h_post _ (hak1.1 c2) (hck1.1 c2), fun c3 => ⟨(hak1.2 c3).1, fun v4 e5 => ⟨((hak1.2 c3).2 v4 e5).1, fun v6 e7 => fun v8 e9 => hsk1 _ _ ((((hak1.2 c3).2 v4 e5).2 v6 e7) v8 e9) ((((hck1.2 c3).2 v4 e5).2 v6 e7) v8 e9)⟩⟩⟩) (fun A B hqk1 _ _ hbk1 => ⟨fun c10 => (hbk1.1 c10), fun c11 => ⟨(hbk1.2 c11).1, fun v12 e13 => ⟨((hbk1.2 c11).2 v12 e13).1, fun v14 e15 => fun v16 e17 => hqk1 _ _ ((((hbk1.2 c11).2 v12 e13).2 v14 e15) v16 e17)⟩⟩⟩)
set_option maxRecDepth 40000 in
theorem cj_q_m_store_6_0 {a_lands : Nat → Int32} {a_told : Nat → Int32} {x2 : Int32} {x3 : Int32} {post_1 post_2 post_3 : (Nat → Int32) → Prop} (h_post : ∀ x0, post_1 x0 → post_2 x0 → post_3 x0) (h1 : q_m_store_6_0 a_lands a_told x2 x3 post_1) (h2 : q_m_store_6_0 a_lands a_told x2 x3 post_2) : q_m_store_6_0 a_lands a_told x2 x3 post_3 := cj_q_m_store_6_3 h_post h1 h2
set_option maxRecDepth 40000 in
theorem cj_q_m_store_7_3 {a_evenings : Nat → Int32} {a_told : Nat → Int32} {x2 : Int32} {x3 : Int32} {x4 : Int32} {post_1 post_2 post_3 : (Nat → Int32) → Prop} (h_post : ∀ x0, post_1 x0 → post_2 x0 → post_3 x0) (h1 : q_m_store_7_3 a_evenings a_told x2 x3 x4 post_1) (h2 : q_m_store_7_3 a_evenings a_told x2 x3 x4 post_2) : q_m_store_7_3 a_evenings a_told x2 x3 x4 post_3 := lfp_2 h1 h2 (fun A B C hsk1 _ _ hak1 hck1 => ⟨fun c2 => h_post _ (hak1.1 c2) (hck1.1 c2), fun c3 => ⟨(hak1.2 c3).1, fun v4 e5 => ⟨((hak1.2 c3).2 v4 e5).1, fun v6 e7 => fun v8 e9 => hsk1 _ _ ((((hak1.2 c3).2 v4 e5).2 v6 e7) v8 e9) ((((hck1.2 c3).2 v4 e5).2 v6 e7) v8 e9)⟩⟩⟩) (fun A B hqk1 _ _ hbk1 => ⟨fun c10 => (hbk1.1 c10), fun c11 => ⟨(hbk1.2 c11).1, fun v12 e13 => ⟨((hbk1.2 c11).2 v12 e13).1, fun v14 e15 => fun v16 e17 => hqk1 _ _ ((((hbk1.2 c11).2 v12 e13).2 v14 e15) v16 e17)⟩⟩⟩)
set_option maxRecDepth 40000 in
theorem cj_q_m_store_7_0 {a_evenings : Nat → Int32} {a_told : Nat → Int32} {x2 : Int32} {x3 : Int32} {post_1 post_2 post_3 : (Nat → Int32) → Prop} (h_post : ∀ x0, post_1 x0 → post_2 x0 → post_3 x0) (h1 : q_m_store_7_0 a_evenings a_told x2 x3 post_1) (h2 : q_m_store_7_0 a_evenings a_told x2 x3 post_2) : q_m_store_7_0 a_evenings a_told x2 x3 post_3 := cj_q_m_store_7_3 h_post h1 h2
set_option maxRecDepth 40000 in
theorem cj_q_m_store_8_3 {a_sights : Nat → Int32} {a_told : Nat → Int32} {x2 : Int32} {x3 : Int32} {x4 : Int32} {post_1 post_2 post_3 : (Nat → Int32) → Prop} (h_post : ∀ x0, post_1 x0 → post_2 x0 → post_3 x0) (h1 : q_m_store_8_3 a_sights a_told x2 x3 x4 post_1) (h2 : q_m_store_8_3 a_sights a_told x2 x3 x4 post_2) : q_m_store_8_3 a_sights a_told x2 x3 x4 post_3 := lfp_2 h1 h2 (fun A B C hsk1 _ _ hak1 hck1 => ⟨fun c2 => h_post _ (hak1.1 c2) (hck1.1 c2), fun c3 => ⟨(hak1.2 c3).1, fun v4 e5 => ⟨((hak1.2 c3).2 v4 e5).1, fun v6 e7 => fun v8 e9 => hsk1 _ _ ((((hak1.2 c3).2 v4 e5).2 v6 e7) v8 e9) ((((hck1.2 c3).2 v4 e5).2 v6 e7) v8 e9)⟩⟩⟩) (fun A B hqk1 _ _ hbk1 => ⟨fun c10 => (hbk1.1 c10), fun c11 => ⟨(hbk1.2 c11).1, fun v12 e13 => ⟨((hbk1.2 c11).2 v12 e13).1, fun v14 e15 => fun v16 e17 => hqk1 _ _ ((((hbk1.2 c11).2 v12 e13).2 v14 e15) v16 e17)⟩⟩⟩)
set_option maxRecDepth 40000 in
theorem cj_q_m_store_8_0 {a_sights : Nat → Int32} {a_told : Nat → Int32} {x2 : Int32} {x3 : Int32} {post_1 post_2 post_3 : (Nat → Int32) → Prop} (h_post : ∀ x0, post_1 x0 → post_2 x0 → post_3 x0) (h1 : q_m_store_8_0 a_sights a_told x2 x3 post_1) (h2 : q_m_store_8_0 a_sights a_told x2 x3 post_2) : q_m_store_8_0 a_sights a_told x2 x3 post_3 := cj_q_m_store_8_3 h_post h1 h2
set_option maxRecDepth 40000 in
theorem cj_q_m_store_9_3 {a_choirs : Nat → Int32} {a_told : Nat → Int32} {x2 : Int32} {x3 : Int32} {x4 : Int32} {post_1 post_2 post_3 : (Nat → Int32) → Prop} (h_post : ∀ x0, post_1 x0 → post_2 x0 → post_3 x0) (h1 : q_m_store_9_3 a_choirs a_told x2 x3 x4 post_1) (h2 : q_m_store_9_3 a_choirs a_told x2 x3 x4 post_2) : q_m_store_9_3 a_choirs a_told x2 x3 x4 post_3 := lfp_2 h1 h2 (fun A B C hsk1 _ _ hak1 hck1 => ⟨fun c2 => h_post _ (hak1.1 c2) (hck1.1 c2), fun c3 => ⟨(hak1.2 c3).1, fun v4 e5 => ⟨((hak1.2 c3).2 v4 e5).1, fun v6 e7 => fun v8 e9 => hsk1 _ _ ((((hak1.2 c3).2 v4 e5).2 v6 e7) v8 e9) ((((hck1.2 c3).2 v4 e5).2 v6 e7) v8 e9)⟩⟩⟩) (fun A B hqk1 _ _ hbk1 => ⟨fun c10 => (hbk1.1 c10), fun c11 => ⟨(hbk1.2 c11).1, fun v12 e13 => ⟨((hbk1.2 c11).2 v12 e13).1, fun v14 e15 => fun v16 e17 => hqk1 _ _ ((((hbk1.2 c11).2 v12 e13).2 v14 e15) v16 e17)⟩⟩⟩)
set_option maxRecDepth 40000 in
theorem cj_q_m_store_9_0 {a_choirs : Nat → Int32} {a_told : Nat → Int32} {x2 : Int32} {x3 : Int32} {post_1 post_2 post_3 : (Nat → Int32) → Prop} (h_post : ∀ x0, post_1 x0 → post_2 x0 → post_3 x0) (h1 : q_m_store_9_0 a_choirs a_told x2 x3 post_1) (h2 : q_m_store_9_0 a_choirs a_told x2 x3 post_2) : q_m_store_9_0 a_choirs a_told x2 x3 post_3 := cj_q_m_store_9_3 h_post h1 h2
set_option maxRecDepth 40000 in
theorem cj_q_m_storeAll_0 {a_lands : Nat → Int32} {a_evenings : Nat → Int32} {a_sights : Nat → Int32} {a_choirs : Nat → Int32} {a_told : Nat → Int32} {x1 : Int32} {x2 : Int32} {post_1 post_2 post_3 : (Nat → Int32) → (Nat → Int32) → (Nat → Int32) → (Nat → Int32) → Prop} (h_post : ∀ x0 x1 x2 x3, post_1 x0 x1 x2 x3 → post_2 x0 x1 x2 x3 → post_3 x0 x1 x2 x3) (h1 : q_m_storeAll_0 a_lands a_evenings a_sights a_choirs a_told x1 x2 post_1) (h2 : q_m_storeAll_0 a_lands a_evenings a_sights a_choirs a_told x1 x2 post_2) : q_m_storeAll_0 a_lands a_evenings a_sights a_choirs a_told x1 x2 post_3 := ⟨fun c1 => cj_q_m_store_9_0 (fun _ h2 h3 => h_post _ _ _ _ h2 h3) (h1.1 c1) (h2.1 c1), fun c4 => cj_q_m_store_6_0 (fun _ h5 h6 => h_post _ _ _ _ h5 h6) (h1.2.1 c4) (h2.2.1 c4), fun c7 => cj_q_m_store_7_0 (fun _ h8 h9 => h_post _ _ _ _ h8 h9) (h1.2.2.1 c7) (h2.2.2.1 c7), fun c10 => cj_q_m_store_8_0 (fun _ h11 h12 => h_post _ _ _ _ h11 h12) (h1.2.2.2 c10) (h2.2.2.2 c10)⟩
set_option maxRecDepth 40000 in
theorem cj_q_m_text_118 {f_code : Int32} {a_tape : Nat → Int32} {a_size : Nat → Int32} {a_fault : Nat → Int32} {a_faultPlace : Nat → Int32} {a_many : Nat → Int32} {a_lands : Nat → Int32} {a_evenings : Nat → Int32} {a_sights : Nat → Int32} {a_choirs : Nat → Int32} {f_reached : Int32} {f_length : Int32} {f_begins : Int32} {f_sort : Int32} {f_value : Int32} {f_word : Int64} {f_wrongAt : Int32} {f_laterFault : Int32} {f_laterPlace : Int32} {a_told : Nat → Int32} {a_read : Nat → Int32} {f_farHut : Int32} {f_farSinger : Int32} {f_good : Int32} {x1 : Int32} {x3 : Int32} {y0 : Int32} {y1 : Int32} {y2 : Int32} {post_1 post_2 post_3 : Int32 → (Int32) → (Nat → Int32) → (Nat → Int32) → (Nat → Int32) → (Nat → Int32) → (Nat → Int32) → (Nat → Int32) → (Nat → Int32) → (Nat → Int32) → (Int32) → (Int32) → (Int32) → (Int32) → (Int32) → (Int64) → (Int32) → (Int32) → (Int32) → (Nat → Int32) → (Nat → Int32) → (Int32) → (Int32) → (Int32) → Prop} (h_post : ∀ x0 x1 x2 x3 x4 x5 x6 x7 x8 x9 x10 x11 x12 x13 x14 x15 x16 x17 x18 x19 x20 x21 x22 x23, post_1 x0 x1 x2 x3 x4 x5 x6 x7 x8 x9 x10 x11 x12 x13 x14 x15 x16 x17 x18 x19 x20 x21 x22 x23 → post_2 x0 x1 x2 x3 x4 x5 x6 x7 x8 x9 x10 x11 x12 x13 x14 x15 x16 x17 x18 x19 x20 x21 x22 x23 → post_3 x0 x1 x2 x3 x4 x5 x6 x7 x8 x9 x10 x11 x12 x13 x14 x15 x16 x17 x18 x19 x20 x21 x22 x23) (h1 : q_m_text_118 f_code a_tape a_size a_fault a_faultPlace a_many a_lands a_evenings a_sights a_choirs f_reached f_length f_begins f_sort f_value f_word f_wrongAt f_laterFault f_laterPlace a_told a_read f_farHut f_farSinger f_good x1 x3 y0 y1 y2 post_1) (h2 : q_m_text_118 f_code a_tape a_size a_fault a_faultPlace a_many a_lands a_evenings a_sights a_choirs f_reached f_length f_begins f_sort f_value f_word f_wrongAt f_laterFault f_laterPlace a_told a_read f_farHut f_farSinger f_good x1 x3 y0 y1 y2 post_2) : q_m_text_118 f_code a_tape a_size a_fault a_faultPlace a_many a_lands a_evenings a_sights a_choirs f_reached f_length f_begins f_sort f_value f_word f_wrongAt f_laterFault f_laterPlace a_told a_read f_farHut f_farSinger f_good x1 x3 y0 y1 y2 post_3 := fun v1 e2 => ⟨(h1 v1 e2).1, fun v3 e4 => cj_q_m_storeAll_0 (fun _ _ _ _ h5 h6 => h_post _ _ _ _ _ _ _ _ _ _ _ _ _ _ _ _ _ _ _ _ _ _ _ _ h5 h6) ((h1 v1 e2).2 v3 e4) ((h2 v1 e2).2 v3 e4)⟩
set_option maxRecDepth 40000 in
theorem cj_q_m_text_100 {f_code : Int32} {a_tape : Nat → Int32} {a_size : Nat → Int32} {a_fault : Nat → Int32} {a_faultPlace : Nat → Int32} {a_many : Nat → Int32} {a_lands : Nat → Int32} {a_evenings : Nat → Int32} {a_sights : Nat → Int32} {a_choirs : Nat → Int32} {f_reached : Int32} {f_length : Int32} {f_begins : Int32} {f_sort : Int32} {f_value : Int32} {f_word : Int64} {f_wrongAt : Int32} {f_laterFault : Int32} {f_laterPlace : Int32} {a_told : Nat → Int32} {a_read : Nat → Int32} {f_farHut : Int32} {f_farSinger : Int32} {f_good : Int32} {x1 : Int32} {x2 : Int32} {y0 : Int32} {post_1 post_2 post_3 : Int32 → (Int32) → (Nat → Int32) → (Nat → Int32) → (Nat → Int32) → (Nat → Int32) → (Nat → Int32) → (Nat → Int32) → (Nat → Int32) → (Nat → Int32) → (Int32) → (Int32) → (Int32) → (Int32) → (Int32) → (Int64) → (Int32) → (Int32) → (Int32) → (Nat → Int32) → (Nat → Int32) → (Int32) → (Int32) → (Int32) → Prop} (h_post : ∀ x0 x1 x2 x3 x4 x5 x6 x7 x8 x9 x10 x11 x12 x13 x14 x15 x16 x17 x18 x19 x20 x21 x22 x23, post_1 x0 x1 x2 x3 x4 x5 x6 x7 x8 x9 x10 x11 x12 x13 x14 x15 x16 x17 x18 x19 x20 x21 x22 x23 → post_2 x0 x1 x2 x3 x4 x5 x6 x7 x8 x9 x10 x11 x12 x13 x14 x15 x16 x17 x18 x19 x20 x21 x22 x23 → post_3 x0 x1 x2 x3 x4 x5 x6 x7 x8 x9 x10 x11 x12 x13 x14 x15 x16 x17 x18 x19 x20 x21 x22 x23) (h1 : q_m_text_100 f_code a_tape a_size a_fault a_faultPlace a_many a_lands a_evenings a_sights a_choirs f_reached f_length f_begins f_sort f_value f_word f_wrongAt f_laterFault f_laterPlace a_told a_read f_farHut f_farSinger f_good x1 x2 y0 post_1) (h2 : q_m_text_100 f_code a_tape a_size a_fault a_faultPlace a_many a_lands a_evenings a_sights a_choirs f_reached f_length f_begins f_sort f_value f_word f_wrongAt f_laterFault f_laterPlace a_told a_read f_farHut f_farSinger f_good x1 x2 y0 post_2) : q_m_text_100 f_code a_tape a_size a_fault a_faultPlace a_many a_lands a_evenings a_sights a_choirs f_reached f_length f_begins f_sort f_value f_word f_wrongAt f_laterFault f_laterPlace a_told a_read f_farHut f_farSinger f_good x1 x2 y0 post_3 := ⟨h1.1, ⟨fun c1 => cj_q_m_text_118 h_post (h1.2.1 c1) (h2.2.1 c1), fun c2 => cj_q_m_text_118 h_post (h1.2.2 c2) (h2.2.2 c2)⟩⟩
set_option maxRecDepth 40000 in
theorem cj_q_m_text_75 {f_code : Int32} {a_tape : Nat → Int32} {a_size : Nat → Int32} {a_fault : Nat → Int32} {a_faultPlace : Nat → Int32} {a_many : Nat → Int32} {a_lands : Nat → Int32} {a_evenings : Nat → Int32} {a_sights : Nat → Int32} {a_choirs : Nat → Int32} {f_reached : Int32} {f_length : Int32} {f_begins : Int32} {f_sort : Int32} {f_value : Int32} {f_word : Int64} {f_wrongAt : Int32} {f_laterFault : Int32} {f_laterPlace : Int32} {a_told : Nat → Int32} {a_read : Nat → Int32} {f_farHut : Int32} {f_farSinger : Int32} {f_good : Int32} {x1 : Int32} {x2 : Int32} {post_1 post_2 post_3 : Int32 → (Int32) → (Nat → Int32) → (Nat → Int32) → (Nat → Int32) → (Nat → Int32) → (Nat → Int32) → (Nat → Int32) → (Nat → Int32) → (Nat → Int32) → (Int32) → (Int32) → (Int32) → (Int32) → (Int32) → (Int64) → (Int32) → (Int32) → (Int32) → (Nat → Int32) → (Nat → Int32) → (Int32) → (Int32) → (Int32) → Prop} (h_post : ∀ x0 x1 x2 x3 x4 x5 x6 x7 x8 x9 x10 x11 x12 x13 x14 x15 x16 x17 x18 x19 x20 x21 x22 x23, post_1 x0 x1 x2 x3 x4 x5 x6 x7 x8 x9 x10 x11 x12 x13 x14 x15 x16 x17 x18 x19 x20 x21 x22 x23 → post_2 x0 x1 x2 x3 x4 x5 x6 x7 x8 x9 x10 x11 x12 x13 x14 x15 x16 x17 x18 x19 x20 x21 x22 x23 → post_3 x0 x1 x2 x3 x4 x5 x6 x7 x8 x9 x10 x11 x12 x13 x14 x15 x16 x17 x18 x19 x20 x21 x22 x23) (h1 : q_m_text_75 f_code a_tape a_size a_fault a_faultPlace a_many a_lands a_evenings a_sights a_choirs f_reached f_length f_begins f_sort f_value f_word f_wrongAt f_laterFault f_laterPlace a_told a_read f_farHut f_farSinger f_good x1 x2 post_1) (h2 : q_m_text_75 f_code a_tape a_size a_fault a_faultPlace a_many a_lands a_evenings a_sights a_choirs f_reached f_length f_begins f_sort f_value f_word f_wrongAt f_laterFault f_laterPlace a_told a_read f_farHut f_farSinger f_good x1 x2 post_2) : q_m_text_75 f_code a_tape a_size a_fault a_faultPlace a_many a_lands a_evenings a_sights a_choirs f_reached f_length f_begins f_sort f_value f_word f_wrongAt f_laterFault f_laterPlace a_told a_read f_farHut f_farSinger f_good x1 x2 post_3 := cj_q_m_readText_0 (fun _ _ _ _ _ _ _ _ _ _ _ _ _ _ _ _ h1 h2 => ⟨fun c3 => ⟨fun c4 => cj_q_m_text_100 h_post ((h1.1 c3).1 c4) ((h2.1 c3).1 c4), fun c5 => ⟨((h1.1 c3).2 c5).1, cj_q_m_text_100 h_post ((h1.1 c3).2 c5).2 ((h2.1 c3).2 c5).2⟩⟩, fun c6 => h_post _ _ _ _ _ _ _ _ _ _ _ _ _ _ _ _ _ _ _ _ _ _ _ _ (h1.2 c6) (h2.2 c6)⟩) h1 h2
set_option maxRecDepth 40000 in
theorem cj_q_m_text_0 {f_code : Int32} {a_tape : Nat → Int32} {a_size : Nat → Int32} {a_fault : Nat → Int32} {a_faultPlace : Nat → Int32} {a_many : Nat → Int32} {a_lands : Nat → Int32} {a_evenings : Nat → Int32} {a_sights : Nat → Int32} {a_choirs : Nat → Int32} {f_reached : Int32} {f_length : Int32} {f_begins : Int32} {f_sort : Int32} {f_value : Int32} {f_word : Int64} {f_wrongAt : Int32} {f_laterFault : Int32} {f_laterPlace : Int32} {a_told : Nat → Int32} {a_read : Nat → Int32} {f_farHut : Int32} {f_farSinger : Int32} {f_good : Int32} {x1 : Int32} {x2 : Int32} {post_1 post_2 post_3 : Int32 → (Int32) → (Nat → Int32) → (Nat → Int32) → (Nat → Int32) → (Nat → Int32) → (Nat → Int32) → (Nat → Int32) → (Nat → Int32) → (Nat → Int32) → (Int32) → (Int32) → (Int32) → (Int32) → (Int32) → (Int64) → (Int32) → (Int32) → (Int32) → (Nat → Int32) → (Nat → Int32) → (Int32) → (Int32) → (Int32) → Prop} (h_post : ∀ x0 x1 x2 x3 x4 x5 x6 x7 x8 x9 x10 x11 x12 x13 x14 x15 x16 x17 x18 x19 x20 x21 x22 x23, post_1 x0 x1 x2 x3 x4 x5 x6 x7 x8 x9 x10 x11 x12 x13 x14 x15 x16 x17 x18 x19 x20 x21 x22 x23 → post_2 x0 x1 x2 x3 x4 x5 x6 x7 x8 x9 x10 x11 x12 x13 x14 x15 x16 x17 x18 x19 x20 x21 x22 x23 → post_3 x0 x1 x2 x3 x4 x5 x6 x7 x8 x9 x10 x11 x12 x13 x14 x15 x16 x17 x18 x19 x20 x21 x22 x23) (h1 : q_m_text_0 f_code a_tape a_size a_fault a_faultPlace a_many a_lands a_evenings a_sights a_choirs f_reached f_length f_begins f_sort f_value f_word f_wrongAt f_laterFault f_laterPlace a_told a_read f_farHut f_farSinger f_good x1 x2 post_1) (h2 : q_m_text_0 f_code a_tape a_size a_fault a_faultPlace a_many a_lands a_evenings a_sights a_choirs f_reached f_length f_begins f_sort f_value f_word f_wrongAt f_laterFault f_laterPlace a_told a_read f_farHut f_farSinger f_good x1 x2 post_2) : q_m_text_0 f_code a_tape a_size a_fault a_faultPlace a_many a_lands a_evenings a_sights a_choirs f_reached f_length f_begins f_sort f_value f_word f_wrongAt f_laterFault f_laterPlace a_told a_read f_farHut f_farSinger f_good x1 x2 post_3 := fun v1 e2 => fun v3 e4 => fun v5 e6 => fun v7 e8 => cj_q_m_in_0 (fun _ h9 h10 => ⟨fun c11 => h_post _ _ _ _ _ _ _ _ _ _ _ _ _ _ _ _ _ _ _ _ _ _ _ _ (h9.1 c11) (h10.1 c11), fun c12 => ⟨fun c13 => cj_q_m_is_0 (fun _ h14 h15 => ⟨fun c16 => cj_q_m_text_75 h_post (h14.1 c16) (h15.1 c16), fun c17 => h_post _ _ _ _ _ _ _ _ _ _ _ _ _ _ _ _ _ _ _ _ _ _ _ _ (h14.2 c17) (h15.2 c17)⟩) ((h9.2 c12).1 c13) ((h10.2 c12).1 c13), fun c18 => ⟨((h9.2 c12).2 c18).1, ⟨fun c19 => cj_q_m_text_75 h_post (((h9.2 c12).2 c18).2.1 c19) (((h10.2 c12).2 c18).2.1 c19), fun c20 => h_post _ _ _ _ _ _ _ _ _ _ _ _ _ _ _ _ _ _ _ _ _ _ _ _ (((h9.2 c12).2 c18).2.2 c20) (((h10.2 c12).2 c18).2.2 c20)⟩⟩⟩⟩) ((((h1 v1 e2) v3 e4) v5 e6) v7 e8) ((((h2 v1 e2) v3 e4) v5 e6) v7 e8)
set_option maxRecDepth 40000 in
theorem cj_q_m_copyRow_2_3 {a_size : Nat → Int32} {x1 : Int32} {x2 : Int32} {x3 : Int32} {x4 : Int32} {post_1 post_2 post_3 : (Nat → Int32) → Prop} (h_post : ∀ x0, post_1 x0 → post_2 x0 → post_3 x0) (h1 : q_m_copyRow_2_3 a_size x1 x2 x3 x4 post_1) (h2 : q_m_copyRow_2_3 a_size x1 x2 x3 x4 post_2) : q_m_copyRow_2_3 a_size x1 x2 x3 x4 post_3 := lfp_2 h1 h2 (fun A B C hsk1 _ _ hak1 hck1 => ⟨fun c2 => h_post _ (hak1.1 c2) (hck1.1 c2), fun c3 => ⟨(hak1.2 c3).1, fun v4 e5 => ⟨((hak1.2 c3).2 v4 e5).1, fun v6 e7 => fun v8 e9 => hsk1 _ _ ((((hak1.2 c3).2 v4 e5).2 v6 e7) v8 e9) ((((hck1.2 c3).2 v4 e5).2 v6 e7) v8 e9)⟩⟩⟩) (fun A B hqk1 _ _ hbk1 => ⟨fun c10 => (hbk1.1 c10), fun c11 => ⟨(hbk1.2 c11).1, fun v12 e13 => ⟨((hbk1.2 c11).2 v12 e13).1, fun v14 e15 => fun v16 e17 => hqk1 _ _ ((((hbk1.2 c11).2 v12 e13).2 v14 e15) v16 e17)⟩⟩⟩)
set_option maxRecDepth 40000 in
theorem cj_q_m_copyRow_2_0 {a_size : Nat → Int32} {x1 : Int32} {x2 : Int32} {x3 : Int32} {post_1 post_2 post_3 : (Nat → Int32) → Prop} (h_post : ∀ x0, post_1 x0 → post_2 x0 → post_3 x0) (h1 : q_m_copyRow_2_0 a_size x1 x2 x3 post_1) (h2 : q_m_copyRow_2_0 a_size x1 x2 x3 post_2) : q_m_copyRow_2_0 a_size x1 x2 x3 post_3 := cj_q_m_copyRow_2_3 h_post h1 h2
set_option maxRecDepth 40000 in
theorem cj_q_m_copyRow_3_3 {a_fault : Nat → Int32} {x1 : Int32} {x2 : Int32} {x3 : Int32} {x4 : Int32} {post_1 post_2 post_3 : (Nat → Int32) → Prop} (h_post : ∀ x0, post_1 x0 → post_2 x0 → post_3 x0) (h1 : q_m_copyRow_3_3 a_fault x1 x2 x3 x4 post_1) (h2 : q_m_copyRow_3_3 a_fault x1 x2 x3 x4 post_2) : q_m_copyRow_3_3 a_fault x1 x2 x3 x4 post_3 := lfp_2 h1 h2 (fun A B C hsk1 _ _ hak1 hck1 => ⟨fun c2 => h_post _ (hak1.1 c2) (hck1.1 c2), fun c3 => ⟨(hak1.2 c3).1, fun v4 e5 => ⟨((hak1.2 c3).2 v4 e5).1, fun v6 e7 => fun v8 e9 => hsk1 _ _ ((((hak1.2 c3).2 v4 e5).2 v6 e7) v8 e9) ((((hck1.2 c3).2 v4 e5).2 v6 e7) v8 e9)⟩⟩⟩) (fun A B hqk1 _ _ hbk1 => ⟨fun c10 => (hbk1.1 c10), fun c11 => ⟨(hbk1.2 c11).1, fun v12 e13 => ⟨((hbk1.2 c11).2 v12 e13).1, fun v14 e15 => fun v16 e17 => hqk1 _ _ ((((hbk1.2 c11).2 v12 e13).2 v14 e15) v16 e17)⟩⟩⟩)
set_option maxRecDepth 40000 in
theorem cj_q_m_copyRow_3_0 {a_fault : Nat → Int32} {x1 : Int32} {x2 : Int32} {x3 : Int32} {post_1 post_2 post_3 : (Nat → Int32) → Prop} (h_post : ∀ x0, post_1 x0 → post_2 x0 → post_3 x0) (h1 : q_m_copyRow_3_0 a_fault x1 x2 x3 post_1) (h2 : q_m_copyRow_3_0 a_fault x1 x2 x3 post_2) : q_m_copyRow_3_0 a_fault x1 x2 x3 post_3 := cj_q_m_copyRow_3_3 h_post h1 h2
set_option maxRecDepth 40000 in
theorem cj_q_m_copyRow_4_3 {a_faultPlace : Nat → Int32} {x1 : Int32} {x2 : Int32} {x3 : Int32} {x4 : Int32} {post_1 post_2 post_3 : (Nat → Int32) → Prop} (h_post : ∀ x0, post_1 x0 → post_2 x0 → post_3 x0) (h1 : q_m_copyRow_4_3 a_faultPlace x1 x2 x3 x4 post_1) (h2 : q_m_copyRow_4_3 a_faultPlace x1 x2 x3 x4 post_2) : q_m_copyRow_4_3 a_faultPlace x1 x2 x3 x4 post_3 := lfp_2 h1 h2 (fun A B C hsk1 _ _ hak1 hck1 => ⟨fun c2 => h_post _ (hak1.1 c2) (hck1.1 c2), fun c3 => ⟨(hak1.2 c3).1, fun v4 e5 => ⟨((hak1.2 c3).2 v4 e5).1, fun v6 e7 => fun v8 e9 => hsk1 _ _ ((((hak1.2 c3).2 v4 e5).2 v6 e7) v8 e9) ((((hck1.2 c3).2 v4 e5).2 v6 e7) v8 e9)⟩⟩⟩) (fun A B hqk1 _ _ hbk1 => ⟨fun c10 => (hbk1.1 c10), fun c11 => ⟨(hbk1.2 c11).1, fun v12 e13 => ⟨((hbk1.2 c11).2 v12 e13).1, fun v14 e15 => fun v16 e17 => hqk1 _ _ ((((hbk1.2 c11).2 v12 e13).2 v14 e15) v16 e17)⟩⟩⟩)
set_option maxRecDepth 40000 in
theorem cj_q_m_copyRow_4_0 {a_faultPlace : Nat → Int32} {x1 : Int32} {x2 : Int32} {x3 : Int32} {post_1 post_2 post_3 : (Nat → Int32) → Prop} (h_post : ∀ x0, post_1 x0 → post_2 x0 → post_3 x0) (h1 : q_m_copyRow_4_0 a_faultPlace x1 x2 x3 post_1) (h2 : q_m_copyRow_4_0 a_faultPlace x1 x2 x3 post_2) : q_m_copyRow_4_0 a_faultPlace x1 x2 x3 post_3 := cj_q_m_copyRow_4_3 h_post h1 h2
set_option maxRecDepth 40000 in
theorem cj_q_m_copyRow_5_3 {a_many : Nat → Int32} {x1 : Int32} {x2 : Int32} {x3 : Int32} {x4 : Int32} {post_1 post_2 post_3 : (Nat → Int32) → Prop} (h_post : ∀ x0, post_1 x0 → post_2 x0 → post_3 x0) (h1 : q_m_copyRow_5_3 a_many x1 x2 x3 x4 post_1) (h2 : q_m_copyRow_5_3 a_many x1 x2 x3 x4 post_2) : q_m_copyRow_5_3 a_many x1 x2 x3 x4 post_3 := lfp_2 h1 h2 (fun A B C hsk1 _ _ hak1 hck1 => ⟨fun c2 => h_post _ (hak1.1 c2) (hck1.1 c2), fun c3 => ⟨(hak1.2 c3).1, fun v4 e5 => ⟨((hak1.2 c3).2 v4 e5).1, fun v6 e7 => fun v8 e9 => hsk1 _ _ ((((hak1.2 c3).2 v4 e5).2 v6 e7) v8 e9) ((((hck1.2 c3).2 v4 e5).2 v6 e7) v8 e9)⟩⟩⟩) (fun A B hqk1 _ _ hbk1 => ⟨fun c10 => (hbk1.1 c10), fun c11 => ⟨(hbk1.2 c11).1, fun v12 e13 => ⟨((hbk1.2 c11).2 v12 e13).1, fun v14 e15 => fun v16 e17 => hqk1 _ _ ((((hbk1.2 c11).2 v12 e13).2 v14 e15) v16 e17)⟩⟩⟩)
set_option maxRecDepth 40000 in
theorem cj_q_m_copyRow_5_0 {a_many : Nat → Int32} {x1 : Int32} {x2 : Int32} {x3 : Int32} {post_1 post_2 post_3 : (Nat → Int32) → Prop} (h_post : ∀ x0, post_1 x0 → post_2 x0 → post_3 x0) (h1 : q_m_copyRow_5_0 a_many x1 x2 x3 post_1) (h2 : q_m_copyRow_5_0 a_many x1 x2 x3 post_2) : q_m_copyRow_5_0 a_many x1 x2 x3 post_3 := cj_q_m_copyRow_5_3 h_post h1 h2
set_option maxRecDepth 40000 in
theorem cj_q_m_copyRow_6_3 {a_lands : Nat → Int32} {x1 : Int32} {x2 : Int32} {x3 : Int32} {x4 : Int32} {post_1 post_2 post_3 : (Nat → Int32) → Prop} (h_post : ∀ x0, post_1 x0 → post_2 x0 → post_3 x0) (h1 : q_m_copyRow_6_3 a_lands x1 x2 x3 x4 post_1) (h2 : q_m_copyRow_6_3 a_lands x1 x2 x3 x4 post_2) : q_m_copyRow_6_3 a_lands x1 x2 x3 x4 post_3 := lfp_2 h1 h2 (fun A B C hsk1 _ _ hak1 hck1 => ⟨fun c2 => h_post _ (hak1.1 c2) (hck1.1 c2), fun c3 => ⟨(hak1.2 c3).1, fun v4 e5 => ⟨((hak1.2 c3).2 v4 e5).1, fun v6 e7 => fun v8 e9 => hsk1 _ _ ((((hak1.2 c3).2 v4 e5).2 v6 e7) v8 e9) ((((hck1.2 c3).2 v4 e5).2 v6 e7) v8 e9)⟩⟩⟩) (fun A B hqk1 _ _ hbk1 => ⟨fun c10 => (hbk1.1 c10), fun c11 => ⟨(hbk1.2 c11).1, fun v12 e13 => ⟨((hbk1.2 c11).2 v12 e13).1, fun v14 e15 => fun v16 e17 => hqk1 _ _ ((((hbk1.2 c11).2 v12 e13).2 v14 e15) v16 e17)⟩⟩⟩)
set_option maxRecDepth 40000 in
theorem cj_q_m_copyRow_6_0 {a_lands : Nat → Int32} {x1 : Int32} {x2 : Int32} {x3 : Int32} {post_1 post_2 post_3 : (Nat → Int32) → Prop} (h_post : ∀ x0, post_1 x0 → post_2 x0 → post_3 x0) (h1 : q_m_copyRow_6_0 a_lands x1 x2 x3 post_1) (h2 : q_m_copyRow_6_0 a_lands x1 x2 x3 post_2) : q_m_copyRow_6_0 a_lands x1 x2 x3 post_3 := cj_q_m_copyRow_6_3 h_post h1 h2
set_option maxRecDepth 40000 in
theorem cj_q_m_copyRow_7_3 {a_evenings : Nat → Int32} {x1 : Int32} {x2 : Int32} {x3 : Int32} {x4 : Int32} {post_1 post_2 post_3 : (Nat → Int32) → Prop} (h_post : ∀ x0, post_1 x0 → post_2 x0 → post_3 x0) (h1 : q_m_copyRow_7_3 a_evenings x1 x2 x3 x4 post_1) (h2 : q_m_copyRow_7_3 a_evenings x1 x2 x3 x4 post_2) : q_m_copyRow_7_3 a_evenings x1 x2 x3 x4 post_3 := lfp_2 h1 h2 (fun A B C hsk1 _ _ hak1 hck1 => ⟨fun c2 => h_post _ (hak1.1 c2) (hck1.1 c2), fun c3 => ⟨(hak1.2 c3).1, fun v4 e5 => ⟨((hak1.2 c3).2 v4 e5).1, fun v6 e7 => fun v8 e9 => hsk1 _ _ ((((hak1.2 c3).2 v4 e5).2 v6 e7) v8 e9) ((((hck1.2 c3).2 v4 e5).2 v6 e7) v8 e9)⟩⟩⟩) (fun A B hqk1 _ _ hbk1 => ⟨fun c10 => (hbk1.1 c10), fun c11 => ⟨(hbk1.2 c11).1, fun v12 e13 => ⟨((hbk1.2 c11).2 v12 e13).1, fun v14 e15 => fun v16 e17 => hqk1 _ _ ((((hbk1.2 c11).2 v12 e13).2 v14 e15) v16 e17)⟩⟩⟩)
set_option maxRecDepth 40000 in
theorem cj_q_m_copyRow_7_0 {a_evenings : Nat → Int32} {x1 : Int32} {x2 : Int32} {x3 : Int32} {post_1 post_2 post_3 : (Nat → Int32) → Prop} (h_post : ∀ x0, post_1 x0 → post_2 x0 → post_3 x0) (h1 : q_m_copyRow_7_0 a_evenings x1 x2 x3 post_1) (h2 : q_m_copyRow_7_0 a_evenings x1 x2 x3 post_2) : q_m_copyRow_7_0 a_evenings x1 x2 x3 post_3 := cj_q_m_copyRow_7_3 h_post h1 h2
set_option maxRecDepth 40000 in
theorem cj_q_m_copyRow_8_3 {a_sights : Nat → Int32} {x1 : Int32} {x2 : Int32} {x3 : Int32} {x4 : Int32} {post_1 post_2 post_3 : (Nat → Int32) → Prop} (h_post : ∀ x0, post_1 x0 → post_2 x0 → post_3 x0) (h1 : q_m_copyRow_8_3 a_sights x1 x2 x3 x4 post_1) (h2 : q_m_copyRow_8_3 a_sights x1 x2 x3 x4 post_2) : q_m_copyRow_8_3 a_sights x1 x2 x3 x4 post_3 := lfp_2 h1 h2 (fun A B C hsk1 _ _ hak1 hck1 => ⟨fun c2 => h_post _ (hak1.1 c2) (hck1.1 c2), fun c3 => ⟨(hak1.2 c3).1, fun v4 e5 => ⟨((hak1.2 c3).2 v4 e5).1, fun v6 e7 => fun v8 e9 => hsk1 _ _ ((((hak1.2 c3).2 v4 e5).2 v6 e7) v8 e9) ((((hck1.2 c3).2 v4 e5).2 v6 e7) v8 e9)⟩⟩⟩) (fun A B hqk1 _ _ hbk1 => ⟨fun c10 => (hbk1.1 c10), fun c11 => ⟨(hbk1.2 c11).1, fun v12 e13 => ⟨((hbk1.2 c11).2 v12 e13).1, fun v14 e15 => fun v16 e17 => hqk1 _ _ ((((hbk1.2 c11).2 v12 e13).2 v14 e15) v16 e17)⟩⟩⟩)
set_option maxRecDepth 40000 in
theorem cj_q_m_copyRow_8_0 {a_sights : Nat → Int32} {x1 : Int32} {x2 : Int32} {x3 : Int32} {post_1 post_2 post_3 : (Nat → Int32) → Prop} (h_post : ∀ x0, post_1 x0 → post_2 x0 → post_3 x0) (h1 : q_m_copyRow_8_0 a_sights x1 x2 x3 post_1) (h2 : q_m_copyRow_8_0 a_sights x1 x2 x3 post_2) : q_m_copyRow_8_0 a_sights x1 x2 x3 post_3 := cj_q_m_copyRow_8_3 h_post h1 h2
set_option maxRecDepth 40000 in
theorem cj_q_m_copyRow_9_3 {a_choirs : Nat → Int32} {x1 : Int32} {x2 : Int32} {x3 : Int32} {x4 : Int32} {post_1 post_2 post_3 : (Nat → Int32) → Prop} (h_post : ∀ x0, post_1 x0 → post_2 x0 → post_3 x0) (h1 : q_m_copyRow_9_3 a_choirs x1 x2 x3 x4 post_1) (h2 : q_m_copyRow_9_3 a_choirs x1 x2 x3 x4 post_2) : q_m_copyRow_9_3 a_choirs x1 x2 x3 x4 post_3 := lfp_2 h1 h2 (fun A B C hsk1 _ _ hak1 hck1 => ⟨fun c2 => h_post _ (hak1.1 c2) (hck1.1 c2), fun c3 => ⟨(hak1.2 c3).1, fun v4 e5 => ⟨((hak1.2 c3).2 v4 e5).1, fun v6 e7 => fun v8 e9 => hsk1 _ _ ((((hak1.2 c3).2 v4 e5).2 v6 e7) v8 e9) ((((hck1.2 c3).2 v4 e5).2 v6 e7) v8 e9)⟩⟩⟩) (fun A B hqk1 _ _ hbk1 => ⟨fun c10 => (hbk1.1 c10), fun c11 => ⟨(hbk1.2 c11).1, fun v12 e13 => ⟨((hbk1.2 c11).2 v12 e13).1, fun v14 e15 => fun v16 e17 => hqk1 _ _ ((((hbk1.2 c11).2 v12 e13).2 v14 e15) v16 e17)⟩⟩⟩)
set_option maxRecDepth 40000 in
theorem cj_q_m_copyRow_9_0 {a_choirs : Nat → Int32} {x1 : Int32} {x2 : Int32} {x3 : Int32} {post_1 post_2 post_3 : (Nat → Int32) → Prop} (h_post : ∀ x0, post_1 x0 → post_2 x0 → post_3 x0) (h1 : q_m_copyRow_9_0 a_choirs x1 x2 x3 post_1) (h2 : q_m_copyRow_9_0 a_choirs x1 x2 x3 post_2) : q_m_copyRow_9_0 a_choirs x1 x2 x3 post_3 := cj_q_m_copyRow_9_3 h_post h1 h2
set_option maxRecDepth 40000 in
theorem cj_q_m_copyAll_2 {a_tape : Nat → Int32} {a_size : Nat → Int32} {a_fault : Nat → Int32} {a_faultPlace : Nat → Int32} {a_many : Nat → Int32} {a_lands : Nat → Int32} {a_evenings : Nat → Int32} {a_sights : Nat → Int32} {a_choirs : Nat → Int32} {x1 : Int32} {x2 : Int32} {x3 : Int32} {post_1 post_2 post_3 : (Nat → Int32) → (Nat → Int32) → (Nat → Int32) → (Nat → Int32) → (Nat → Int32) → (Nat → Int32) → (Nat → Int32) → (Nat → Int32) → (Nat → Int32) → Prop} (h_post : ∀ x0 x1 x2 x3 x4 x5 x6 x7 x8, post_1 x0 x1 x2 x3 x4 x5 x6 x7 x8 → post_2 x0 x1 x2 x3 x4 x5 x6 x7 x8 → post_3 x0 x1 x2 x3 x4 x5 x6 x7 x8) (h1 : q_m_copyAll_2 a_tape a_size a_fault a_faultPlace a_many a_lands a_evenings a_sights a_choirs x1 x2 x3 post_1) (h2 : q_m_copyAll_2 a_tape a_size a_fault a_faultPlace a_many a_lands a_evenings a_sights a_choirs x1 x2 x3 post_2) : q_m_copyAll_2 a_tape a_size a_fault a_faultPlace a_many a_lands a_evenings a_sights a_choirs x1 x2 x3 post_3 := lfp_2 h1 h2 (fun A B C hsk1 _ _ hak1 hck1 => ⟨fun c2 => cj_q_m_copyRow_2_0 (fun _ h3 h4 => cj_q_m_copyRow_3_0 (fun _ h5 h6 => cj_q_m_copyRow_4_0 (fun _ h7 h8 => cj_q_m_copyRow_5_0 (fun _ h9 h10 => cj_q_m_copyRow_6_0 (fun _ h11 h12 => cj_q_m_copyRow_7_0 (fun _ h13 h14 => cj_q_m_copyRow_8_0 (fun _ h15 h16 => cj_q_m_copyRow_9_0 (fun _ h17 h18 => h_post _ _ _ _ _ _ _ _ _ h17 h18) h15 h16) h13 h14) h11 h12) h9 h10) h7 h8) h5 h6) h3 h4) (hak1.1 c2) (hck1.1 c2), fun c19 => ⟨(hak1.2 c19).1, fun v20 e21 => ⟨((hak1.2 c19).2 v20 e21).1, fun v22 e23 => fun v24 e25 => hsk1 _ _ ((((hak1.2 c19).2 v20 e21).2 v22 e23) v24 e25) ((((hck1.2 c19).2 v20 e21).2 v22 e23) v24 e25)⟩⟩⟩) (fun A B hqk1 _ _ hbk1 => ⟨fun c26 => cj_q_m_copyRow_2_0 (fun _ h27 h28 => cj_q_m_copyRow_3_0 (fun _ h29 h30 => cj_q_m_copyRow_4_0 (fun _ h31 h32 => cj_q_m_copyRow_5_0 (fun _ h33 h34 => cj_q_m_copyRow_6_0 (fun _ h35 h36 => cj_q_m_copyRow_7_0 (fun _ h37 h38 => cj_q_m_copyRow_8_0 (fun _ h39 h40 => cj_q_m_copyRow_9_0 (fun _ h41 h42 => h41) h39 h40) h37 h38) h35 h36) h33 h34) h31 h32) h29 h30) h27 h28) (hbk1.1 c26) (hbk1.1 c26), fun c43 => ⟨(hbk1.2 c43).1, fun v44 e45 => ⟨((hbk1.2 c43).2 v44 e45).1, fun v46 e47 => fun v48 e49 => hqk1 _ _ ((((hbk1.2 c43).2 v44 e45).2 v46 e47) v48 e49)⟩⟩⟩)
set_option maxRecDepth 40000 in
theorem cj_q_m_copyAll_0 {a_tape : Nat → Int32} {a_size : Nat → Int32} {a_fault : Nat → Int32} {a_faultPlace : Nat → Int32} {a_many : Nat → Int32} {a_lands : Nat → Int32} {a_evenings : Nat → Int32} {a_sights : Nat → Int32} {a_choirs : Nat → Int32} {x1 : Int32} {x2 : Int32} {post_1 post_2 post_3 : (Nat → Int32) → (Nat → Int32) → (Nat → Int32) → (Nat → Int32) → (Nat → Int32) → (Nat → Int32) → (Nat → Int32) → (Nat → Int32) → (Nat → Int32) → Prop} (h_post : ∀ x0 x1 x2 x3 x4 x5 x6 x7 x8, post_1 x0 x1 x2 x3 x4 x5 x6 x7 x8 → post_2 x0 x1 x2 x3 x4 x5 x6 x7 x8 → post_3 x0 x1 x2 x3 x4 x5 x6 x7 x8) (h1 : q_m_copyAll_0 a_tape a_size a_fault a_faultPlace a_many a_lands a_evenings a_sights a_choirs x1 x2 post_1) (h2 : q_m_copyAll_0 a_tape a_size a_fault a_faultPlace a_many a_lands a_evenings a_sights a_choirs x1 x2 post_2) : q_m_copyAll_0 a_tape a_size a_fault a_faultPlace a_many a_lands a_evenings a_sights a_choirs x1 x2 post_3 := cj_q_m_copyAll_2 h_post h1 h2
set_option maxRecDepth 40000 in
theorem cj_q_m_image_0 {f_code : Int32} {a_tape : Nat → Int32} {a_size : Nat → Int32} {a_fault : Nat → Int32} {a_faultPlace : Nat → Int32} {a_many : Nat → Int32} {a_lands : Nat → Int32} {a_evenings : Nat → Int32} {a_sights : Nat → Int32} {a_choirs : Nat → Int32} {a_kept : Nat → Int32} {x1 : Int32} {post_1 post_2 post_3 : Int32 → (Int32) → (Nat → Int32) → (Nat → Int32) → (Nat → Int32) → (Nat → Int32) → (Nat → Int32) → (Nat → Int32) → (Nat → Int32) → (Nat → Int32) → (Nat → Int32) → (Nat → Int32) → Prop} (h_post : ∀ x0 x1 x2 x3 x4 x5 x6 x7 x8 x9 x10 x11, post_1 x0 x1 x2 x3 x4 x5 x6 x7 x8 x9 x10 x11 → post_2 x0 x1 x2 x3 x4 x5 x6 x7 x8 x9 x10 x11 → post_3 x0 x1 x2 x3 x4 x5 x6 x7 x8 x9 x10 x11) (h1 : q_m_image_0 f_code a_tape a_size a_fault a_faultPlace a_many a_lands a_evenings a_sights a_choirs a_kept x1 post_1) (h2 : q_m_image_0 f_code a_tape a_size a_fault a_faultPlace a_many a_lands a_evenings a_sights a_choirs a_kept x1 post_2) : q_m_image_0 f_code a_tape a_size a_fault a_faultPlace a_many a_lands a_evenings a_sights a_choirs a_kept x1 post_3 := cj_q_m_in_0 (fun _ h1 h2 => ⟨fun c3 => cj_q_m_copyAll_0 (fun _ _ _ _ _ _ _ _ _ h4 h5 => ⟨h4.1, fun v6 e7 => h_post _ _ _ _ _ _ _ _ _ _ _ _ (h4.2 v6 e7) (h5.2 v6 e7)⟩) (h1.1 c3) (h2.1 c3), fun c8 => h_post _ _ _ _ _ _ _ _ _ _ _ _ (h1.2 c8) (h2.2 c8)⟩) h1 h2
set_option maxRecDepth 40000 in
theorem cj_q_m_again_0 {f_code : Int32} {a_tape : Nat → Int32} {a_size : Nat → Int32} {a_fault : Nat → Int32} {a_faultPlace : Nat → Int32} {a_many : Nat → Int32} {a_lands : Nat → Int32} {a_evenings : Nat → Int32} {a_sights : Nat → Int32} {a_choirs : Nat → Int32} {a_kept : Nat → Int32} {x1 : Int32} {post_1 post_2 post_3 : Int32 → (Int32) → (Nat → Int32) → (Nat → Int32) → (Nat → Int32) → (Nat → Int32) → (Nat → Int32) → (Nat → Int32) → (Nat → Int32) → (Nat → Int32) → (Nat → Int32) → Prop} (h_post : ∀ x0 x1 x2 x3 x4 x5 x6 x7 x8 x9 x10, post_1 x0 x1 x2 x3 x4 x5 x6 x7 x8 x9 x10 → post_2 x0 x1 x2 x3 x4 x5 x6 x7 x8 x9 x10 → post_3 x0 x1 x2 x3 x4 x5 x6 x7 x8 x9 x10) (h1 : q_m_again_0 f_code a_tape a_size a_fault a_faultPlace a_many a_lands a_evenings a_sights a_choirs a_kept x1 post_1) (h2 : q_m_again_0 f_code a_tape a_size a_fault a_faultPlace a_many a_lands a_evenings a_sights a_choirs a_kept x1 post_2) : q_m_again_0 f_code a_tape a_size a_fault a_faultPlace a_many a_lands a_evenings a_sights a_choirs a_kept x1 post_3 := cj_q_m_in_0 (fun _ h1 h2 => ⟨fun c3 => h_post _ _ _ _ _ _ _ _ _ _ _ (h1.1 c3) (h2.1 c3), fun c4 => ⟨(h1.2 c4).1, ⟨fun c5 => cj_q_m_copyAll_0 (fun _ _ _ _ _ _ _ _ _ h6 h7 => h_post _ _ _ _ _ _ _ _ _ _ _ h6 h7) ((h1.2 c4).2.1 c5) ((h2.2 c4).2.1 c5), fun c8 => h_post _ _ _ _ _ _ _ _ _ _ _ ((h1.2 c4).2.2 c8) ((h2.2 c4).2.2 c8)⟩⟩⟩) h1 h2
set_option maxRecDepth 40000 in
theorem cj_q_wtt_X9_copyFrom_47_57 {a_tape : Nat → Int32} {f_length : Int32} {f_fault : Int32} {f_place : Int32} {a_counts : Nat → Int32} {l0f_huts : Int32} {l0f_singers : Int32} {l0f_villages : Int32} {l0f_dams : Int32} {l0f_echoes : Int32} {l0f_deep : Int32} {l0f_slide : Int32} {l0a_heights : Nat → Int32} {l0a_ladders : Nat → Int32} {l0a_minutes : Nat → Int32} {l0a_echoFrom : Nat → Int32} {l0a_echoTo : Nat → Int32} {l0a_homes : Nat → Int32} {l0a_talls : Nat → Int32} {l0a_known : Nat → Int32} {l1f_huts : Int32} {l1f_singers : Int32} {l1f_villages : Int32} {l1f_dams : Int32} {l1f_echoes : Int32} {l1f_deep : Int32} {l1f_slide : Int32} {l1a_heights : Nat → Int32} {l1a_ladders : Nat → Int32} {l1a_minutes : Nat → Int32} {l1a_echoFrom : Nat → Int32} {l1a_echoTo : Nat → Int32} {l1a_homes : Nat → Int32} {l1a_talls : Nat → Int32} {l1a_known : Nat → Int32} {v0f_deeds : Int32} {v0a_kinds : Nat → Int32} {v0a_firsts : Nat → Int32} {v0a_seconds : Nat → Int32} {v1f_deeds : Int32} {v1a_kinds : Nat → Int32} {v1a_firsts : Nat → Int32} {v1a_seconds : Nat → Int32} {s0f_facts : Int32} {s0a_heard : Nat → Int32} {s0a_huts : Nat → Int32} {s0a_minutes : Nat → Int32} {s1f_facts : Int32} {s1a_heard : Nat → Int32} {s1a_huts : Nat → Int32} {s1a_minutes : Nat → Int32} {c0f_voices : Int32} {c0f_step : Int32} {c0a_parts : Nat → Int32} {c0a_heights : Nat → Int32} {c1f_voices : Int32} {c1f_step : Int32} {c1a_parts : Nat → Int32} {c1a_heights : Nat → Int32} {oa_tape : Nat → Int32} {of_length : Int32} {of_fault : Int32} {of_place : Int32} {oa_counts : Nat → Int32} {ol0f_huts : Int32} {ol0f_singers : Int32} {ol0f_villages : Int32} {ol0f_dams : Int32} {ol0f_echoes : Int32} {ol0f_deep : Int32} {ol0f_slide : Int32} {ol0a_heights : Nat → Int32} {ol0a_ladders : Nat → Int32} {ol0a_minutes : Nat → Int32} {ol0a_echoFrom : Nat → Int32} {ol0a_echoTo : Nat → Int32} {ol0a_homes : Nat → Int32} {ol0a_talls : Nat → Int32} {ol0a_known : Nat → Int32} {ol1f_huts : Int32} {ol1f_singers : Int32} {ol1f_villages : Int32} {ol1f_dams : Int32} {ol1f_echoes : Int32} {ol1f_deep : Int32} {ol1f_slide : Int32} {ol1a_heights : Nat → Int32} {ol1a_ladders : Nat → Int32} {ol1a_minutes : Nat → Int32} {ol1a_echoFrom : Nat → Int32} {ol1a_echoTo : Nat → Int32} {ol1a_homes : Nat → Int32} {ol1a_talls : Nat → Int32} {ol1a_known : Nat → Int32} {ov0f_deeds : Int32} {ov0a_kinds : Nat → Int32} {ov0a_firsts : Nat → Int32} {ov0a_seconds : Nat → Int32} {ov1f_deeds : Int32} {ov1a_kinds : Nat → Int32} {ov1a_firsts : Nat → Int32} {ov1a_seconds : Nat → Int32} {os0f_facts : Int32} {os0a_heard : Nat → Int32} {os0a_huts : Nat → Int32} {os0a_minutes : Nat → Int32} {os1f_facts : Int32} {os1a_heard : Nat → Int32} {os1a_huts : Nat → Int32} {os1a_minutes : Nat → Int32} {oc0f_voices : Int32} {oc0f_step : Int32} {oc0a_parts : Nat → Int32} {oc0a_heights : Nat → Int32} {oc1f_voices : Int32} {oc1f_step : Int32} {oc1a_parts : Nat → Int32} {oc1a_heights : Nat → Int32} {x2 : Int32} {post_1 post_2 post_3 : (Nat → Int32) → (Int32) → (Int32) → (Int32) → (Nat → Int32) → (Int32) → (Int32) → (Int32) → (Int32) → (Int32) → (Int32) → (Int32) → (Nat → Int32) → (Nat → Int32) → (Nat → Int32) → (Nat → Int32) → (Nat → Int32) → (Nat → Int32) → (Nat → Int32) → (Nat → Int32) → (Int32) → (Int32) → (Int32) → (Int32) → (Int32) → (Int32) → (Int32) → (Nat → Int32) → (Nat → Int32) → (Nat → Int32) → (Nat → Int32) → (Nat → Int32) → (Nat → Int32) → (Nat → Int32) → (Nat → Int32) → (Int32) → (Nat → Int32) → (Nat → Int32) → (Nat → Int32) → (Int32) → (Nat → Int32) → (Nat → Int32) → (Nat → Int32) → (Int32) → (Nat → Int32) → (Nat → Int32) → (Nat → Int32) → (Int32) → (Nat → Int32) → (Nat → Int32) → (Nat → Int32) → (Int32) → (Int32) → (Nat → Int32) → (Nat → Int32) → (Int32) → (Int32) → (Nat → Int32) → (Nat → Int32) → Prop} (h_post : ∀ x0 x1 x2 x3 x4 x5 x6 x7 x8 x9 x10 x11 x12 x13 x14 x15 x16 x17 x18 x19 x20 x21 x22 x23 x24 x25 x26 x27 x28 x29 x30 x31 x32 x33 x34 x35 x36 x37 x38 x39 x40 x41 x42 x43 x44 x45 x46 x47 x48 x49 x50 x51 x52 x53 x54 x55 x56 x57 x58, post_1 x0 x1 x2 x3 x4 x5 x6 x7 x8 x9 x10 x11 x12 x13 x14 x15 x16 x17 x18 x19 x20 x21 x22 x23 x24 x25 x26 x27 x28 x29 x30 x31 x32 x33 x34 x35 x36 x37 x38 x39 x40 x41 x42 x43 x44 x45 x46 x47 x48 x49 x50 x51 x52 x53 x54 x55 x56 x57 x58 → post_2 x0 x1 x2 x3 x4 x5 x6 x7 x8 x9 x10 x11 x12 x13 x14 x15 x16 x17 x18 x19 x20 x21 x22 x23 x24 x25 x26 x27 x28 x29 x30 x31 x32 x33 x34 x35 x36 x37 x38 x39 x40 x41 x42 x43 x44 x45 x46 x47 x48 x49 x50 x51 x52 x53 x54 x55 x56 x57 x58 → post_3 x0 x1 x2 x3 x4 x5 x6 x7 x8 x9 x10 x11 x12 x13 x14 x15 x16 x17 x18 x19 x20 x21 x22 x23 x24 x25 x26 x27 x28 x29 x30 x31 x32 x33 x34 x35 x36 x37 x38 x39 x40 x41 x42 x43 x44 x45 x46 x47 x48 x49 x50 x51 x52 x53 x54 x55 x56 x57 x58) (h1 : q_wtt_X9_copyFrom_47_57 a_tape f_length f_fault f_place a_counts l0f_huts l0f_singers l0f_villages l0f_dams l0f_echoes l0f_deep l0f_slide l0a_heights l0a_ladders l0a_minutes l0a_echoFrom l0a_echoTo l0a_homes l0a_talls l0a_known l1f_huts l1f_singers l1f_villages l1f_dams l1f_echoes l1f_deep l1f_slide l1a_heights l1a_ladders l1a_minutes l1a_echoFrom l1a_echoTo l1a_homes l1a_talls l1a_known v0f_deeds v0a_kinds v0a_firsts v0a_seconds v1f_deeds v1a_kinds v1a_firsts v1a_seconds s0f_facts s0a_heard s0a_huts s0a_minutes s1f_facts s1a_heard s1a_huts s1a_minutes c0f_voices c0f_step c0a_parts c0a_heights c1f_voices c1f_step c1a_parts c1a_heights oa_tape of_length of_fault of_place oa_counts ol0f_huts ol0f_singers ol0f_villages ol0f_dams ol0f_echoes ol0f_deep ol0f_slide ol0a_heights ol0a_ladders ol0a_minutes ol0a_echoFrom ol0a_echoTo ol0a_homes ol0a_talls ol0a_known ol1f_huts ol1f_singers ol1f_villages ol1f_dams ol1f_echoes ol1f_deep ol1f_slide ol1a_heights ol1a_ladders ol1a_minutes ol1a_echoFrom ol1a_echoTo ol1a_homes ol1a_talls ol1a_known ov0f_deeds ov0a_kinds ov0a_firsts ov0a_seconds ov1f_deeds ov1a_kinds ov1a_firsts ov1a_seconds os0f_facts os0a_heard os0a_huts os0a_minutes os1f_facts os1a_heard os1a_huts os1a_minutes oc0f_voices oc0f_step oc0a_parts oc0a_heights oc1f_voices oc1f_step oc1a_parts oc1a_heights x2 post_1) (h2 : q_wtt_X9_copyFrom_47_57 a_tape f_length f_fault f_place a_counts l0f_huts l0f_singers l0f_villages l0f_dams l0f_echoes l0f_deep l0f_slide l0a_heights l0a_ladders l0a_minutes l0a_echoFrom l0a_echoTo l0a_homes l0a_talls l0a_known l1f_huts l1f_singers l1f_villages l1f_dams l1f_echoes l1f_deep l1f_slide l1a_heights l1a_ladders l1a_minutes l1a_echoFrom l1a_echoTo l1a_homes l1a_talls l1a_known v0f_deeds v0a_kinds v0a_firsts v0a_seconds v1f_deeds v1a_kinds v1a_firsts v1a_seconds s0f_facts s0a_heard s0a_huts s0a_minutes s1f_facts s1a_heard s1a_huts s1a_minutes c0f_voices c0f_step c0a_parts c0a_heights c1f_voices c1f_step c1a_parts c1a_heights oa_tape of_length of_fault of_place oa_counts ol0f_huts ol0f_singers ol0f_villages ol0f_dams ol0f_echoes ol0f_deep ol0f_slide ol0a_heights ol0a_ladders ol0a_minutes ol0a_echoFrom ol0a_echoTo ol0a_homes ol0a_talls ol0a_known ol1f_huts ol1f_singers ol1f_villages ol1f_dams ol1f_echoes ol1f_deep ol1f_slide ol1a_heights ol1a_ladders ol1a_minutes ol1a_echoFrom ol1a_echoTo ol1a_homes ol1a_talls ol1a_known ov0f_deeds ov0a_kinds ov0a_firsts ov0a_seconds ov1f_deeds ov1a_kinds ov1a_firsts ov1a_seconds os0f_facts os0a_heard os0a_huts os0a_minutes os1f_facts os1a_heard os1a_huts os1a_minutes oc0f_voices oc0f_step oc0a_parts oc0a_heights oc1f_voices oc1f_step oc1a_parts oc1a_heights x2 post_2) : q_wtt_X9_copyFrom_47_57 a_tape f_length f_fault f_place a_counts l0f_huts l0f_singers l0f_villages l0f_dams l0f_echoes l0f_deep l0f_slide l0a_heights l0a_ladders l0a_minutes l0a_echoFrom l0a_echoTo l0a_homes l0a_talls l0a_known l1f_huts l1f_singers l1f_villages l1f_dams l1f_echoes l1f_deep l1f_slide l1a_heights l1a_ladders l1a_minutes l1a_echoFrom l1a_echoTo l1a_homes l1a_talls l1a_known v0f_deeds v0a_kinds v0a_firsts v0a_seconds v1f_deeds v1a_kinds v1a_firsts v1a_seconds s0f_facts s0a_heard s0a_huts s0a_minutes s1f_facts s1a_heard s1a_huts s1a_minutes c0f_voices c0f_step c0a_parts c0a_heights c1f_voices c1f_step c1a_parts c1a_heights oa_tape of_length of_fault of_place oa_counts ol0f_huts ol0f_singers ol0f_villages ol0f_dams ol0f_echoes ol0f_deep ol0f_slide ol0a_heights ol0a_ladders ol0a_minutes ol0a_echoFrom ol0a_echoTo ol0a_homes ol0a_talls ol0a_known ol1f_huts ol1f_singers ol1f_villages ol1f_dams ol1f_echoes ol1f_deep ol1f_slide ol1a_heights ol1a_ladders ol1a_minutes ol1a_echoFrom ol1a_echoTo ol1a_homes ol1a_talls ol1a_known ov0f_deeds ov0a_kinds ov0a_firsts ov0a_seconds ov1f_deeds ov1a_kinds ov1a_firsts ov1a_seconds os0f_facts os0a_heard os0a_huts os0a_minutes os1f_facts os1a_heard os1a_huts os1a_minutes oc0f_voices oc0f_step oc0a_parts oc0a_heights oc1f_voices oc1f_step oc1a_parts oc1a_heights x2 post_3 := lfp_55 h1 h2 (fun A B C hsk1 _ _ _ _ _ _ _ _ _ _ _ _ _ _ _ _ _ _ _ _ _ _ _ _ _ _ _ _ _ _ _ _ _ _ _ _ _ _ _ _ _ _ _ _ _ _ _ _ _ _ _ _ _ _ _ hak1 hck1 => ⟨fun c2 => h_post _ _ _ _ _ _ _ _ _ _ _ _ _ _ _ _ _ _ _ _ _ _ _ _ _ _ _ _ _ _ _ _ _ _ _ _ _ _ _ _ _ _ _ _ _ _ _ _ _ _ _ _ _ _ _ _ _ _ _ (hak1.1 c2) (hck1.1 c2), fun c3 => ⟨(hak1.2 c3).1, fun c4 => cj_q_wll_X2_copyFrom_9_0 (fun _ _ _ _ _ _ _ _ _ _ _ _ _ _ _ h5 h6 => cj_q_wvv_X1_copyFrom_4_0 (fun _ _ _ _ h7 h8 => cj_q_wss_X6_copyFrom_4_0 (fun _ _ _ _ h9 h10 => cj_q_wcc_X0_copyFrom_3_0 (fun _ _ _ _ h11 h12 => fun v13 e14 => hsk1 _ _ _ _ _ _ _ _ _ _ _ _ _ _ _ _ _ _ _ _ _ _ _ _ _ _ _ _ _ _ _ _ _ _ _ _ _ _ _ _ _ _ _ _ _ _ _ _ _ _ _ _ _ _ _ (h11 v13 e14) (h12 v13 e14)) h9 h10) h7 h8) h5 h6) ((hak1.2 c3).2.1 c4) ((hck1.2 c3).2.1 c4), fun c15 => cj_q_wll_X2_copyFrom_9_0 (fun _ _ _ _ _ _ _ _ _ _ _ _ _ _ _ h16 h17 => cj_q_wvv_X1_copyFrom_4_0 (fun _ _ _ _ h18 h19 => cj_q_wss_X6_copyFrom_4_0 (fun _ _ _ _ h20 h21 => cj_q_wcc_X0_copyFrom_3_0 (fun _ _ _ _ h22 h23 => fun v24 e25 => hsk1 _ _ _ _ _ _ _ _ _ _ _ _ _ _ _ _ _ _ _ _ _ _ _ _ _ _ _ _ _ _ _ _ _ _ _ _ _ _ _ _ _ _ _ _ _ _ _ _ _ _ _ _ _ _ _ (h22 v24 e25) (h23 v24 e25)) h20 h21) h18 h19) h16 h17) ((hak1.2 c3).2.2 c15) ((hck1.2 c3).2.2 c15)⟩⟩) (fun A B hqk1 _ _ _ _ _ _ _ _ _ _ _ _ _ _ _ _ _ _ _ _ _ _ _ _ _ _ _ _ _ _ _ _ _ _ _ _ _ _ _ _ _ _ _ _ _ _ _ _ _ _ _ _ _ _ _ hbk1 => ⟨fun c26 => (hbk1.1 c26), fun c27 => ⟨(hbk1.2 c27).1, fun c28 => cj_q_wll_X2_copyFrom_9_0 (fun _ _ _ _ _ _ _ _ _ _ _ _ _ _ _ h29 h30 => cj_q_wvv_X1_copyFrom_4_0 (fun _ _ _ _ h31 h32 => cj_q_wss_X6_copyFrom_4_0 (fun _ _ _ _ h33 h34 => cj_q_wcc_X0_copyFrom_3_0 (fun _ _ _ _ h35 h36 => fun v37 e38 => hqk1 _ _ _ _ _ _ _ _ _ _ _ _ _ _ _ _ _ _ _ _ _ _ _ _ _ _ _ _ _ _ _ _ _ _ _ _ _ _ _ _ _ _ _ _ _ _ _ _ _ _ _ _ _ _ _ (h35 v37 e38)) h33 h34) h31 h32) h29 h30) ((hbk1.2 c27).2.1 c28) ((hbk1.2 c27).2.1 c28), fun c39 => cj_q_wll_X2_copyFrom_9_0 (fun _ _ _ _ _ _ _ _ _ _ _ _ _ _ _ h40 h41 => cj_q_wvv_X1_copyFrom_4_0 (fun _ _ _ _ h42 h43 => cj_q_wss_X6_copyFrom_4_0 (fun _ _ _ _ h44 h45 => cj_q_wcc_X0_copyFrom_3_0 (fun _ _ _ _ h46 h47 => fun v48 e49 => hqk1 _ _ _ _ _ _ _ _ _ _ _ _ _ _ _ _ _ _ _ _ _ _ _ _ _ _ _ _ _ _ _ _ _ _ _ _ _ _ _ _ _ _ _ _ _ _ _ _ _ _ _ _ _ _ _ (h46 v48 e49)) h44 h45) h42 h43) h40 h41) ((hbk1.2 c27).2.2 c39) ((hbk1.2 c27).2.2 c39)⟩⟩)
set_option maxRecDepth 40000 in
theorem cj_q_wtt_X9_copyFrom_47_0 {a_tape : Nat → Int32} {f_length : Int32} {f_fault : Int32} {f_place : Int32} {a_counts : Nat → Int32} {l0f_huts : Int32} {l0f_singers : Int32} {l0f_villages : Int32} {l0f_dams : Int32} {l0f_echoes : Int32} {l0f_deep : Int32} {l0f_slide : Int32} {l0a_heights : Nat → Int32} {l0a_ladders : Nat → Int32} {l0a_minutes : Nat → Int32} {l0a_echoFrom : Nat → Int32} {l0a_echoTo : Nat → Int32} {l0a_homes : Nat → Int32} {l0a_talls : Nat → Int32} {l0a_known : Nat → Int32} {l1f_huts : Int32} {l1f_singers : Int32} {l1f_villages : Int32} {l1f_dams : Int32} {l1f_echoes : Int32} {l1f_deep : Int32} {l1f_slide : Int32} {l1a_heights : Nat → Int32} {l1a_ladders : Nat → Int32} {l1a_minutes : Nat → Int32} {l1a_echoFrom : Nat → Int32} {l1a_echoTo : Nat → Int32} {l1a_homes : Nat → Int32} {l1a_talls : Nat → Int32} {l1a_known : Nat → Int32} {v0f_deeds : Int32} {v0a_kinds : Nat → Int32} {v0a_firsts : Nat → Int32} {v0a_seconds : Nat → Int32} {v1f_deeds : Int32} {v1a_kinds : Nat → Int32} {v1a_firsts : Nat → Int32} {v1a_seconds : Nat → Int32} {s0f_facts : Int32} {s0a_heard : Nat → Int32} {s0a_huts : Nat → Int32} {s0a_minutes : Nat → Int32} {s1f_facts : Int32} {s1a_heard : Nat → Int32} {s1a_huts : Nat → Int32} {s1a_minutes : Nat → Int32} {c0f_voices : Int32} {c0f_step : Int32} {c0a_parts : Nat → Int32} {c0a_heights : Nat → Int32} {c1f_voices : Int32} {c1f_step : Int32} {c1a_parts : Nat → Int32} {c1a_heights : Nat → Int32} {oa_tape : Nat → Int32} {of_length : Int32} {of_fault : Int32} {of_place : Int32} {oa_counts : Nat → Int32} {ol0f_huts : Int32} {ol0f_singers : Int32} {ol0f_villages : Int32} {ol0f_dams : Int32} {ol0f_echoes : Int32} {ol0f_deep : Int32} {ol0f_slide : Int32} {ol0a_heights : Nat → Int32} {ol0a_ladders : Nat → Int32} {ol0a_minutes : Nat → Int32} {ol0a_echoFrom : Nat → Int32} {ol0a_echoTo : Nat → Int32} {ol0a_homes : Nat → Int32} {ol0a_talls : Nat → Int32} {ol0a_known : Nat → Int32} {ol1f_huts : Int32} {ol1f_singers : Int32} {ol1f_villages : Int32} {ol1f_dams : Int32} {ol1f_echoes : Int32} {ol1f_deep : Int32} {ol1f_slide : Int32} {ol1a_heights : Nat → Int32} {ol1a_ladders : Nat → Int32} {ol1a_minutes : Nat → Int32} {ol1a_echoFrom : Nat → Int32} {ol1a_echoTo : Nat → Int32} {ol1a_homes : Nat → Int32} {ol1a_talls : Nat → Int32} {ol1a_known : Nat → Int32} {ov0f_deeds : Int32} {ov0a_kinds : Nat → Int32} {ov0a_firsts : Nat → Int32} {ov0a_seconds : Nat → Int32} {ov1f_deeds : Int32} {ov1a_kinds : Nat → Int32} {ov1a_firsts : Nat → Int32} {ov1a_seconds : Nat → Int32} {os0f_facts : Int32} {os0a_heard : Nat → Int32} {os0a_huts : Nat → Int32} {os0a_minutes : Nat → Int32} {os1f_facts : Int32} {os1a_heard : Nat → Int32} {os1a_huts : Nat → Int32} {os1a_minutes : Nat → Int32} {oc0f_voices : Int32} {oc0f_step : Int32} {oc0a_parts : Nat → Int32} {oc0a_heights : Nat → Int32} {oc1f_voices : Int32} {oc1f_step : Int32} {oc1a_parts : Nat → Int32} {oc1a_heights : Nat → Int32} {post_1 post_2 post_3 : (Nat → Int32) → (Int32) → (Int32) → (Int32) → (Nat → Int32) → (Int32) → (Int32) → (Int32) → (Int32) → (Int32) → (Int32) → (Int32) → (Nat → Int32) → (Nat → Int32) → (Nat → Int32) → (Nat → Int32) → (Nat → Int32) → (Nat → Int32) → (Nat → Int32) → (Nat → Int32) → (Int32) → (Int32) → (Int32) → (Int32) → (Int32) → (Int32) → (Int32) → (Nat → Int32) → (Nat → Int32) → (Nat → Int32) → (Nat → Int32) → (Nat → Int32) → (Nat → Int32) → (Nat → Int32) → (Nat → Int32) → (Int32) → (Nat → Int32) → (Nat → Int32) → (Nat → Int32) → (Int32) → (Nat → Int32) → (Nat → Int32) → (Nat → Int32) → (Int32) → (Nat → Int32) → (Nat → Int32) → (Nat → Int32) → (Int32) → (Nat → Int32) → (Nat → Int32) → (Nat → Int32) → (Int32) → (Int32) → (Nat → Int32) → (Nat → Int32) → (Int32) → (Int32) → (Nat → Int32) → (Nat → Int32) → Prop} (h_post : ∀ x0 x1 x2 x3 x4 x5 x6 x7 x8 x9 x10 x11 x12 x13 x14 x15 x16 x17 x18 x19 x20 x21 x22 x23 x24 x25 x26 x27 x28 x29 x30 x31 x32 x33 x34 x35 x36 x37 x38 x39 x40 x41 x42 x43 x44 x45 x46 x47 x48 x49 x50 x51 x52 x53 x54 x55 x56 x57 x58, post_1 x0 x1 x2 x3 x4 x5 x6 x7 x8 x9 x10 x11 x12 x13 x14 x15 x16 x17 x18 x19 x20 x21 x22 x23 x24 x25 x26 x27 x28 x29 x30 x31 x32 x33 x34 x35 x36 x37 x38 x39 x40 x41 x42 x43 x44 x45 x46 x47 x48 x49 x50 x51 x52 x53 x54 x55 x56 x57 x58 → post_2 x0 x1 x2 x3 x4 x5 x6 x7 x8 x9 x10 x11 x12 x13 x14 x15 x16 x17 x18 x19 x20 x21 x22 x23 x24 x25 x26 x27 x28 x29 x30 x31 x32 x33 x34 x35 x36 x37 x38 x39 x40 x41 x42 x43 x44 x45 x46 x47 x48 x49 x50 x51 x52 x53 x54 x55 x56 x57 x58 → post_3 x0 x1 x2 x3 x4 x5 x6 x7 x8 x9 x10 x11 x12 x13 x14 x15 x16 x17 x18 x19 x20 x21 x22 x23 x24 x25 x26 x27 x28 x29 x30 x31 x32 x33 x34 x35 x36 x37 x38 x39 x40 x41 x42 x43 x44 x45 x46 x47 x48 x49 x50 x51 x52 x53 x54 x55 x56 x57 x58) (h1 : q_wtt_X9_copyFrom_47_0 a_tape f_length f_fault f_place a_counts l0f_huts l0f_singers l0f_villages l0f_dams l0f_echoes l0f_deep l0f_slide l0a_heights l0a_ladders l0a_minutes l0a_echoFrom l0a_echoTo l0a_homes l0a_talls l0a_known l1f_huts l1f_singers l1f_villages l1f_dams l1f_echoes l1f_deep l1f_slide l1a_heights l1a_ladders l1a_minutes l1a_echoFrom l1a_echoTo l1a_homes l1a_talls l1a_known v0f_deeds v0a_kinds v0a_firsts v0a_seconds v1f_deeds v1a_kinds v1a_firsts v1a_seconds s0f_facts s0a_heard s0a_huts s0a_minutes s1f_facts s1a_heard s1a_huts s1a_minutes c0f_voices c0f_step c0a_parts c0a_heights c1f_voices c1f_step c1a_parts c1a_heights oa_tape of_length of_fault of_place oa_counts ol0f_huts ol0f_singers ol0f_villages ol0f_dams ol0f_echoes ol0f_deep ol0f_slide ol0a_heights ol0a_ladders ol0a_minutes ol0a_echoFrom ol0a_echoTo ol0a_homes ol0a_talls ol0a_known ol1f_huts ol1f_singers ol1f_villages ol1f_dams ol1f_echoes ol1f_deep ol1f_slide ol1a_heights ol1a_ladders ol1a_minutes ol1a_echoFrom ol1a_echoTo ol1a_homes ol1a_talls ol1a_known ov0f_deeds ov0a_kinds ov0a_firsts ov0a_seconds ov1f_deeds ov1a_kinds ov1a_firsts ov1a_seconds os0f_facts os0a_heard os0a_huts os0a_minutes os1f_facts os1a_heard os1a_huts os1a_minutes oc0f_voices oc0f_step oc0a_parts oc0a_heights oc1f_voices oc1f_step oc1a_parts oc1a_heights post_1) (h2 : q_wtt_X9_copyFrom_47_0 a_tape f_length f_fault f_place a_counts l0f_huts l0f_singers l0f_villages l0f_dams l0f_echoes l0f_deep l0f_slide l0a_heights l0a_ladders l0a_minutes l0a_echoFrom l0a_echoTo l0a_homes l0a_talls l0a_known l1f_huts l1f_singers l1f_villages l1f_dams l1f_echoes l1f_deep l1f_slide l1a_heights l1a_ladders l1a_minutes l1a_echoFrom l1a_echoTo l1a_homes l1a_talls l1a_known v0f_deeds v0a_kinds v0a_firsts v0a_seconds v1f_deeds v1a_kinds v1a_firsts v1a_seconds s0f_facts s0a_heard s0a_huts s0a_minutes s1f_facts s1a_heard s1a_huts s1a_minutes c0f_voices c0f_step c0a_parts c0a_heights c1f_voices c1f_step c1a_parts c1a_heights oa_tape of_length of_fault of_place oa_counts ol0f_huts ol0f_singers ol0f_villages ol0f_dams ol0f_echoes ol0f_deep ol0f_slide ol0a_heights ol0a_ladders ol0a_minutes ol0a_echoFrom ol0a_echoTo ol0a_homes ol0a_talls ol0a_known ol1f_huts ol1f_singers ol1f_villages ol1f_dams ol1f_echoes ol1f_deep ol1f_slide ol1a_heights ol1a_ladders ol1a_minutes ol1a_echoFrom ol1a_echoTo ol1a_homes ol1a_talls ol1a_known ov0f_deeds ov0a_kinds ov0a_firsts ov0a_seconds ov1f_deeds ov1a_kinds ov1a_firsts ov1a_seconds os0f_facts os0a_heard os0a_huts os0a_minutes os1f_facts os1a_heard os1a_huts os1a_minutes oc0f_voices oc0f_step oc0a_parts oc0a_heights oc1f_voices oc1f_step oc1a_parts oc1a_heights post_2) : q_wtt_X9_copyFrom_47_0 a_tape f_length f_fault f_place a_counts l0f_huts l0f_singers l0f_villages l0f_dams l0f_echoes l0f_deep l0f_slide l0a_heights l0a_ladders l0a_minutes l0a_echoFrom l0a_echoTo l0a_homes l0a_talls l0a_known l1f_huts l1f_singers l1f_villages l1f_dams l1f_echoes l1f_deep l1f_slide l1a_heights l1a_ladders l1a_minutes l1a_echoFrom l1a_echoTo l1a_homes l1a_talls l1a_known v0f_deeds v0a_kinds v0a_firsts v0a_seconds v1f_deeds v1a_kinds v1a_firsts v1a_seconds s0f_facts s0a_heard s0a_huts s0a_minutes s1f_facts s1a_heard s1a_huts s1a_minutes c0f_voices c0f_step c0a_parts c0a_heights c1f_voices c1f_step c1a_parts c1a_heights oa_tape of_length of_fault of_place oa_counts ol0f_huts ol0f_singers ol0f_villages ol0f_dams ol0f_echoes ol0f_deep ol0f_slide ol0a_heights ol0a_ladders ol0a_minutes ol0a_echoFrom ol0a_echoTo ol0a_homes ol0a_talls ol0a_known ol1f_huts ol1f_singers ol1f_villages ol1f_dams ol1f_echoes ol1f_deep ol1f_slide ol1a_heights ol1a_ladders ol1a_minutes ol1a_echoFrom ol1a_echoTo ol1a_homes ol1a_talls ol1a_known ov0f_deeds ov0a_kinds ov0a_firsts ov0a_seconds ov1f_deeds ov1a_kinds ov1a_firsts ov1a_seconds os0f_facts os0a_heard os0a_huts os0a_minutes os1f_facts os1a_heard os1a_huts os1a_minutes oc0f_voices oc0f_step oc0a_parts oc0a_heights oc1f_voices oc1f_step oc1a_parts oc1a_heights post_3 := ⟨h1.1, ⟨h1.2.1, ⟨h1.2.2.1, ⟨h1.2.2.2.1, fun v1 e2 => fun v3 e4 => cj_q_wtt_X9_copyFrom_47_57 h_post ((h1.2.2.2.2 v1 e2) v3 e4) ((h2.2.2.2.2 v1 e2) v3 e4)⟩⟩⟩⟩
set_option maxRecDepth 40000 in
theorem cj_q_m_findRest_159 {a_choirs : Nat → Int32} {f_choir : Int32} {f_voices : Int32} {a_rest : Nat → Int64} {x3 : Int64} {x5 : Int32} {post_1 post_2 post_3 : Int64 → (Nat → Int64) → Prop} (h_post : ∀ x0 x1, post_1 x0 x1 → post_2 x0 x1 → post_3 x0 x1) (h1 : q_m_findRest_159 a_choirs f_choir f_voices a_rest x3 x5 post_1) (h2 : q_m_findRest_159 a_choirs f_choir f_voices a_rest x3 x5 post_2) : q_m_findRest_159 a_choirs f_choir f_voices a_rest x3 x5 post_3 := lfp_2 h1 h2 (fun A B C hsk1 _ _ hak1 hck1 => ⟨fun c2 => h_post _ _ (hak1.1 c2) (hck1.1 c2), fun c3 => ⟨(hak1.2 c3).1, fun v4 e5 => fun v6 e7 => hsk1 _ _ (((hak1.2 c3).2 v4 e5) v6 e7) (((hck1.2 c3).2 v4 e5) v6 e7)⟩⟩) (fun A B hqk1 _ _ hbk1 => ⟨fun c8 => (hbk1.1 c8), fun c9 => ⟨(hbk1.2 c9).1, fun v10 e11 => fun v12 e13 => hqk1 _ _ (((hbk1.2 c9).2 v10 e11) v12 e13)⟩⟩)
set_option maxRecDepth 40000 in
theorem cj_q_m_findRest_155 {a_choirs : Nat → Int32} {f_choir : Int32} {f_voices : Int32} {a_rest : Nat → Int64} {y0 : Int64} {post_1 post_2 post_3 : Int64 → (Nat → Int64) → Prop} (h_post : ∀ x0 x1, post_1 x0 x1 → post_2 x0 x1 → post_3 x0 x1) (h1 : q_m_findRest_155 a_choirs f_choir f_voices a_rest y0 post_1) (h2 : q_m_findRest_155 a_choirs f_choir f_voices a_rest y0 post_2) : q_m_findRest_155 a_choirs f_choir f_voices a_rest y0 post_3 := cj_q_m_findRest_159 h_post h1 h2
set_option maxRecDepth 40000 in
theorem cj_q_m_findRest_130 {P11_1 P11_2 P11_3 : Int32 → (Nat → Int64) → Prop} {P18_1 P18_2 P18_3 : Int32 → (Nat → Int64) → Prop} {a_choirs : Nat → Int32} {f_choir : Int32} {f_voices : Int32} {a_rest : Nat → Int64} {x1 : Int32} {x2 : Int32} {x3 : Int32} {x4 : Int32} {y0 : Int32} {y1 : Int64} {post_1 post_2 post_3 : Int64 → (Nat → Int64) → Prop} (h_P11 : ∀ x0 x1, P11_1 x0 x1 → P11_2 x0 x1 → P11_3 x0 x1) (h_P18 : ∀ x0 x1, P18_1 x0 x1 → P18_2 x0 x1 → P18_3 x0 x1) (h_post : ∀ x0 x1, post_1 x0 x1 → post_2 x0 x1 → post_3 x0 x1) (h1 : q_m_findRest_130 P11_1 P18_1 a_choirs f_choir f_voices a_rest x1 x2 x3 x4 y0 y1 post_1) (h2 : q_m_findRest_130 P11_2 P18_2 a_choirs f_choir f_voices a_rest x1 x2 x3 x4 y0 y1 post_2) : q_m_findRest_130 P11_3 P18_3 a_choirs f_choir f_voices a_rest x1 x2 x3 x4 y0 y1 post_3 := ⟨h1.1, fun v1 e2 => fun v3 e4 => h_P18 _ _ ((h1.2 v1 e2) v3 e4) ((h2.2 v1 e2) v3 e4)⟩
set_option maxRecDepth 40000 in
theorem cj_q_m_findRest_95 {P11_1 P11_2 P11_3 : Int32 → (Nat → Int64) → Prop} {P18_1 P18_2 P18_3 : Int32 → (Nat → Int64) → Prop} {P42_1 P42_2 P42_3 : Int64 → Int32 → Prop} {a_choirs : Nat → Int32} {f_choir : Int32} {f_voices : Int32} {a_rest : Nat → Int64} {x1 : Int32} {x2 : Int32} {x3 : Int32} {x4 : Int32} {x7 : Int32} {y0 : Int64} {y1 : Int64} {post_1 post_2 post_3 : Int64 → (Nat → Int64) → Prop} (h_P11 : ∀ x0 x1, P11_1 x0 x1 → P11_2 x0 x1 → P11_3 x0 x1) (h_P18 : ∀ x0 x1, P18_1 x0 x1 → P18_2 x0 x1 → P18_3 x0 x1) (h_P42 : ∀ x0 x1, P42_1 x0 x1 → P42_2 x0 x1 → P42_3 x0 x1) (h_post : ∀ x0 x1, post_1 x0 x1 → post_2 x0 x1 → post_3 x0 x1) (h1 : q_m_findRest_95 P11_1 P18_1 P42_1 a_choirs f_choir f_voices a_rest x1 x2 x3 x4 x7 y0 y1 post_1) (h2 : q_m_findRest_95 P11_2 P18_2 P42_2 a_choirs f_choir f_voices a_rest x1 x2 x3 x4 x7 y0 y1 post_2) : q_m_findRest_95 P11_3 P18_3 P42_3 a_choirs f_choir f_voices a_rest x1 x2 x3 x4 x7 y0 y1 post_3 := fun v1 e2 => fun v3 e4 => h_P42 _ _ ((h1 v1 e2) v3 e4) ((h2 v1 e2) v3 e4)
set_option maxRecDepth 40000 in
theorem cj_q_m_findRest_94 {P11_1 P11_2 P11_3 : Int32 → (Nat → Int64) → Prop} {P18_1 P18_2 P18_3 : Int32 → (Nat → Int64) → Prop} {P42_1 P42_2 P42_3 : Int64 → Int32 → Prop} {a_choirs : Nat → Int32} {f_choir : Int32} {f_voices : Int32} {a_rest : Nat → Int64} {x1 : Int32} {x2 : Int32} {x3 : Int32} {x4 : Int32} {x7 : Int32} {y0 : Int64} {post_1 post_2 post_3 : Int64 → (Nat → Int64) → Prop} (h_P11 : ∀ x0 x1, P11_1 x0 x1 → P11_2 x0 x1 → P11_3 x0 x1) (h_P18 : ∀ x0 x1, P18_1 x0 x1 → P18_2 x0 x1 → P18_3 x0 x1) (h_P42 : ∀ x0 x1, P42_1 x0 x1 → P42_2 x0 x1 → P42_3 x0 x1) (h_post : ∀ x0 x1, post_1 x0 x1 → post_2 x0 x1 → post_3 x0 x1) (h1 : q_m_findRest_94 P11_1 P18_1 P42_1 a_choirs f_choir f_voices a_rest x1 x2 x3 x4 x7 y0 post_1) (h2 : q_m_findRest_94 P11_2 P18_2 P42_2 a_choirs f_choir f_voices a_rest x1 x2 x3 x4 x7 y0 post_2) : q_m_findRest_94 P11_3 P18_3 P42_3 a_choirs f_choir f_voices a_rest x1 x2 x3 x4 x7 y0 post_3 := cj_q_m_findRest_95 h_P11 h_P18 h_P42 h_post h1 h2
set_option maxRecDepth 40000 in
theorem cj_q_m_voice_0 {a_choirs : Nat → Int32} {f_choir : Int32} {x1 : Int32} {x2 : Int32} {post_1 post_2 post_3 : Int32 → Prop} (h_post : ∀ x0, post_1 x0 → post_2 x0 → post_3 x0) (h1 : q_m_voice_0 a_choirs f_choir x1 x2 post_1) (h2 : q_m_voice_0 a_choirs f_choir x1 x2 post_2) : q_m_voice_0 a_choirs f_choir x1 x2 post_3 := ⟨h1.1, h_post _ h1.2 h2.2⟩
set_option maxRecDepth 40000 in
theorem cj_q_m_follows_0 {a_choirs : Nat → Int32} {f_choir : Int32} {x1 : Int32} {x2 : Int32} {x3 : Int32} {post_1 post_2 post_3 : Int32 → Prop} (h_post : ∀ x0, post_1 x0 → post_2 x0 → post_3 x0) (h1 : q_m_follows_0 a_choirs f_choir x1 x2 x3 post_1) (h2 : q_m_follows_0 a_choirs f_choir x1 x2 x3 post_2) : q_m_follows_0 a_choirs f_choir x1 x2 x3 post_3 := cj_q_m_voice_0 (fun _ h1 h2 => cj_q_m_voice_0 (fun _ h3 h4 => ⟨fun c5 => h_post _ (h3.1 c5) (h4.1 c5), fun c6 => cj_q_m_voice_0 (fun _ h7 h8 => cj_q_m_voice_0 (fun _ h9 h10 => ⟨fun c11 => h_post _ (h9.1 c11) (h10.1 c11), fun c12 => h_post _ (h9.2 c12) (h10.2 c12)⟩) h7 h8) (h3.2 c6) (h4.2 c6)⟩) h1 h2) h1 h2
set_option maxRecDepth 40000 in
theorem cj_q_m_has_0 {x0 : Int32} {x1 : Int32} {post_1 post_2 post_3 : Int32 → Prop} (h_post : ∀ x0, post_1 x0 → post_2 x0 → post_3 x0) (h1 : q_m_has_0 x0 x1 post_1) (h2 : q_m_has_0 x0 x1 post_2) : q_m_has_0 x0 x1 post_3 := ⟨fun c1 => h_post _ (h1.1 c1) (h2.1 c1), fun c2 => h_post _ (h1.2 c2) (h2.2 c2)⟩
set_option maxRecDepth 40000 in
theorem cj_q_m_findRest_42 {P11_1 P11_2 P11_3 : Int32 → (Nat → Int64) → Prop} {P18_1 P18_2 P18_3 : Int32 → (Nat → Int64) → Prop} {a_choirs : Nat → Int32} {f_choir : Int32} {f_voices : Int32} {a_rest : Nat → Int64} {x1 : Int32} {x2 : Int32} {x3 : Int32} {x4 : Int32} {x5 : Int64} {x7 : Int32} {post_1 post_2 post_3 : Int64 → (Nat → Int64) → Prop} (h_P11 : ∀ x0 x1, P11_1 x0 x1 → P11_2 x0 x1 → P11_3 x0 x1) (h_P18 : ∀ x0 x1, P18_1 x0 x1 → P18_2 x0 x1 → P18_3 x0 x1) (h_post : ∀ x0 x1, post_1 x0 x1 → post_2 x0 x1 → post_3 x0 x1) (h1 : q_m_findRest_42 P11_1 P18_1 a_choirs f_choir f_voices a_rest x1 x2 x3 x4 x5 x7 post_1) (h2 : q_m_findRest_42 P11_2 P18_2 a_choirs f_choir f_voices a_rest x1 x2 x3 x4 x5 x7 post_2) : q_m_findRest_42 P11_3 P18_3 a_choirs f_choir f_voices a_rest x1 x2 x3 x4 x5 x7 post_3 := lfp_2 h1 h2 (fun A B C hsk1 _ _ hak1 hck1 => ⟨fun c2 => cj_q_m_has_0 (fun _ h3 h4 => ⟨fun c5 => cj_q_m_findRest_130 h_P11 h_P18 h_post (h3.1 c5) (h4.1 c5), fun c6 => cj_q_m_findRest_130 h_P11 h_P18 h_post (h3.2 c6) (h4.2 c6)⟩) (hak1.1 c2) (hck1.1 c2), fun c7 => cj_q_m_has_0 (fun _ h8 h9 => ⟨fun c10 => cj_q_m_findRest_94 h_P11 h_P18 hsk1 h_post (h8.1 c10) (h9.1 c10), fun c11 => cj_q_m_follows_0 (fun _ h12 h13 => ⟨fun c14 => cj_q_m_findRest_94 h_P11 h_P18 hsk1 h_post (h12.1 c14) (h13.1 c14), fun c15 => ⟨(h12.2 c15).1, cj_q_m_findRest_95 h_P11 h_P18 hsk1 h_post (h12.2 c15).2 (h13.2 c15).2⟩⟩) (h8.2 c11) (h9.2 c11)⟩) (hak1.2 c7) (hck1.2 c7)⟩) (fun A B hqk1 _ _ hbk1 => ⟨fun c16 => cj_q_m_has_0 (fun _ h17 h18 => ⟨fun c19 => cj_q_m_findRest_130 (fun _ _ h _ => h) (fun _ _ h _ => h) (fun _ _ h _ => h) (h17.1 c19) (h18.1 c19), fun c20 => cj_q_m_findRest_130 (fun _ _ h _ => h) (fun _ _ h _ => h) (fun _ _ h _ => h) (h17.2 c20) (h18.2 c20)⟩) (hbk1.1 c16) (hbk1.1 c16), fun c21 => cj_q_m_has_0 (fun _ h22 h23 => ⟨fun c24 => cj_q_m_findRest_94 (fun _ _ h _ => h) (fun _ _ h _ => h) (fun _ _ h _ => hqk1 _ _ h) (fun _ _ h _ => h) (h22.1 c24) (h23.1 c24), fun c25 => cj_q_m_follows_0 (fun _ h26 h27 => ⟨fun c28 => cj_q_m_findRest_94 (fun _ _ h _ => h) (fun _ _ h _ => h) (fun _ _ h _ => hqk1 _ _ h) (fun _ _ h _ => h) (h26.1 c28) (h27.1 c28), fun c29 => ⟨(h26.2 c29).1, cj_q_m_findRest_95 (fun _ _ h _ => h) (fun _ _ h _ => h) (fun _ _ h _ => hqk1 _ _ h) (fun _ _ h _ => h) (h26.2 c29).2 (h27.2 c29).2⟩⟩) (h22.2 c25) (h23.2 c25)⟩) (hbk1.2 c21) (hbk1.2 c21)⟩)
set_option maxRecDepth 40000 in
theorem cj_q_m_findRest_37 {P11_1 P11_2 P11_3 : Int32 → (Nat → Int64) → Prop} {P18_1 P18_2 P18_3 : Int32 → (Nat → Int64) → Prop} {a_choirs : Nat → Int32} {f_choir : Int32} {f_voices : Int32} {a_rest : Nat → Int64} {x1 : Int32} {x2 : Int32} {x3 : Int32} {x4 : Int32} {y0 : Int64} {post_1 post_2 post_3 : Int64 → (Nat → Int64) → Prop} (h_P11 : ∀ x0 x1, P11_1 x0 x1 → P11_2 x0 x1 → P11_3 x0 x1) (h_P18 : ∀ x0 x1, P18_1 x0 x1 → P18_2 x0 x1 → P18_3 x0 x1) (h_post : ∀ x0 x1, post_1 x0 x1 → post_2 x0 x1 → post_3 x0 x1) (h1 : q_m_findRest_37 P11_1 P18_1 a_choirs f_choir f_voices a_rest x1 x2 x3 x4 y0 post_1) (h2 : q_m_findRest_37 P11_2 P18_2 a_choirs f_choir f_voices a_rest x1 x2 x3 x4 y0 post_2) : q_m_findRest_37 P11_3 P18_3 a_choirs f_choir f_voices a_rest x1 x2 x3 x4 y0 post_3 := cj_q_m_findRest_42 h_P11 h_P18 h_post h1 h2
set_option maxRecDepth 40000 in
theorem cj_q_m_findRest_18 {P11_1 P11_2 P11_3 : Int32 → (Nat → Int64) → Prop} {a_choirs : Nat → Int32} {f_choir : Int32} {f_voices : Int32} {a_rest : Nat → Int64} {x1 : Int32} {x2 : Int32} {x3 : Int32} {x4 : Int32} {post_1 post_2 post_3 : Int64 → (Nat → Int64) → Prop} (h_P11 : ∀ x0 x1, P11_1 x0 x1 → P11_2 x0 x1 → P11_3 x0 x1) (h_post : ∀ x0 x1, post_1 x0 x1 → post_2 x0 x1 → post_3 x0 x1) (h1 : q_m_findRest_18 P11_1 a_choirs f_choir f_voices a_rest x1 x2 x3 x4 post_1) (h2 : q_m_findRest_18 P11_2 a_choirs f_choir f_voices a_rest x1 x2 x3 x4 post_2) : q_m_findRest_18 P11_3 a_choirs f_choir f_voices a_rest x1 x2 x3 x4 post_3 := lfp_2 h1 h2 (fun A B C hsk1 _ _ hak1 hck1 => ⟨fun c2 => fun v3 e4 => h_P11 _ _ ((hak1.1 c2) v3 e4) ((hck1.1 c2) v3 e4), fun c5 => ⟨fun c6 => cj_q_m_findRest_37 h_P11 hsk1 h_post ((hak1.2 c5).1 c6) ((hck1.2 c5).1 c6), fun c7 => cj_q_m_findRest_37 h_P11 hsk1 h_post ((hak1.2 c5).2 c7) ((hck1.2 c5).2 c7)⟩⟩) (fun A B hqk1 _ _ hbk1 => ⟨fun c8 => fun v9 e10 => ((hbk1.1 c8) v9 e10), fun c11 => ⟨fun c12 => cj_q_m_findRest_37 (fun _ _ h _ => h) (fun _ _ h _ => hqk1 _ _ h) (fun _ _ h _ => h) ((hbk1.2 c11).1 c12) ((hbk1.2 c11).1 c12), fun c13 => cj_q_m_findRest_37 (fun _ _ h _ => h) (fun _ _ h _ => hqk1 _ _ h) (fun _ _ h _ => h) ((hbk1.2 c11).2 c13) ((hbk1.2 c11).2 c13)⟩⟩)
set_option maxRecDepth 40000 in
theorem cj_q_m_findRest_11 {a_choirs : Nat → Int32} {f_choir : Int32} {f_voices : Int32} {a_rest : Nat → Int64} {x1 : Int32} {x2 : Int32} {x3 : Int32} {post_1 post_2 post_3 : Int64 → (Nat → Int64) → Prop} (h_post : ∀ x0 x1, post_1 x0 x1 → post_2 x0 x1 → post_3 x0 x1) (h1 : q_m_findRest_11 a_choirs f_choir f_voices a_rest x1 x2 x3 post_1) (h2 : q_m_findRest_11 a_choirs f_choir f_voices a_rest x1 x2 x3 post_2) : q_m_findRest_11 a_choirs f_choir f_voices a_rest x1 x2 x3 post_3 := lfp_2 h1 h2 (fun A B C hsk1 _ _ hak1 hck1 => ⟨fun c2 => ⟨fun c3 => cj_q_m_findRest_155 h_post ((hak1.1 c2).1 c3) ((hck1.1 c2).1 c3), fun c4 => cj_q_m_findRest_155 h_post ((hak1.1 c2).2 c4) ((hck1.1 c2).2 c4)⟩, fun c5 => cj_q_m_findRest_18 hsk1 h_post (hak1.2 c5) (hck1.2 c5)⟩) (fun A B hqk1 _ _ hbk1 => ⟨fun c6 => ⟨fun c7 => cj_q_m_findRest_155 (fun _ _ h _ => h) ((hbk1.1 c6).1 c7) ((hbk1.1 c6).1 c7), fun c8 => cj_q_m_findRest_155 (fun _ _ h _ => h) ((hbk1.1 c6).2 c8) ((hbk1.1 c6).2 c8)⟩, fun c9 => cj_q_m_findRest_18 (fun _ _ h _ => hqk1 _ _ h) (fun _ _ h _ => h) (hbk1.2 c9) (hbk1.2 c9)⟩)
set_option maxRecDepth 40000 in
theorem cj_q_m_findRest_0 {a_choirs : Nat → Int32} {f_choir : Int32} {f_voices : Int32} {a_rest : Nat → Int64} {x1 : Int32} {post_1 post_2 post_3 : Int64 → (Nat → Int64) → Prop} (h_post : ∀ x0 x1, post_1 x0 x1 → post_2 x0 x1 → post_3 x0 x1) (h1 : q_m_findRest_0 a_choirs f_choir f_voices a_rest x1 post_1) (h2 : q_m_findRest_0 a_choirs f_choir f_voices a_rest x1 post_2) : q_m_findRest_0 a_choirs f_choir f_voices a_rest x1 post_3 := fun v1 e2 => cj_q_m_findRest_11 h_post (h1 v1 e2) (h2 v1 e2)
set_option maxRecDepth 40000 in
theorem cj_q_m_hasChoir_0 {a_many : Nat → Int32} {a_choirs : Nat → Int32} {f_choir : Int32} {f_voices : Int32} {x1 : Int32} {post_1 post_2 post_3 : Int32 → (Int32) → (Int32) → Prop} (h_post : ∀ x0 x1 x2, post_1 x0 x1 x2 → post_2 x0 x1 x2 → post_3 x0 x1 x2) (h1 : q_m_hasChoir_0 a_many a_choirs f_choir f_voices x1 post_1) (h2 : q_m_hasChoir_0 a_many a_choirs f_choir f_voices x1 post_2) : q_m_hasChoir_0 a_many a_choirs f_choir f_voices x1 post_3 := cj_q_m_is_0 (fun _ h1 h2 => ⟨fun c3 => ⟨(h1.1 c3).1, fun v4 e5 => h_post _ _ _ ((h1.1 c3).2 v4 e5) ((h2.1 c3).2 v4 e5)⟩, fun c6 => h_post _ _ _ (h1.2 c6) (h2.2 c6)⟩) h1 h2
set_option maxRecDepth 40000 in
theorem cj_q_m_order_111 {P50_1 P50_2 P50_3 : Int32 → Int32 → Int32 → Prop} {P59_1 P59_2 P59_3 : Int32 → Prop} {f_code : Int32} {a_many : Nat → Int32} {a_choirs : Nat → Int32} {f_choir : Int32} {f_voices : Int32} {a_rest : Nat → Int64} {x2 : Int32} {x3 : Int32} {x4 : Int32} {x5 : Int32} {x6 : Int32} {post_1 post_2 post_3 : Int32 → (Int32) → (Int32) → (Int32) → (Nat → Int64) → Prop} (h_P50 : ∀ x0 x1 x2, P50_1 x0 x1 x2 → P50_2 x0 x1 x2 → P50_3 x0 x1 x2) (h_P59 : ∀ x0, P59_1 x0 → P59_2 x0 → P59_3 x0) (h_post : ∀ x0 x1 x2 x3 x4, post_1 x0 x1 x2 x3 x4 → post_2 x0 x1 x2 x3 x4 → post_3 x0 x1 x2 x3 x4) (h1 : q_m_order_111 P50_1 P59_1 f_code a_many a_choirs f_choir f_voices a_rest x2 x3 x4 x5 x6 post_1) (h2 : q_m_order_111 P50_2 P59_2 f_code a_many a_choirs f_choir f_voices a_rest x2 x3 x4 x5 x6 post_2) : q_m_order_111 P50_3 P59_3 f_code a_many a_choirs f_choir f_voices a_rest x2 x3 x4 x5 x6 post_3 := fun v1 e2 => h_P59 _ (h1 v1 e2) (h2 v1 e2)
set_option maxRecDepth 40000 in
theorem cj_q_m_order_89 {P50_1 P50_2 P50_3 : Int32 → Int32 → Int32 → Prop} {P59_1 P59_2 P59_3 : Int32 → Prop} {f_code : Int32} {a_many : Nat → Int32} {a_choirs : Nat → Int32} {f_choir : Int32} {f_voices : Int32} {a_rest : Nat → Int64} {x2 : Int32} {x3 : Int32} {x4 : Int32} {x5 : Int32} {x6 : Int32} {post_1 post_2 post_3 : Int32 → (Int32) → (Int32) → (Int32) → (Nat → Int64) → Prop} (h_P50 : ∀ x0 x1 x2, P50_1 x0 x1 x2 → P50_2 x0 x1 x2 → P50_3 x0 x1 x2) (h_P59 : ∀ x0, P59_1 x0 → P59_2 x0 → P59_3 x0) (h_post : ∀ x0 x1 x2 x3 x4, post_1 x0 x1 x2 x3 x4 → post_2 x0 x1 x2 x3 x4 → post_3 x0 x1 x2 x3 x4) (h1 : q_m_order_89 P50_1 P59_1 f_code a_many a_choirs f_choir f_voices a_rest x2 x3 x4 x5 x6 post_1) (h2 : q_m_order_89 P50_2 P59_2 f_code a_many a_choirs f_choir f_voices a_rest x2 x3 x4 x5 x6 post_2) : q_m_order_89 P50_3 P59_3 f_code a_many a_choirs f_choir f_voices a_rest x2 x3 x4 x5 x6 post_3 := ⟨h1.1, ⟨fun c1 => fun v2 e3 => fun v4 e5 => h_P50 _ _ _ (((h1.2.1 c1) v2 e3) v4 e5) (((h2.2.1 c1) v2 e3) v4 e5), fun c6 => cj_q_m_order_111 h_P50 h_P59 h_post (h1.2.2 c6) (h2.2.2 c6)⟩⟩
set_option maxRecDepth 40000 in
theorem cj_q_m_stepOf_0 {a_choirs : Nat → Int32} {f_choir : Int32} {post_1 post_2 post_3 : Int32 → Prop} (h_post : ∀ x0, post_1 x0 → post_2 x0 → post_3 x0) (h1 : q_m_stepOf_0 a_choirs f_choir post_1) (h2 : q_m_stepOf_0 a_choirs f_choir post_2) : q_m_stepOf_0 a_choirs f_choir post_3 := ⟨h1.1, h_post _ h1.2 h2.2⟩
set_option maxRecDepth 40000 in
theorem cj_q_m_order_59 {P50_1 P50_2 P50_3 : Int32 → Int32 → Int32 → Prop} {f_code : Int32} {a_many : Nat → Int32} {a_choirs : Nat → Int32} {f_choir : Int32} {f_voices : Int32} {a_rest : Nat → Int64} {x2 : Int32} {x3 : Int32} {x4 : Int32} {x5 : Int32} {x6 : Int32} {post_1 post_2 post_3 : Int32 → (Int32) → (Int32) → (Int32) → (Nat → Int64) → Prop} (h_P50 : ∀ x0 x1 x2, P50_1 x0 x1 x2 → P50_2 x0 x1 x2 → P50_3 x0 x1 x2) (h_post : ∀ x0 x1 x2 x3 x4, post_1 x0 x1 x2 x3 x4 → post_2 x0 x1 x2 x3 x4 → post_3 x0 x1 x2 x3 x4) (h1 : q_m_order_59 P50_1 f_code a_many a_choirs f_choir f_voices a_rest x2 x3 x4 x5 x6 post_1) (h2 : q_m_order_59 P50_2 f_code a_many a_choirs f_choir f_voices a_rest x2 x3 x4 x5 x6 post_2) : q_m_order_59 P50_3 f_code a_many a_choirs f_choir f_voices a_rest x2 x3 x4 x5 x6 post_3 := lfp_1 h1 h2 (fun A B C hsk1 _ hak1 hck1 => cj_q_m_has_0 (fun _ h2 h3 => ⟨fun c4 => cj_q_m_order_111 h_P50 hsk1 h_post (h2.1 c4) (h3.1 c4), fun c5 => ⟨fun c6 => cj_q_m_order_89 h_P50 hsk1 h_post ((h2.2 c5).1 c6) ((h3.2 c5).1 c6), fun c7 => cj_q_m_stepOf_0 (fun _ h8 h9 => cj_q_m_follows_0 (fun _ h10 h11 => ⟨fun c12 => cj_q_m_order_111 h_P50 hsk1 h_post (h10.1 c12) (h11.1 c12), fun c13 => cj_q_m_order_89 h_P50 hsk1 h_post (h10.2 c13) (h11.2 c13)⟩) h8 h9) ((h2.2 c5).2 c7) ((h3.2 c5).2 c7)⟩⟩) hak1 hck1) (fun A B hqk1 _ hbk1 => cj_q_m_has_0 (fun _ h14 h15 => ⟨fun c16 => cj_q_m_order_111 (fun _ _ _ h _ => h) (fun _ h _ => hqk1 _ h) (fun _ _ _ _ _ h _ => h) (h14.1 c16) (h15.1 c16), fun c17 => ⟨fun c18 => cj_q_m_order_89 (fun _ _ _ h _ => h) (fun _ h _ => hqk1 _ h) (fun _ _ _ _ _ h _ => h) ((h14.2 c17).1 c18) ((h15.2 c17).1 c18), fun c19 => cj_q_m_stepOf_0 (fun _ h20 h21 => cj_q_m_follows_0 (fun _ h22 h23 => ⟨fun c24 => cj_q_m_order_111 (fun _ _ _ h _ => h) (fun _ h _ => hqk1 _ h) (fun _ _ _ _ _ h _ => h) (h22.1 c24) (h23.1 c24), fun c25 => cj_q_m_order_89 (fun _ _ _ h _ => h) (fun _ h _ => hqk1 _ h) (fun _ _ _ _ _ h _ => h) (h22.2 c25) (h23.2 c25)⟩) h20 h21) ((h14.2 c17).2 c19) ((h15.2 c17).2 c19)⟩⟩) hbk1 hbk1)
set_option maxRecDepth 40000 in
theorem cj_q_m_order_50 {f_code : Int32} {a_many : Nat → Int32} {a_choirs : Nat → Int32} {f_choir : Int32} {f_voices : Int32} {a_rest : Nat → Int64} {x2 : Int32} {x3 : Int32} {x4 : Int32} {x5 : Int32} {post_1 post_2 post_3 : Int32 → (Int32) → (Int32) → (Int32) → (Nat → Int64) → Prop} (h_post : ∀ x0 x1 x2 x3 x4, post_1 x0 x1 x2 x3 x4 → post_2 x0 x1 x2 x3 x4 → post_3 x0 x1 x2 x3 x4) (h1 : q_m_order_50 f_code a_many a_choirs f_choir f_voices a_rest x2 x3 x4 x5 post_1) (h2 : q_m_order_50 f_code a_many a_choirs f_choir f_voices a_rest x2 x3 x4 x5 post_2) : q_m_order_50 f_code a_many a_choirs f_choir f_voices a_rest x2 x3 x4 x5 post_3 := lfp_3 h1 h2 (fun A B C hsk1 _ _ _ hak1 hck1 => ⟨fun c2 => h_post _ _ _ _ _ (hak1.1 c2) (hck1.1 c2), fun c3 => cj_q_m_order_59 hsk1 h_post (hak1.2 c3) (hck1.2 c3)⟩) (fun A B hqk1 _ _ _ hbk1 => ⟨fun c4 => (hbk1.1 c4), fun c5 => cj_q_m_order_59 (fun _ _ _ h _ => hqk1 _ _ _ h) (fun _ _ _ _ _ h _ => h) (hbk1.2 c5) (hbk1.2 c5)⟩)
set_option maxRecDepth 40000 in
theorem cj_q_m_order_0 {f_code : Int32} {a_many : Nat → Int32} {a_choirs : Nat → Int32} {f_choir : Int32} {f_voices : Int32} {a_rest : Nat → Int64} {x1 : Int32} {x2 : Int32} {post_1 post_2 post_3 : Int32 → (Int32) → (Int32) → (Int32) → (Nat → Int64) → Prop} (h_post : ∀ x0 x1 x2 x3 x4, post_1 x0 x1 x2 x3 x4 → post_2 x0 x1 x2 x3 x4 → post_3 x0 x1 x2 x3 x4) (h1 : q_m_order_0 f_code a_many a_choirs f_choir f_voices a_rest x1 x2 post_1) (h2 : q_m_order_0 f_code a_many a_choirs f_choir f_voices a_rest x1 x2 post_2) : q_m_order_0 f_code a_many a_choirs f_choir f_voices a_rest x1 x2 post_3 := cj_q_m_hasChoir_0 (fun _ _ _ h1 h2 => ⟨fun c3 => h_post _ _ _ _ _ (h1.1 c3) (h2.1 c3), fun c4 => cj_q_m_in_0 (fun _ h5 h6 => ⟨fun c7 => h_post _ _ _ _ _ (h5.1 c7) (h6.1 c7), fun c8 => cj_q_m_stepOf_0 (fun _ h9 h10 => cj_q_m_findRest_0 (fun _ _ h11 h12 => ⟨fun c13 => cj_q_m_order_50 h_post (h11.1 c13) (h12.1 c13), fun c14 => h_post _ _ _ _ _ (h11.2 c14) (h12.2 c14)⟩) h9 h10) (h5.2 c8) (h6.2 c8)⟩) (h1.2 c4) (h2.2 c4)⟩) h1 h2
set_option maxRecDepth 40000 in
theorem cj_q_wx_X10_choirAt_0 {ta_counts : Nat → Int32} {x1 : Int32} {post_1 post_2 post_3 : Nat → Prop} (h_post : ∀ x0, post_1 x0 → post_2 x0 → post_3 x0) (h1 : q_wx_X10_choirAt_0 ta_counts x1 post_1) (h2 : q_wx_X10_choirAt_0 ta_counts x1 post_2) : q_wx_X10_choirAt_0 ta_counts x1 post_3 := ⟨fun c1 => h_post _ (h1.1 c1) (h2.1 c1), fun c2 => ⟨fun c3 => h_post _ ((h1.2 c2).1 c3) ((h2.2 c2).1 c3), fun c4 => ⟨((h1.2 c2).2 c4).1, fun c5 => h_post _ (((h1.2 c2).2 c4).2.1 c5) (((h2.2 c2).2 c4).2.1 c5), fun c6 => h_post _ (((h1.2 c2).2 c4).2.2 c6) (((h2.2 c2).2 c4).2.2 c6)⟩⟩⟩
set_option maxRecDepth 40000 in
theorem cj_q_wx_X10_order_0 {ta_counts : Nat → Int32} {tc0f_voices : Int32} {tc1f_voices : Int32} {x1 : Int32} {x2 : Int32} {post_1 post_2 post_3 : Int32 → Prop} (h_post : ∀ x0, post_1 x0 → post_2 x0 → post_3 x0) (h1 : q_wx_X10_order_0 ta_counts tc0f_voices tc1f_voices x1 x2 post_1) (h2 : q_wx_X10_order_0 ta_counts tc0f_voices tc1f_voices x1 x2 post_2) : q_wx_X10_order_0 ta_counts tc0f_voices tc1f_voices x1 x2 post_3 := cj_q_wx_X10_choirAt_0 (fun _ h1 h2 => ⟨fun c3 => h_post _ (h1.1 c3) (h2.1 c3), fun c4 => ⟨fun c5 => h_post _ ((h1.2.1 c4).1 c5) ((h2.2.1 c4).1 c5), fun c6 => ⟨fun c7 => (((h1.2.1 c4).2 c6).1 c7), fun c8 => h_post _ (((h1.2.1 c4).2 c6).2 c8) (((h2.2.1 c4).2 c6).2 c8)⟩⟩, fun c9 c10 => ⟨fun c11 => h_post _ ((h1.2.2 c9 c10).1 c11) ((h2.2.2 c9 c10).1 c11), fun c12 => ⟨fun c13 => (((h1.2.2 c9 c10).2 c12).1 c13), fun c14 => h_post _ (((h1.2.2 c9 c10).2 c12).2 c14) (((h2.2.2 c9 c10).2 c12).2 c14)⟩⟩⟩) h1 h2
set_option maxRecDepth 40000 in
theorem cj_q_wk_X5_fill_3_87 {P22_1 P22_2 P22_3 : Int32 → (Nat → Int32) → Prop} {P30_1 P30_2 P30_3 : Int32 → (Nat → Int32) → Prop} {a_gaps : Nat → Int32} {a_behind : Nat → Int32} {cf_voices : Int32} {cf_step : Int32} {ca_parts : Nat → Int32} {ca_heights : Nat → Int32} {z_tab : Nat → Int32} {x3 : Int32} {x4 : Int32} {x5 : Int32} {post_1 post_2 post_3 : (Nat → Int32) → (Nat → Int32) → (Nat → Int32) → Prop} (h_P22 : ∀ x0 x1, P22_1 x0 x1 → P22_2 x0 x1 → P22_3 x0 x1) (h_P30 : ∀ x0 x1, P30_1 x0 x1 → P30_2 x0 x1 → P30_3 x0 x1) (h_post : ∀ x0 x1 x2, post_1 x0 x1 x2 → post_2 x0 x1 x2 → post_3 x0 x1 x2) (h1 : q_wk_X5_fill_3_87 P22_1 P30_1 a_gaps a_behind cf_voices cf_step ca_parts ca_heights z_tab x3 x4 x5 post_1) (h2 : q_wk_X5_fill_3_87 P22_2 P30_2 a_gaps a_behind cf_voices cf_step ca_parts ca_heights z_tab x3 x4 x5 post_2) : q_wk_X5_fill_3_87 P22_3 P30_3 a_gaps a_behind cf_voices cf_step ca_parts ca_heights z_tab x3 x4 x5 post_3 := fun v1 e2 => h_P30 _ _ (h1 v1 e2) (h2 v1 e2)
set_option maxRecDepth 40000 in
theorem cj_q_wk_X5_fill_3_86 {P22_1 P22_2 P22_3 : Int32 → (Nat → Int32) → Prop} {P30_1 P30_2 P30_3 : Int32 → (Nat → Int32) → Prop} {a_gaps : Nat → Int32} {a_behind : Nat → Int32} {cf_voices : Int32} {cf_step : Int32} {ca_parts : Nat → Int32} {ca_heights : Nat → Int32} {z_tab : Nat → Int32} {x3 : Int32} {x4 : Int32} {x5 : Int32} {y0 : Int32} {y1 : Int32} {post_1 post_2 post_3 : (Nat → Int32) → (Nat → Int32) → (Nat → Int32) → Prop} (h_P22 : ∀ x0 x1, P22_1 x0 x1 → P22_2 x0 x1 → P22_3 x0 x1) (h_P30 : ∀ x0 x1, P30_1 x0 x1 → P30_2 x0 x1 → P30_3 x0 x1) (h_post : ∀ x0 x1 x2, post_1 x0 x1 x2 → post_2 x0 x1 x2 → post_3 x0 x1 x2) (h1 : q_wk_X5_fill_3_86 P22_1 P30_1 a_gaps a_behind cf_voices cf_step ca_parts ca_heights z_tab x3 x4 x5 y0 y1 post_1) (h2 : q_wk_X5_fill_3_86 P22_2 P30_2 a_gaps a_behind cf_voices cf_step ca_parts ca_heights z_tab x3 x4 x5 y0 y1 post_2) : q_wk_X5_fill_3_86 P22_3 P30_3 a_gaps a_behind cf_voices cf_step ca_parts ca_heights z_tab x3 x4 x5 y0 y1 post_3 := ⟨h1.1, fun v1 e2 => cj_q_wk_X5_fill_3_87 h_P22 h_P30 h_post (h1.2 v1 e2) (h2.2 v1 e2)⟩
set_option maxRecDepth 40000 in
theorem cj_q_wk_X5_waysOn_6_45 {P5_1 P5_2 P5_3 : Int32 → Int32 → Prop} {z_tab : Nat → Int32} {x1 : Int32} {x2 : Int32} {x3 : Int32} {x4 : Int32} {post_1 post_2 post_3 : Int32 → Prop} (h_P5 : ∀ x0 x1, P5_1 x0 x1 → P5_2 x0 x1 → P5_3 x0 x1) (h_post : ∀ x0, post_1 x0 → post_2 x0 → post_3 x0) (h1 : q_wk_X5_waysOn_6_45 P5_1 z_tab x1 x2 x3 x4 post_1) (h2 : q_wk_X5_waysOn_6_45 P5_2 z_tab x1 x2 x3 x4 post_2) : q_wk_X5_waysOn_6_45 P5_3 z_tab x1 x2 x3 x4 post_3 := fun v1 e2 => h_P5 _ _ (h1 v1 e2) (h2 v1 e2)
set_option maxRecDepth 40000 in
theorem cj_q_z_X10_has_0 {x0 : Int32} {x1 : Int32} {post_1 post_2 post_3 : Int32 → Prop} (h_post : ∀ x0, post_1 x0 → post_2 x0 → post_3 x0) (h1 : q_z_X10_has_0 x0 x1 post_1) (h2 : q_z_X10_has_0 x0 x1 post_2) : q_z_X10_has_0 x0 x1 post_3 := ⟨fun c1 => h_post _ (h1.1 c1) (h2.1 c1), fun c2 => h_post _ (h1.2 c2) (h2.2 c2)⟩
set_option maxRecDepth 40000 in
theorem cj_q_wk_X5_waysOn_6_5 {z_tab : Nat → Int32} {x1 : Int32} {x2 : Int32} {x3 : Int32} {x4 : Int32} {post_1 post_2 post_3 : Int32 → Prop} (h_post : ∀ x0, post_1 x0 → post_2 x0 → post_3 x0) (h1 : q_wk_X5_waysOn_6_5 z_tab x1 x2 x3 x4 post_1) (h2 : q_wk_X5_waysOn_6_5 z_tab x1 x2 x3 x4 post_2) : q_wk_X5_waysOn_6_5 z_tab x1 x2 x3 x4 post_3 := lfp_2 h1 h2 (fun A B C hsk1 _ _ hak1 hck1 => ⟨fun c2 => h_post _ (hak1.1 c2) (hck1.1 c2), fun c3 => ⟨fun c4 => h_post _ ((hak1.2 c3).1 c4) ((hck1.2 c3).1 c4), fun c5 => cj_q_z_X10_has_0 (fun _ h6 h7 => ⟨fun c8 => cj_q_wk_X5_waysOn_6_45 hsk1 h_post (h6.1 c8) (h7.1 c8), fun c9 => ⟨(h6.2 c9).1, fun v10 e11 => cj_q_wk_X5_waysOn_6_45 hsk1 h_post ((h6.2 c9).2 v10 e11) ((h7.2 c9).2 v10 e11)⟩⟩) ((hak1.2 c3).2 c5) ((hck1.2 c3).2 c5)⟩⟩) (fun A B hqk1 _ _ hbk1 => ⟨fun c12 => (hbk1.1 c12), fun c13 => ⟨fun c14 => ((hbk1.2 c13).1 c14), fun c15 => cj_q_z_X10_has_0 (fun _ h16 h17 => ⟨fun c18 => cj_q_wk_X5_waysOn_6_45 (fun _ _ h _ => hqk1 _ _ h) (fun _ h _ => h) (h16.1 c18) (h17.1 c18), fun c19 => ⟨(h16.2 c19).1, fun v20 e21 => cj_q_wk_X5_waysOn_6_45 (fun _ _ h _ => hqk1 _ _ h) (fun _ h _ => h) ((h16.2 c19).2 v20 e21) ((h17.2 c19).2 v20 e21)⟩⟩) ((hbk1.2 c13).2 c15) ((hbk1.2 c13).2 c15)⟩⟩)
set_option maxRecDepth 40000 in
theorem cj_q_wk_X5_waysOn_6_0 {z_tab : Nat → Int32} {x1 : Int32} {x2 : Int32} {post_1 post_2 post_3 : Int32 → Prop} (h_post : ∀ x0, post_1 x0 → post_2 x0 → post_3 x0) (h1 : q_wk_X5_waysOn_6_0 z_tab x1 x2 post_1) (h2 : q_wk_X5_waysOn_6_0 z_tab x1 x2 post_2) : q_wk_X5_waysOn_6_0 z_tab x1 x2 post_3 := cj_q_wk_X5_waysOn_6_5 h_post h1 h2
set_option maxRecDepth 40000 in
theorem cj_q_wk_X5_fill_3_30 {P22_1 P22_2 P22_3 : Int32 → (Nat → Int32) → Prop} {a_gaps : Nat → Int32} {a_behind : Nat → Int32} {cf_voices : Int32} {cf_step : Int32} {ca_parts : Nat → Int32} {ca_heights : Nat → Int32} {z_tab : Nat → Int32} {x3 : Int32} {x4 : Int32} {x5 : Int32} {post_1 post_2 post_3 : (Nat → Int32) → (Nat → Int32) → (Nat → Int32) → Prop} (h_P22 : ∀ x0 x1, P22_1 x0 x1 → P22_2 x0 x1 → P22_3 x0 x1) (h_post : ∀ x0 x1 x2, post_1 x0 x1 x2 → post_2 x0 x1 x2 → post_3 x0 x1 x2) (h1 : q_wk_X5_fill_3_30 P22_1 a_gaps a_behind cf_voices cf_step ca_parts ca_heights z_tab x3 x4 x5 post_1) (h2 : q_wk_X5_fill_3_30 P22_2 a_gaps a_behind cf_voices cf_step ca_parts ca_heights z_tab x3 x4 x5 post_2) : q_wk_X5_fill_3_30 P22_3 a_gaps a_behind cf_voices cf_step ca_parts ca_heights z_tab x3 x4 x5 post_3 := lfp_2 h1 h2 (fun A B C hsk1 _ _ hak1 hck1 => ⟨fun c2 => fun v3 e4 => h_P22 _ _ ((hak1.1 c2) v3 e4) ((hck1.1 c2) v3 e4), fun c5 => cj_q_z_X10_has_0 (fun _ h6 h7 => ⟨fun c8 => cj_q_wk_X5_fill_3_87 h_P22 hsk1 h_post (h6.1 c8) (h7.1 c8), fun c9 => ⟨fun c10 => ⟨((h6.2 c9).1 c10).1, cj_q_wk_X5_waysOn_6_0 (fun _ h11 h12 => cj_q_wk_X5_fill_3_86 h_P22 hsk1 h_post h11 h12) ((h6.2 c9).1 c10).2 ((h7.2 c9).1 c10).2⟩, fun c13 => cj_q_wk_X5_fill_3_86 h_P22 hsk1 h_post ((h6.2 c9).2 c13) ((h7.2 c9).2 c13)⟩⟩) (hak1.2 c5) (hck1.2 c5)⟩) (fun A B hqk1 _ _ hbk1 => ⟨fun c14 => fun v15 e16 => ((hbk1.1 c14) v15 e16), fun c17 => cj_q_z_X10_has_0 (fun _ h18 h19 => ⟨fun c20 => cj_q_wk_X5_fill_3_87 (fun _ _ h _ => h) (fun _ _ h _ => hqk1 _ _ h) (fun _ _ _ h _ => h) (h18.1 c20) (h19.1 c20), fun c21 => ⟨fun c22 => ⟨((h18.2 c21).1 c22).1, cj_q_wk_X5_waysOn_6_0 (fun _ h23 h24 => cj_q_wk_X5_fill_3_86 (fun _ _ h _ => h) (fun _ _ h _ => hqk1 _ _ h) (fun _ _ _ h _ => h) h23 h24) ((h18.2 c21).1 c22).2 ((h19.2 c21).1 c22).2⟩, fun c25 => cj_q_wk_X5_fill_3_86 (fun _ _ h _ => h) (fun _ _ h _ => hqk1 _ _ h) (fun _ _ _ h _ => h) ((h18.2 c21).2 c25) ((h19.2 c21).2 c25)⟩⟩) (hbk1.2 c17) (hbk1.2 c17)⟩)
set_option maxRecDepth 40000 in
theorem cj_q_wk_X5_fill_3_22 {a_gaps : Nat → Int32} {a_behind : Nat → Int32} {cf_voices : Int32} {cf_step : Int32} {ca_parts : Nat → Int32} {ca_heights : Nat → Int32} {z_tab : Nat → Int32} {x3 : Int32} {x4 : Int32} {post_1 post_2 post_3 : (Nat → Int32) → (Nat → Int32) → (Nat → Int32) → Prop} (h_post : ∀ x0 x1 x2, post_1 x0 x1 x2 → post_2 x0 x1 x2 → post_3 x0 x1 x2) (h1 : q_wk_X5_fill_3_22 a_gaps a_behind cf_voices cf_step ca_parts ca_heights z_tab x3 x4 post_1) (h2 : q_wk_X5_fill_3_22 a_gaps a_behind cf_voices cf_step ca_parts ca_heights z_tab x3 x4 post_2) : q_wk_X5_fill_3_22 a_gaps a_behind cf_voices cf_step ca_parts ca_heights z_tab x3 x4 post_3 := lfp_2 h1 h2 (fun A B C hsk1 _ _ hak1 hck1 => ⟨fun c2 => h_post _ _ _ (hak1.1 c2) (hck1.1 c2), fun c3 => cj_q_wk_X5_fill_3_30 hsk1 h_post (hak1.2 c3) (hck1.2 c3)⟩) (fun A B hqk1 _ _ hbk1 => ⟨fun c4 => (hbk1.1 c4), fun c5 => cj_q_wk_X5_fill_3_30 (fun _ _ h _ => hqk1 _ _ h) (fun _ _ _ h _ => h) (hbk1.2 c5) (hbk1.2 c5)⟩)
set_option maxRecDepth 40000 in
theorem cj_q_wk_X5_fill_3_10 {a_gaps : Nat → Int32} {a_behind : Nat → Int32} {cf_voices : Int32} {cf_step : Int32} {ca_parts : Nat → Int32} {ca_heights : Nat → Int32} {z_tab : Nat → Int32} {post_1 post_2 post_3 : (Nat → Int32) → (Nat → Int32) → (Nat → Int32) → Prop} (h_post : ∀ x0 x1 x2, post_1 x0 x1 x2 → post_2 x0 x1 x2 → post_3 x0 x1 x2) (h1 : q_wk_X5_fill_3_10 a_gaps a_behind cf_voices cf_step ca_parts ca_heights z_tab post_1) (h2 : q_wk_X5_fill_3_10 a_gaps a_behind cf_voices cf_step ca_parts ca_heights z_tab post_2) : q_wk_X5_fill_3_10 a_gaps a_behind cf_voices cf_step ca_parts ca_heights z_tab post_3 := fun v1 e2 => cj_q_wk_X5_fill_3_22 h_post (h1 v1 e2) (h2 v1 e2)
set_option maxRecDepth 40000 in
theorem cj_q_wc_X0_stepBetween_0 {a_parts : Nat → Int32} {a_heights : Nat → Int32} {x1 : Int32} {x2 : Int32} {post_1 post_2 post_3 : Int32 → Prop} (h_post : ∀ x0, post_1 x0 → post_2 x0 → post_3 x0) (h1 : q_wc_X0_stepBetween_0 a_parts a_heights x1 x2 post_1) (h2 : q_wc_X0_stepBetween_0 a_parts a_heights x1 x2 post_2) : q_wc_X0_stepBetween_0 a_parts a_heights x1 x2 post_3 := ⟨h1.1, ⟨h1.2.1, ⟨fun c1 => ⟨(h1.2.2.1 c1).1, ⟨(h1.2.2.1 c1).2.1, h_post _ (h1.2.2.1 c1).2.2 (h2.2.2.1 c1).2.2⟩⟩, fun c2 => h_post _ (h1.2.2.2 c2) (h2.2.2.2 c2)⟩⟩⟩
set_option maxRecDepth 40000 in
theorem cj_q_wk_X5_measure_3_69 {P2_1 P2_2 P2_3 : Int32 → (Nat → Int32) → (Nat → Int32) → Prop} {P19_1 P19_2 P19_3 : Int32 → (Nat → Int32) → (Nat → Int32) → Prop} {a_gaps : Nat → Int32} {a_behind : Nat → Int32} {cf_voices : Int32} {cf_step : Int32} {ca_parts : Nat → Int32} {ca_heights : Nat → Int32} {x2 : Int32} {x3 : Int32} {post_1 post_2 post_3 : (Nat → Int32) → (Nat → Int32) → Prop} (h_P2 : ∀ x0 x1 x2, P2_1 x0 x1 x2 → P2_2 x0 x1 x2 → P2_3 x0 x1 x2) (h_P19 : ∀ x0 x1 x2, P19_1 x0 x1 x2 → P19_2 x0 x1 x2 → P19_3 x0 x1 x2) (h_post : ∀ x0 x1, post_1 x0 x1 → post_2 x0 x1 → post_3 x0 x1) (h1 : q_wk_X5_measure_3_69 P2_1 P19_1 a_gaps a_behind cf_voices cf_step ca_parts ca_heights x2 x3 post_1) (h2 : q_wk_X5_measure_3_69 P2_2 P19_2 a_gaps a_behind cf_voices cf_step ca_parts ca_heights x2 x3 post_2) : q_wk_X5_measure_3_69 P2_3 P19_3 a_gaps a_behind cf_voices cf_step ca_parts ca_heights x2 x3 post_3 := fun v1 e2 => h_P19 _ _ _ (h1 v1 e2) (h2 v1 e2)
set_option maxRecDepth 40000 in
theorem cj_q_wk_X5_measure_3_19 {P2_1 P2_2 P2_3 : Int32 → (Nat → Int32) → (Nat → Int32) → Prop} {a_gaps : Nat → Int32} {a_behind : Nat → Int32} {cf_voices : Int32} {cf_step : Int32} {ca_parts : Nat → Int32} {ca_heights : Nat → Int32} {x2 : Int32} {x3 : Int32} {post_1 post_2 post_3 : (Nat → Int32) → (Nat → Int32) → Prop} (h_P2 : ∀ x0 x1 x2, P2_1 x0 x1 x2 → P2_2 x0 x1 x2 → P2_3 x0 x1 x2) (h_post : ∀ x0 x1, post_1 x0 x1 → post_2 x0 x1 → post_3 x0 x1) (h1 : q_wk_X5_measure_3_19 P2_1 a_gaps a_behind cf_voices cf_step ca_parts ca_heights x2 x3 post_1) (h2 : q_wk_X5_measure_3_19 P2_2 a_gaps a_behind cf_voices cf_step ca_parts ca_heights x2 x3 post_2) : q_wk_X5_measure_3_19 P2_3 a_gaps a_behind cf_voices cf_step ca_parts ca_heights x2 x3 post_3 := lfp_3 h1 h2 (fun A B C hsk1 _ _ _ hak1 hck1 => ⟨fun c2 => fun v3 e4 => h_P2 _ _ _ ((hak1.1 c2) v3 e4) ((hck1.1 c2) v3 e4), fun c5 => cj_q_wc_X0_stepBetween_0 (fun _ h6 h7 => ⟨h6.1, fun v8 e9 => ⟨fun c10 => cj_q_wk_X5_measure_3_69 h_P2 hsk1 h_post ((h6.2 v8 e9).1 c10) ((h7.2 v8 e9).1 c10), fun c11 => ⟨((h6.2 v8 e9).2 c11).1, fun v12 e13 => ⟨(((h6.2 v8 e9).2 c11).2 v12 e13).1, fun v14 e15 => cj_q_wk_X5_measure_3_69 h_P2 hsk1 h_post ((((h6.2 v8 e9).2 c11).2 v12 e13).2 v14 e15) ((((h7.2 v8 e9).2 c11).2 v12 e13).2 v14 e15)⟩⟩⟩⟩) (hak1.2 c5) (hck1.2 c5)⟩) (fun A B hqk1 _ _ _ hbk1 => ⟨fun c16 => fun v17 e18 => ((hbk1.1 c16) v17 e18), fun c19 => cj_q_wc_X0_stepBetween_0 (fun _ h20 h21 => ⟨h20.1, fun v22 e23 => ⟨fun c24 => cj_q_wk_X5_measure_3_69 (fun _ _ _ h _ => h) (fun _ _ _ h _ => hqk1 _ _ _ h) (fun _ _ h _ => h) ((h20.2 v22 e23).1 c24) ((h21.2 v22 e23).1 c24), fun c25 => ⟨((h20.2 v22 e23).2 c25).1, fun v26 e27 => ⟨(((h20.2 v22 e23).2 c25).2 v26 e27).1, fun v28 e29 => cj_q_wk_X5_measure_3_69 (fun _ _ _ h _ => h) (fun _ _ _ h _ => hqk1 _ _ _ h) (fun _ _ h _ => h) ((((h20.2 v22 e23).2 c25).2 v26 e27).2 v28 e29) ((((h21.2 v22 e23).2 c25).2 v26 e27).2 v28 e29)⟩⟩⟩⟩) (hbk1.2 c19) (hbk1.2 c19)⟩)
set_option maxRecDepth 40000 in
theorem cj_q_wk_X5_measure_3_2 {a_gaps : Nat → Int32} {a_behind : Nat → Int32} {cf_voices : Int32} {cf_step : Int32} {ca_parts : Nat → Int32} {ca_heights : Nat → Int32} {x2 : Int32} {post_1 post_2 post_3 : (Nat → Int32) → (Nat → Int32) → Prop} (h_post : ∀ x0 x1, post_1 x0 x1 → post_2 x0 x1 → post_3 x0 x1) (h1 : q_wk_X5_measure_3_2 a_gaps a_behind cf_voices cf_step ca_parts ca_heights x2 post_1) (h2 : q_wk_X5_measure_3_2 a_gaps a_behind cf_voices cf_step ca_parts ca_heights x2 post_2) : q_wk_X5_measure_3_2 a_gaps a_behind cf_voices cf_step ca_parts ca_heights x2 post_3 := lfp_3 h1 h2 (fun A B C hsk1 _ _ _ hak1 hck1 => ⟨fun c2 => h_post _ _ (hak1.1 c2) (hck1.1 c2), fun c3 => ⟨(hak1.2 c3).1, fun v4 e5 => cj_q_wk_X5_measure_3_19 hsk1 h_post ((hak1.2 c3).2 v4 e5) ((hck1.2 c3).2 v4 e5)⟩⟩) (fun A B hqk1 _ _ _ hbk1 => ⟨fun c6 => (hbk1.1 c6), fun c7 => ⟨(hbk1.2 c7).1, fun v8 e9 => cj_q_wk_X5_measure_3_19 (fun _ _ _ h _ => hqk1 _ _ _ h) (fun _ _ h _ => h) ((hbk1.2 c7).2 v8 e9) ((hbk1.2 c7).2 v8 e9)⟩⟩)
set_option maxRecDepth 40000 in
theorem cj_q_wk_X5_measure_3_0 {a_gaps : Nat → Int32} {a_behind : Nat → Int32} {cf_voices : Int32} {cf_step : Int32} {ca_parts : Nat → Int32} {ca_heights : Nat → Int32} {post_1 post_2 post_3 : (Nat → Int32) → (Nat → Int32) → Prop} (h_post : ∀ x0 x1, post_1 x0 x1 → post_2 x0 x1 → post_3 x0 x1) (h1 : q_wk_X5_measure_3_0 a_gaps a_behind cf_voices cf_step ca_parts ca_heights post_1) (h2 : q_wk_X5_measure_3_0 a_gaps a_behind cf_voices cf_step ca_parts ca_heights post_2) : q_wk_X5_measure_3_0 a_gaps a_behind cf_voices cf_step ca_parts ca_heights post_3 := cj_q_wk_X5_measure_3_2 h_post h1 h2
set_option maxRecDepth 40000 in
theorem cj_q_wk_X5_table_0 {post_1 post_2 post_3 : Nat → Prop} (h_post : ∀ x0, post_1 x0 → post_2 x0 → post_3 x0) (h1 : q_wk_X5_table_0 post_1) (h2 : q_wk_X5_table_0 post_2) : q_wk_X5_table_0 post_3 := h_post _ h1 h2
set_option maxRecDepth 40000 in
theorem cj_q_wk_X5_fill_3_0 {a_gaps : Nat → Int32} {a_behind : Nat → Int32} {cf_voices : Int32} {cf_step : Int32} {ca_parts : Nat → Int32} {ca_heights : Nat → Int32} {z_tab : Nat → Int32} {post_1 post_2 post_3 : (Nat → Int32) → (Nat → Int32) → (Nat → Int32) → Prop} (h_post : ∀ x0 x1 x2, post_1 x0 x1 x2 → post_2 x0 x1 x2 → post_3 x0 x1 x2) (h1 : q_wk_X5_fill_3_0 a_gaps a_behind cf_voices cf_step ca_parts ca_heights z_tab post_1) (h2 : q_wk_X5_fill_3_0 a_gaps a_behind cf_voices cf_step ca_parts ca_heights z_tab post_2) : q_wk_X5_fill_3_0 a_gaps a_behind cf_voices cf_step ca_parts ca_heights z_tab post_3 := cj_q_wk_X5_measure_3_0 (fun _ _ h1 h2 => cj_q_wk_X5_table_0 (fun _ h3 h4 => ⟨fun c5 => (h3.1 c5), fun c6 => cj_q_wk_X5_fill_3_10 h_post (h3.2 c6) (h4.2 c6)⟩) h1 h2) h1 h2
set_option maxRecDepth 40000 in
theorem cj_q_wxt_X10_choirAt_0 {ta_counts : Nat → Int32} {x1 : Int32} {post_1 post_2 post_3 : Nat → Prop} (h_post : ∀ x0, post_1 x0 → post_2 x0 → post_3 x0) (h1 : q_wxt_X10_choirAt_0 ta_counts x1 post_1) (h2 : q_wxt_X10_choirAt_0 ta_counts x1 post_2) : q_wxt_X10_choirAt_0 ta_counts x1 post_3 := ⟨fun c1 => h_post _ (h1.1 c1) (h2.1 c1), fun c2 => ⟨fun c3 => h_post _ ((h1.2 c2).1 c3) ((h2.2 c2).1 c3), fun c4 => ⟨((h1.2 c2).2 c4).1, fun c5 => h_post _ (((h1.2 c2).2 c4).2.1 c5) (((h2.2 c2).2 c4).2.1 c5), fun c6 => h_post _ (((h1.2 c2).2 c4).2.2 c6) (((h2.2 c2).2 c4).2.2 c6)⟩⟩⟩
set_option maxRecDepth 40000 in
theorem cj_q_wk_X5_total_3_19 {cf_voices : Int32} {z_tab : Nat → Int32} {x3 : Int32} {x4 : Int32} {post_1 post_2 post_3 : Int32 → Prop} (h_post : ∀ x0, post_1 x0 → post_2 x0 → post_3 x0) (h1 : q_wk_X5_total_3_19 cf_voices z_tab x3 x4 post_1) (h2 : q_wk_X5_total_3_19 cf_voices z_tab x3 x4 post_2) : q_wk_X5_total_3_19 cf_voices z_tab x3 x4 post_3 := lfp_2 h1 h2 (fun A B C hsk1 _ _ hak1 hck1 => ⟨fun c2 => h_post _ (hak1.1 c2) (hck1.1 c2), fun c3 => ⟨(hak1.2 c3).1, fun v4 e5 => fun v6 e7 => hsk1 _ _ (((hak1.2 c3).2 v4 e5) v6 e7) (((hck1.2 c3).2 v4 e5) v6 e7)⟩⟩) (fun A B hqk1 _ _ hbk1 => ⟨fun c8 => (hbk1.1 c8), fun c9 => ⟨(hbk1.2 c9).1, fun v10 e11 => fun v12 e13 => hqk1 _ _ (((hbk1.2 c9).2 v10 e11) v12 e13)⟩⟩)
set_option maxRecDepth 40000 in
theorem cj_q_wk_X5_total_3_0 {cf_voices : Int32} {z_tab : Nat → Int32} {post_1 post_2 post_3 : Int32 → Prop} (h_post : ∀ x0, post_1 x0 → post_2 x0 → post_3 x0) (h1 : q_wk_X5_total_3_0 cf_voices z_tab post_1) (h2 : q_wk_X5_total_3_0 cf_voices z_tab post_2) : q_wk_X5_total_3_0 cf_voices z_tab post_3 := ⟨fun c1 => cj_q_wk_X5_table_0 (fun _ h2 h3 => ⟨fun c4 => (h2.1 c4), fun c5 => cj_q_wk_X5_total_3_19 h_post (h2.2 c5) (h3.2 c5)⟩) (h1.1 c1) (h2.1 c1), fun c6 => h_post _ (h1.2 c6) (h2.2 c6)⟩
set_option maxRecDepth 40000 in
theorem cj_q_wk_X5_firstOf_44 {P8_1 P8_2 P8_3 : Int32 → Prop} {z_tab : Nat → Int32} {x1 : Int32} {x2 : Int32} {x4 : Int32} {post_1 post_2 post_3 : Int32 → Prop} (h_P8 : ∀ x0, P8_1 x0 → P8_2 x0 → P8_3 x0) (h_post : ∀ x0, post_1 x0 → post_2 x0 → post_3 x0) (h1 : q_wk_X5_firstOf_44 P8_1 z_tab x1 x2 x4 post_1) (h2 : q_wk_X5_firstOf_44 P8_2 z_tab x1 x2 x4 post_2) : q_wk_X5_firstOf_44 P8_3 z_tab x1 x2 x4 post_3 := fun v1 e2 => h_P8 _ (h1 v1 e2) (h2 v1 e2)
set_option maxRecDepth 40000 in
theorem cj_q_wk_X5_firstOf_8 {z_tab : Nat → Int32} {x1 : Int32} {x2 : Int32} {x4 : Int32} {post_1 post_2 post_3 : Int32 → Prop} (h_post : ∀ x0, post_1 x0 → post_2 x0 → post_3 x0) (h1 : q_wk_X5_firstOf_8 z_tab x1 x2 x4 post_1) (h2 : q_wk_X5_firstOf_8 z_tab x1 x2 x4 post_2) : q_wk_X5_firstOf_8 z_tab x1 x2 x4 post_3 := lfp_1 h1 h2 (fun A B C hsk1 _ hak1 hck1 => ⟨fun c2 => h_post _ (hak1.1 c2) (hck1.1 c2), fun c3 => cj_q_z_X10_has_0 (fun _ h4 h5 => ⟨fun c6 => cj_q_wk_X5_firstOf_44 hsk1 h_post (h4.1 c6) (h5.1 c6), fun c7 => ⟨(h4.2 c7).1, ⟨fun c8 => cj_q_wk_X5_firstOf_44 hsk1 h_post ((h4.2 c7).2.1 c8) ((h5.2 c7).2.1 c8), fun c9 => h_post _ ((h4.2 c7).2.2 c9) ((h5.2 c7).2.2 c9)⟩⟩⟩) (hak1.2 c3) (hck1.2 c3)⟩) (fun A B hqk1 _ hbk1 => ⟨fun c10 => (hbk1.1 c10), fun c11 => cj_q_z_X10_has_0 (fun _ h12 h13 => ⟨fun c14 => cj_q_wk_X5_firstOf_44 (fun _ h _ => hqk1 _ h) (fun _ h _ => h) (h12.1 c14) (h13.1 c14), fun c15 => ⟨(h12.2 c15).1, ⟨fun c16 => cj_q_wk_X5_firstOf_44 (fun _ h _ => hqk1 _ h) (fun _ h _ => h) ((h12.2 c15).2.1 c16) ((h13.2 c15).2.1 c16), fun c17 => ((h12.2 c15).2.2 c17)⟩⟩⟩) (hbk1.2 c11) (hbk1.2 c11)⟩)
set_option maxRecDepth 40000 in
theorem cj_q_wk_X5_firstOf_0 {z_tab : Nat → Int32} {x1 : Int32} {x2 : Int32} {post_1 post_2 post_3 : Int32 → Prop} (h_post : ∀ x0, post_1 x0 → post_2 x0 → post_3 x0) (h1 : q_wk_X5_firstOf_0 z_tab x1 x2 post_1) (h2 : q_wk_X5_firstOf_0 z_tab x1 x2 post_2) : q_wk_X5_firstOf_0 z_tab x1 x2 post_3 := cj_q_wk_X5_table_0 (fun _ h1 h2 => ⟨fun c3 => (h1.1 c3), fun c4 => cj_q_wk_X5_firstOf_8 h_post (h1.2 c4) (h2.2 c4)⟩) h1 h2
set_option maxRecDepth 40000 in
theorem cj_q_wk_X5_voiceAt_3_18 {a_behind : Nat → Int32} {cf_voices : Int32} {z_tab : Nat → Int32} {x2 : Int32} {x3 : Int32} {x4 : Int32} {x5 : Int32} {x6 : Int32} {post_1 post_2 post_3 : Int32 → Prop} (h_post : ∀ x0, post_1 x0 → post_2 x0 → post_3 x0) (h1 : q_wk_X5_voiceAt_3_18 a_behind cf_voices z_tab x2 x3 x4 x5 x6 post_1) (h2 : q_wk_X5_voiceAt_3_18 a_behind cf_voices z_tab x2 x3 x4 x5 x6 post_2) : q_wk_X5_voiceAt_3_18 a_behind cf_voices z_tab x2 x3 x4 x5 x6 post_3 := lfp_4 h1 h2 (fun A B C hsk1 _ _ _ _ hak1 hck1 => ⟨fun c2 => h_post _ (hak1.1 c2) (hck1.1 c2), fun c3 => cj_q_wk_X5_firstOf_0 (fun _ h4 h5 => ⟨fun c6 => fun v7 e8 => ⟨((h4.1 c6) v7 e8).1, fun v9 e10 => fun v11 e12 => hsk1 _ _ _ _ ((((h4.1 c6) v7 e8).2 v9 e10) v11 e12) ((((h5.1 c6) v7 e8).2 v9 e10) v11 e12)⟩, fun c13 => h_post _ (h4.2 c13) (h5.2 c13)⟩) (hak1.2 c3) (hck1.2 c3)⟩) (fun A B hqk1 _ _ _ _ hbk1 => ⟨fun c14 => (hbk1.1 c14), fun c15 => cj_q_wk_X5_firstOf_0 (fun _ h16 h17 => ⟨fun c18 => fun v19 e20 => ⟨((h16.1 c18) v19 e20).1, fun v21 e22 => fun v23 e24 => hqk1 _ _ _ _ ((((h16.1 c18) v19 e20).2 v21 e22) v23 e24)⟩, fun c25 => (h16.2 c25)⟩) (hbk1.2 c15) (hbk1.2 c15)⟩)
set_option maxRecDepth 40000 in
theorem cj_q_wk_X5_voiceAt_3_0 {a_behind : Nat → Int32} {cf_voices : Int32} {z_tab : Nat → Int32} {x2 : Int32} {post_1 post_2 post_3 : Int32 → Prop} (h_post : ∀ x0, post_1 x0 → post_2 x0 → post_3 x0) (h1 : q_wk_X5_voiceAt_3_0 a_behind cf_voices z_tab x2 post_1) (h2 : q_wk_X5_voiceAt_3_0 a_behind cf_voices z_tab x2 post_2) : q_wk_X5_voiceAt_3_0 a_behind cf_voices z_tab x2 post_3 := fun v1 e2 => cj_q_wk_X5_voiceAt_3_18 h_post (h1 v1 e2) (h2 v1 e2)
set_option maxRecDepth 40000 in
theorem cj_q_wxt_X10_order_32k0 {ta_counts : Nat → Int32} {tc0f_voices : Int32} {tc0f_step : Int32} {tc0a_parts : Nat → Int32} {tc0a_heights : Nat → Int32} {tc1f_voices : Int32} {tc1f_step : Int32} {tc1a_parts : Nat → Int32} {tc1a_heights : Nat → Int32} {ka_gaps : Nat → Int32} {ka_behind : Nat → Int32} {z_tab : Nat → Int32} {x2 : Int32} {post_1 post_2 post_3 : Int32 → (Nat → Int32) → (Nat → Int32) → (Nat → Int32) → Prop} (h_post : ∀ x0 x1 x2 x3, post_1 x0 x1 x2 x3 → post_2 x0 x1 x2 x3 → post_3 x0 x1 x2 x3) (h1 : q_wxt_X10_order_32k0 ta_counts tc0f_voices tc0f_step tc0a_parts tc0a_heights tc1f_voices tc1f_step tc1a_parts tc1a_heights ka_gaps ka_behind z_tab x2 post_1) (h2 : q_wxt_X10_order_32k0 ta_counts tc0f_voices tc0f_step tc0a_parts tc0a_heights tc1f_voices tc1f_step tc1a_parts tc1a_heights ka_gaps ka_behind z_tab x2 post_2) : q_wxt_X10_order_32k0 ta_counts tc0f_voices tc0f_step tc0a_parts tc0a_heights tc1f_voices tc1f_step tc1a_parts tc1a_heights ka_gaps ka_behind z_tab x2 post_3 := cj_q_wk_X5_total_3_0 (fun _ h1 h2 => ⟨fun c3 => cj_q_wk_X5_voiceAt_3_0 (fun _ h4 h5 => h_post _ _ _ _ h4 h5) (h1.1 c3) (h2.1 c3), fun c6 => h_post _ _ _ _ (h1.2 c6) (h2.2 c6)⟩) h1 h2
set_option maxRecDepth 40000 in
theorem cj_q_wxt_X10_order_32k1 {ta_counts : Nat → Int32} {tc0f_voices : Int32} {tc0f_step : Int32} {tc0a_parts : Nat → Int32} {tc0a_heights : Nat → Int32} {tc1f_voices : Int32} {tc1f_step : Int32} {tc1a_parts : Nat → Int32} {tc1a_heights : Nat → Int32} {ka_gaps : Nat → Int32} {ka_behind : Nat → Int32} {z_tab : Nat → Int32} {x2 : Int32} {post_1 post_2 post_3 : Int32 → (Nat → Int32) → (Nat → Int32) → (Nat → Int32) → Prop} (h_post : ∀ x0 x1 x2 x3, post_1 x0 x1 x2 x3 → post_2 x0 x1 x2 x3 → post_3 x0 x1 x2 x3) (h1 : q_wxt_X10_order_32k1 ta_counts tc0f_voices tc0f_step tc0a_parts tc0a_heights tc1f_voices tc1f_step tc1a_parts tc1a_heights ka_gaps ka_behind z_tab x2 post_1) (h2 : q_wxt_X10_order_32k1 ta_counts tc0f_voices tc0f_step tc0a_parts tc0a_heights tc1f_voices tc1f_step tc1a_parts tc1a_heights ka_gaps ka_behind z_tab x2 post_2) : q_wxt_X10_order_32k1 ta_counts tc0f_voices tc0f_step tc0a_parts tc0a_heights tc1f_voices tc1f_step tc1a_parts tc1a_heights ka_gaps ka_behind z_tab x2 post_3 := cj_q_wk_X5_total_3_0 (fun _ h1 h2 => ⟨fun c3 => cj_q_wk_X5_voiceAt_3_0 (fun _ h4 h5 => h_post _ _ _ _ h4 h5) (h1.1 c3) (h2.1 c3), fun c6 => h_post _ _ _ _ (h1.2 c6) (h2.2 c6)⟩) h1 h2
set_option maxRecDepth 40000 in
theorem cj_q_wxt_X10_order_0 {ta_counts : Nat → Int32} {tc0f_voices : Int32} {tc0f_step : Int32} {tc0a_parts : Nat → Int32} {tc0a_heights : Nat → Int32} {tc1f_voices : Int32} {tc1f_step : Int32} {tc1a_parts : Nat → Int32} {tc1a_heights : Nat → Int32} {ka_gaps : Nat → Int32} {ka_behind : Nat → Int32} {z_tab : Nat → Int32} {x1 : Int32} {x2 : Int32} {post_1 post_2 post_3 : Int32 → (Nat → Int32) → (Nat → Int32) → (Nat → Int32) → Prop} (h_post : ∀ x0 x1 x2 x3, post_1 x0 x1 x2 x3 → post_2 x0 x1 x2 x3 → post_3 x0 x1 x2 x3) (h1 : q_wxt_X10_order_0 ta_counts tc0f_voices tc0f_step tc0a_parts tc0a_heights tc1f_voices tc1f_step tc1a_parts tc1a_heights ka_gaps ka_behind z_tab x1 x2 post_1) (h2 : q_wxt_X10_order_0 ta_counts tc0f_voices tc0f_step tc0a_parts tc0a_heights tc1f_voices tc1f_step tc1a_parts tc1a_heights ka_gaps ka_behind z_tab x1 x2 post_2) : q_wxt_X10_order_0 ta_counts tc0f_voices tc0f_step tc0a_parts tc0a_heights tc1f_voices tc1f_step tc1a_parts tc1a_heights ka_gaps ka_behind z_tab x1 x2 post_3 := cj_q_wxt_X10_choirAt_0 (fun _ h1 h2 => ⟨fun c3 => h_post _ _ _ _ (h1.1 c3) (h2.1 c3), fun c4 => ⟨fun c5 => h_post _ _ _ _ ((h1.2.1 c4).1 c5) ((h2.2.1 c4).1 c5), fun c6 => ⟨fun c7 => cj_q_wk_X5_fill_3_0 (fun _ _ _ h8 h9 => cj_q_wxt_X10_order_32k1 h_post h8 h9) (((h1.2.1 c4).2 c6).1 c7) (((h2.2.1 c4).2 c6).1 c7), fun c10 => h_post _ _ _ _ (((h1.2.1 c4).2 c6).2 c10) (((h2.2.1 c4).2 c6).2 c10)⟩⟩, fun c11 c12 => ⟨fun c13 => h_post _ _ _ _ ((h1.2.2 c11 c12).1 c13) ((h2.2.2 c11 c12).1 c13), fun c14 => ⟨fun c15 => cj_q_wk_X5_fill_3_0 (fun _ _ _ h16 h17 => cj_q_wxt_X10_order_32k0 h_post h16 h17) (((h1.2.2 c11 c12).2 c14).1 c15) (((h2.2.2 c11 c12).2 c14).1 c15), fun c18 => h_post _ _ _ _ (((h1.2.2 c11 c12).2 c14).2 c18) (((h2.2.2 c11 c12).2 c14).2 c18)⟩⟩⟩) h1 h2
set_option maxRecDepth 40000 in
theorem cj_q_wk0_X5_measure_3_69 {P2_1 P2_2 P2_3 : Int32 → (Nat → Int32) → (Nat → Int32) → Prop} {P19_1 P19_2 P19_3 : Int32 → (Nat → Int32) → (Nat → Int32) → Prop} {a_gaps : Nat → Int32} {a_behind : Nat → Int32} {cf_voices : Int32} {cf_step : Int32} {ca_parts : Nat → Int32} {ca_heights : Nat → Int32} {x2 : Int32} {x3 : Int32} {post_1 post_2 post_3 : (Nat → Int32) → (Nat → Int32) → Prop} (h_P2 : ∀ x0 x1 x2, P2_1 x0 x1 x2 → P2_2 x0 x1 x2 → P2_3 x0 x1 x2) (h_P19 : ∀ x0 x1 x2, P19_1 x0 x1 x2 → P19_2 x0 x1 x2 → P19_3 x0 x1 x2) (h_post : ∀ x0 x1, post_1 x0 x1 → post_2 x0 x1 → post_3 x0 x1) (h1 : q_wk0_X5_measure_3_69 P2_1 P19_1 a_gaps a_behind cf_voices cf_step ca_parts ca_heights x2 x3 post_1) (h2 : q_wk0_X5_measure_3_69 P2_2 P19_2 a_gaps a_behind cf_voices cf_step ca_parts ca_heights x2 x3 post_2) : q_wk0_X5_measure_3_69 P2_3 P19_3 a_gaps a_behind cf_voices cf_step ca_parts ca_heights x2 x3 post_3 := fun v1 e2 => h_P19 _ _ _ (h1 v1 e2) (h2 v1 e2)
set_option maxRecDepth 40000 in
theorem cj_q_wk0_X5_measure_3_19 {P2_1 P2_2 P2_3 : Int32 → (Nat → Int32) → (Nat → Int32) → Prop} {a_gaps : Nat → Int32} {a_behind : Nat → Int32} {cf_voices : Int32} {cf_step : Int32} {ca_parts : Nat → Int32} {ca_heights : Nat → Int32} {x2 : Int32} {x3 : Int32} {post_1 post_2 post_3 : (Nat → Int32) → (Nat → Int32) → Prop} (h_P2 : ∀ x0 x1 x2, P2_1 x0 x1 x2 → P2_2 x0 x1 x2 → P2_3 x0 x1 x2) (h_post : ∀ x0 x1, post_1 x0 x1 → post_2 x0 x1 → post_3 x0 x1) (h1 : q_wk0_X5_measure_3_19 P2_1 a_gaps a_behind cf_voices cf_step ca_parts ca_heights x2 x3 post_1) (h2 : q_wk0_X5_measure_3_19 P2_2 a_gaps a_behind cf_voices cf_step ca_parts ca_heights x2 x3 post_2) : q_wk0_X5_measure_3_19 P2_3 a_gaps a_behind cf_voices cf_step ca_parts ca_heights x2 x3 post_3 := lfp_3 h1 h2 (fun A B C hsk1 _ _ _ hak1 hck1 => ⟨fun c2 => fun v3 e4 => h_P2 _ _ _ ((hak1.1 c2) v3 e4) ((hck1.1 c2) v3 e4), fun c5 => cj_q_wc_X0_stepBetween_0 (fun _ h6 h7 => ⟨h6.1, fun v8 e9 => ⟨fun c10 => cj_q_wk0_X5_measure_3_69 h_P2 hsk1 h_post ((h6.2 v8 e9).1 c10) ((h7.2 v8 e9).1 c10), fun c11 => ⟨((h6.2 v8 e9).2 c11).1, fun v12 e13 => ⟨(((h6.2 v8 e9).2 c11).2 v12 e13).1, fun v14 e15 => cj_q_wk0_X5_measure_3_69 h_P2 hsk1 h_post ((((h6.2 v8 e9).2 c11).2 v12 e13).2 v14 e15) ((((h7.2 v8 e9).2 c11).2 v12 e13).2 v14 e15)⟩⟩⟩⟩) (hak1.2 c5) (hck1.2 c5)⟩) (fun A B hqk1 _ _ _ hbk1 => ⟨fun c16 => fun v17 e18 => ((hbk1.1 c16) v17 e18), fun c19 => cj_q_wc_X0_stepBetween_0 (fun _ h20 h21 => ⟨h20.1, fun v22 e23 => ⟨fun c24 => cj_q_wk0_X5_measure_3_69 (fun _ _ _ h _ => h) (fun _ _ _ h _ => hqk1 _ _ _ h) (fun _ _ h _ => h) ((h20.2 v22 e23).1 c24) ((h21.2 v22 e23).1 c24), fun c25 => ⟨((h20.2 v22 e23).2 c25).1, fun v26 e27 => ⟨(((h20.2 v22 e23).2 c25).2 v26 e27).1, fun v28 e29 => cj_q_wk0_X5_measure_3_69 (fun _ _ _ h _ => h) (fun _ _ _ h _ => hqk1 _ _ _ h) (fun _ _ h _ => h) ((((h20.2 v22 e23).2 c25).2 v26 e27).2 v28 e29) ((((h21.2 v22 e23).2 c25).2 v26 e27).2 v28 e29)⟩⟩⟩⟩) (hbk1.2 c19) (hbk1.2 c19)⟩)
set_option maxRecDepth 40000 in
theorem cj_q_wk0_X5_measure_3_2 {a_gaps : Nat → Int32} {a_behind : Nat → Int32} {cf_voices : Int32} {cf_step : Int32} {ca_parts : Nat → Int32} {ca_heights : Nat → Int32} {x2 : Int32} {post_1 post_2 post_3 : (Nat → Int32) → (Nat → Int32) → Prop} (h_post : ∀ x0 x1, post_1 x0 x1 → post_2 x0 x1 → post_3 x0 x1) (h1 : q_wk0_X5_measure_3_2 a_gaps a_behind cf_voices cf_step ca_parts ca_heights x2 post_1) (h2 : q_wk0_X5_measure_3_2 a_gaps a_behind cf_voices cf_step ca_parts ca_heights x2 post_2) : q_wk0_X5_measure_3_2 a_gaps a_behind cf_voices cf_step ca_parts ca_heights x2 post_3 := lfp_3 h1 h2 (fun A B C hsk1 _ _ _ hak1 hck1 => ⟨fun c2 => h_post _ _ (hak1.1 c2) (hck1.1 c2), fun c3 => ⟨(hak1.2 c3).1, fun v4 e5 => cj_q_wk0_X5_measure_3_19 hsk1 h_post ((hak1.2 c3).2 v4 e5) ((hck1.2 c3).2 v4 e5)⟩⟩) (fun A B hqk1 _ _ _ hbk1 => ⟨fun c6 => (hbk1.1 c6), fun c7 => ⟨(hbk1.2 c7).1, fun v8 e9 => cj_q_wk0_X5_measure_3_19 (fun _ _ _ h _ => hqk1 _ _ _ h) (fun _ _ h _ => h) ((hbk1.2 c7).2 v8 e9) ((hbk1.2 c7).2 v8 e9)⟩⟩)
set_option maxRecDepth 40000 in
theorem cj_q_wk0_X5_measure_3_0 {a_gaps : Nat → Int32} {a_behind : Nat → Int32} {cf_voices : Int32} {cf_step : Int32} {ca_parts : Nat → Int32} {ca_heights : Nat → Int32} {post_1 post_2 post_3 : (Nat → Int32) → (Nat → Int32) → Prop} (h_post : ∀ x0 x1, post_1 x0 x1 → post_2 x0 x1 → post_3 x0 x1) (h1 : q_wk0_X5_measure_3_0 a_gaps a_behind cf_voices cf_step ca_parts ca_heights post_1) (h2 : q_wk0_X5_measure_3_0 a_gaps a_behind cf_voices cf_step ca_parts ca_heights post_2) : q_wk0_X5_measure_3_0 a_gaps a_behind cf_voices cf_step ca_parts ca_heights post_3 := cj_q_wk0_X5_measure_3_2 h_post h1 h2
end
section
set_option maxRecDepth 40000 in
set_option maxHeartbeats 4000000 in
theorem tG_copy3 {a_tape : Nat → Int32} {f_length : Int32} {f_fault : Int32} {f_place : Int32} {a_counts : Nat → Int32} {l0f_huts : Int32} {l0f_singers : Int32} {l0f_villages : Int32} {l0f_dams : Int32} {l0f_echoes : Int32} {l0f_deep : Int32} {l0f_slide : Int32} {l0a_heights : Nat → Int32} {l0a_ladders : Nat → Int32} {l0a_minutes : Nat → Int32} {l0a_echoFrom : Nat → Int32} {l0a_echoTo : Nat → Int32} {l0a_homes : Nat → Int32} {l0a_talls : Nat → Int32} {l0a_known : Nat → Int32} {l1f_huts : Int32} {l1f_singers : Int32} {l1f_villages : Int32} {l1f_dams : Int32} {l1f_echoes : Int32} {l1f_deep : Int32} {l1f_slide : Int32} {l1a_heights : Nat → Int32} {l1a_ladders : Nat → Int32} {l1a_minutes : Nat → Int32} {l1a_echoFrom : Nat → Int32} {l1a_echoTo : Nat → Int32} {l1a_homes : Nat → Int32} {l1a_talls : Nat → Int32} {l1a_known : Nat → Int32} {v0f_deeds : Int32} {v0a_kinds : Nat → Int32} {v0a_firsts : Nat → Int32} {v0a_seconds : Nat → Int32} {v1f_deeds : Int32} {v1a_kinds : Nat → Int32} {v1a_firsts : Nat → Int32} {v1a_seconds : Nat → Int32} {s0f_facts : Int32} {s0a_heard : Nat → Int32} {s0a_huts : Nat → Int32} {s0a_minutes : Nat → Int32} {s1f_facts : Int32} {s1a_heard : Nat → Int32} {s1a_huts : Nat → Int32} {s1a_minutes : Nat → Int32} {c0f_voices : Int32} {c0f_step : Int32} {c0a_parts : Nat → Int32} {c0a_heights : Nat → Int32} {c1f_voices : Int32} {c1f_step : Int32} {c1a_parts : Nat → Int32} {c1a_heights : Nat → Int32} {oa_tape : Nat → Int32} {of_length : Int32} {of_fault : Int32} {of_place : Int32} {oa_counts : Nat → Int32} {ol0f_huts : Int32} {ol0f_singers : Int32} {ol0f_villages : Int32} {ol0f_dams : Int32} {ol0f_echoes : Int32} {ol0f_deep : Int32} {ol0f_slide : Int32} {ol0a_heights : Nat → Int32} {ol0a_ladders : Nat → Int32} {ol0a_minutes : Nat → Int32} {ol0a_echoFrom : Nat → Int32} {ol0a_echoTo : Nat → Int32} {ol0a_homes : Nat → Int32} {ol0a_talls : Nat → Int32} {ol0a_known : Nat → Int32} {ol1f_huts : Int32} {ol1f_singers : Int32} {ol1f_villages : Int32} {ol1f_dams : Int32} {ol1f_echoes : Int32} {ol1f_deep : Int32} {ol1f_slide : Int32} {ol1a_heights : Nat → Int32} {ol1a_ladders : Nat → Int32} {ol1a_minutes : Nat → Int32} {ol1a_echoFrom : Nat → Int32} {ol1a_echoTo : Nat → Int32} {ol1a_homes : Nat → Int32} {ol1a_talls : Nat → Int32} {ol1a_known : Nat → Int32} {ov0f_deeds : Int32} {ov0a_kinds : Nat → Int32} {ov0a_firsts : Nat → Int32} {ov0a_seconds : Nat → Int32} {ov1f_deeds : Int32} {ov1a_kinds : Nat → Int32} {ov1a_firsts : Nat → Int32} {ov1a_seconds : Nat → Int32} {os0f_facts : Int32} {os0a_heard : Nat → Int32} {os0a_huts : Nat → Int32} {os0a_minutes : Nat → Int32} {os1f_facts : Int32} {os1a_heard : Nat → Int32} {os1a_huts : Nat → Int32} {os1a_minutes : Nat → Int32} {oc0f_voices : Int32} {oc0f_step : Int32} {oc0a_parts : Nat → Int32} {oc0a_heights : Nat → Int32} {oc1f_voices : Int32} {oc1f_step : Int32} {oc1a_parts : Nat → Int32} {oc1a_heights : Nat → Int32} {post : (Nat → Int32) → (Int32) → (Int32) → (Int32) → (Nat → Int32) → (Int32) → (Int32) → (Int32) → (Int32) → (Int32) → (Int32) → (Int32) → (Nat → Int32) → (Nat → Int32) → (Nat → Int32) → (Nat → Int32) → (Nat → Int32) → (Nat → Int32) → (Nat → Int32) → (Nat → Int32) → (Int32) → (Int32) → (Int32) → (Int32) → (Int32) → (Int32) → (Int32) → (Nat → Int32) → (Nat → Int32) → (Nat → Int32) → (Nat → Int32) → (Nat → Int32) → (Nat → Int32) → (Nat → Int32) → (Nat → Int32) → (Int32) → (Nat → Int32) → (Nat → Int32) → (Nat → Int32) → (Int32) → (Nat → Int32) → (Nat → Int32) → (Nat → Int32) → (Int32) → (Nat → Int32) → (Nat → Int32) → (Nat → Int32) → (Int32) → (Nat → Int32) → (Nat → Int32) → (Nat → Int32) → (Int32) → (Int32) → (Nat → Int32) → (Nat → Int32) → (Int32) → (Int32) → (Nat → Int32) → (Nat → Int32) → Prop} (hT : tG a_tape f_length f_fault f_place a_counts l0f_huts l0f_singers l0f_villages l0f_dams l0f_echoes l0f_deep l0f_slide l0a_heights l0a_ladders l0a_minutes l0a_echoFrom l0a_echoTo l0a_homes l0a_talls l0a_known l1f_huts l1f_singers l1f_villages l1f_dams l1f_echoes l1f_deep l1f_slide l1a_heights l1a_ladders l1a_minutes l1a_echoFrom l1a_echoTo l1a_homes l1a_talls l1a_known v0f_deeds v0a_kinds v0a_firsts v0a_seconds v1f_deeds v1a_kinds v1a_firsts v1a_seconds s0f_facts s0a_heard s0a_huts s0a_minutes s1f_facts s1a_heard s1a_huts s1a_minutes c0f_voices c0f_step c0a_parts c0a_heights c1f_voices c1f_step c1a_parts c1a_heights) (hO : tG oa_tape of_length of_fault of_place oa_counts ol0f_huts ol0f_singers ol0f_villages ol0f_dams ol0f_echoes ol0f_deep ol0f_slide ol0a_heights ol0a_ladders ol0a_minutes ol0a_echoFrom ol0a_echoTo ol0a_homes ol0a_talls ol0a_known ol1f_huts ol1f_singers ol1f_villages ol1f_dams ol1f_echoes ol1f_deep ol1f_slide ol1a_heights ol1a_ladders ol1a_minutes ol1a_echoFrom ol1a_echoTo ol1a_homes ol1a_talls ol1a_known ov0f_deeds ov0a_kinds ov0a_firsts ov0a_seconds ov1f_deeds ov1a_kinds ov1a_firsts ov1a_seconds os0f_facts os0a_heard os0a_huts os0a_minutes os1f_facts os1a_heard os1a_huts os1a_minutes oc0f_voices oc0f_step oc0a_parts oc0a_heights oc1f_voices oc1f_step oc1a_parts oc1a_heights) (hpost : ∀ (na_tape : Nat → Int32) (nf_length : Int32) (nf_fault : Int32) (nf_place : Int32) (na_counts : Nat → Int32) (nl0f_huts : Int32) (nl0f_singers : Int32) (nl0f_villages : Int32) (nl0f_dams : Int32) (nl0f_echoes : Int32) (nl0f_deep : Int32) (nl0f_slide : Int32) (nl0a_heights : Nat → Int32) (nl0a_ladders : Nat → Int32) (nl0a_minutes : Nat → Int32) (nl0a_echoFrom : Nat → Int32) (nl0a_echoTo : Nat → Int32) (nl0a_homes : Nat → Int32) (nl0a_talls : Nat → Int32) (nl0a_known : Nat → Int32) (nl1f_huts : Int32) (nl1f_singers : Int32) (nl1f_villages : Int32) (nl1f_dams : Int32) (nl1f_echoes : Int32) (nl1f_deep : Int32) (nl1f_slide : Int32) (nl1a_heights : Nat → Int32) (nl1a_ladders : Nat → Int32) (nl1a_minutes : Nat → Int32) (nl1a_echoFrom : Nat → Int32) (nl1a_echoTo : Nat → Int32) (nl1a_homes : Nat → Int32) (nl1a_talls : Nat → Int32) (nl1a_known : Nat → Int32) (nv0f_deeds : Int32) (nv0a_kinds : Nat → Int32) (nv0a_firsts : Nat → Int32) (nv0a_seconds : Nat → Int32) (nv1f_deeds : Int32) (nv1a_kinds : Nat → Int32) (nv1a_firsts : Nat → Int32) (nv1a_seconds : Nat → Int32) (ns0f_facts : Int32) (ns0a_heard : Nat → Int32) (ns0a_huts : Nat → Int32) (ns0a_minutes : Nat → Int32) (ns1f_facts : Int32) (ns1a_heard : Nat → Int32) (ns1a_huts : Nat → Int32) (ns1a_minutes : Nat → Int32) (nc0f_voices : Int32) (nc0f_step : Int32) (nc0a_parts : Nat → Int32) (nc0a_heights : Nat → Int32) (nc1f_voices : Int32) (nc1f_step : Int32) (nc1a_parts : Nat → Int32) (nc1a_heights : Nat → Int32), tG na_tape nf_length nf_fault nf_place na_counts nl0f_huts nl0f_singers nl0f_villages nl0f_dams nl0f_echoes nl0f_deep nl0f_slide nl0a_heights nl0a_ladders nl0a_minutes nl0a_echoFrom nl0a_echoTo nl0a_homes nl0a_talls nl0a_known nl1f_huts nl1f_singers nl1f_villages nl1f_dams nl1f_echoes nl1f_deep nl1f_slide nl1a_heights nl1a_ladders nl1a_minutes nl1a_echoFrom nl1a_echoTo nl1a_homes nl1a_talls nl1a_known nv0f_deeds nv0a_kinds nv0a_firsts nv0a_seconds nv1f_deeds nv1a_kinds nv1a_firsts nv1a_seconds ns0f_facts ns0a_heard ns0a_huts ns0a_minutes ns1f_facts ns1a_heard ns1a_huts ns1a_minutes nc0f_voices nc0f_step nc0a_parts nc0a_heights nc1f_voices nc1f_step nc1a_parts nc1a_heights → tCP (tmk na_tape nf_length nf_fault nf_place na_counts nl0f_huts nl0f_singers nl0f_villages nl0f_dams nl0f_echoes nl0f_deep nl0f_slide nl0a_heights nl0a_ladders nl0a_minutes nl0a_echoFrom nl0a_echoTo nl0a_homes nl0a_talls nl0a_known nl1f_huts nl1f_singers nl1f_villages nl1f_dams nl1f_echoes nl1f_deep nl1f_slide nl1a_heights nl1a_ladders nl1a_minutes nl1a_echoFrom nl1a_echoTo nl1a_homes nl1a_talls nl1a_known nv0f_deeds nv0a_kinds nv0a_firsts nv0a_seconds nv1f_deeds nv1a_kinds nv1a_firsts nv1a_seconds ns0f_facts ns0a_heard ns0a_huts ns0a_minutes ns1f_facts ns1a_heard ns1a_huts ns1a_minutes nc0f_voices nc0f_step nc0a_parts nc0a_heights nc1f_voices nc1f_step nc1a_parts nc1a_heights) (tmk oa_tape of_length of_fault of_place oa_counts ol0f_huts ol0f_singers ol0f_villages ol0f_dams ol0f_echoes ol0f_deep ol0f_slide ol0a_heights ol0a_ladders ol0a_minutes ol0a_echoFrom ol0a_echoTo ol0a_homes ol0a_talls ol0a_known ol1f_huts ol1f_singers ol1f_villages ol1f_dams ol1f_echoes ol1f_deep ol1f_slide ol1a_heights ol1a_ladders ol1a_minutes ol1a_echoFrom ol1a_echoTo ol1a_homes ol1a_talls ol1a_known ov0f_deeds ov0a_kinds ov0a_firsts ov0a_seconds ov1f_deeds ov1a_kinds ov1a_firsts ov1a_seconds os0f_facts os0a_heard os0a_huts os0a_minutes os1f_facts os1a_heard os1a_huts os1a_minutes oc0f_voices oc0f_step oc0a_parts oc0a_heights oc1f_voices oc1f_step oc1a_parts oc1a_heights) → post na_tape nf_length nf_fault nf_place na_counts nl0f_huts nl0f_singers nl0f_villages nl0f_dams nl0f_echoes nl0f_deep nl0f_slide nl0a_heights nl0a_ladders nl0a_minutes nl0a_echoFrom nl0a_echoTo nl0a_homes nl0a_talls nl0a_known nl1f_huts nl1f_singers nl1f_villages nl1f_dams nl1f_echoes nl1f_deep nl1f_slide nl1a_heights nl1a_ladders nl1a_minutes nl1a_echoFrom nl1a_echoTo nl1a_homes nl1a_talls nl1a_known nv0f_deeds nv0a_kinds nv0a_firsts nv0a_seconds nv1f_deeds nv1a_kinds nv1a_firsts nv1a_seconds ns0f_facts ns0a_heard ns0a_huts ns0a_minutes ns1f_facts ns1a_heard ns1a_huts ns1a_minutes nc0f_voices nc0f_step nc0a_parts nc0a_heights nc1f_voices nc1f_step nc1a_parts nc1a_heights) : q_wtt_X9_copyFrom_47_0 a_tape f_length f_fault f_place a_counts l0f_huts l0f_singers l0f_villages l0f_dams l0f_echoes l0f_deep l0f_slide l0a_heights l0a_ladders l0a_minutes l0a_echoFrom l0a_echoTo l0a_homes l0a_talls l0a_known l1f_huts l1f_singers l1f_villages l1f_dams l1f_echoes l1f_deep l1f_slide l1a_heights l1a_ladders l1a_minutes l1a_echoFrom l1a_echoTo l1a_homes l1a_talls l1a_known v0f_deeds v0a_kinds v0a_firsts v0a_seconds v1f_deeds v1a_kinds v1a_firsts v1a_seconds s0f_facts s0a_heard s0a_huts s0a_minutes s1f_facts s1a_heard s1a_huts s1a_minutes c0f_voices c0f_step c0a_parts c0a_heights c1f_voices c1f_step c1a_parts c1a_heights oa_tape of_length of_fault of_place oa_counts ol0f_huts ol0f_singers ol0f_villages ol0f_dams ol0f_echoes ol0f_deep ol0f_slide ol0a_heights ol0a_ladders ol0a_minutes ol0a_echoFrom ol0a_echoTo ol0a_homes ol0a_talls ol0a_known ol1f_huts ol1f_singers ol1f_villages ol1f_dams ol1f_echoes ol1f_deep ol1f_slide ol1a_heights ol1a_ladders ol1a_minutes ol1a_echoFrom ol1a_echoTo ol1a_homes ol1a_talls ol1a_known ov0f_deeds ov0a_kinds ov0a_firsts ov0a_seconds ov1f_deeds ov1a_kinds ov1a_firsts ov1a_seconds os0f_facts os0a_heard os0a_huts os0a_minutes os1f_facts os1a_heard os1a_huts os1a_minutes oc0f_voices oc0f_step oc0a_parts oc0a_heights oc1f_voices oc1f_step oc1a_parts oc1a_heights post := by
  obtain ⟨t_a_tape, t_f_length, t_f_fault, t_f_place, t_a_counts, t_l0f_huts, t_l0f_singers, t_l0f_villages, t_l0f_dams, t_l0f_echoes, t_l0f_deep, t_l0f_slide, t_l0a_heights, t_l0a_ladders, t_l0a_minutes, t_l0a_echoFrom, t_l0a_echoTo, t_l0a_homes, t_l0a_talls, t_l0a_known, t_l1f_huts, t_l1f_singers, t_l1f_villages, t_l1f_dams, t_l1f_echoes, t_l1f_deep, t_l1f_slide, t_l1a_heights, t_l1a_ladders, t_l1a_minutes, t_l1a_echoFrom, t_l1a_echoTo, t_l1a_homes, t_l1a_talls, t_l1a_known, t_v0f_deeds, t_v0a_kinds, t_v0a_firsts, t_v0a_seconds, t_v1f_deeds, t_v1a_kinds, t_v1a_firsts, t_v1a_seconds, t_s0f_facts, t_s0a_heard, t_s0a_huts, t_s0a_minutes, t_s1f_facts, t_s1a_heard, t_s1a_huts, t_s1a_minutes, t_c0f_voices, t_c0f_step, t_c0a_parts, t_c0a_heights, t_c1f_voices, t_c1f_step, t_c1a_parts, t_c1a_heights⟩ := hT
  obtain ⟨o_a_tape, o_f_length, o_f_fault, o_f_place, o_a_counts, o_l0f_huts, o_l0f_singers, o_l0f_villages, o_l0f_dams, o_l0f_echoes, o_l0f_deep, o_l0f_slide, o_l0a_heights, o_l0a_ladders, o_l0a_minutes, o_l0a_echoFrom, o_l0a_echoTo, o_l0a_homes, o_l0a_talls, o_l0a_known, o_l1f_huts, o_l1f_singers, o_l1f_villages, o_l1f_dams, o_l1f_echoes, o_l1f_deep, o_l1f_slide, o_l1a_heights, o_l1a_ladders, o_l1a_minutes, o_l1a_echoFrom, o_l1a_echoTo, o_l1a_homes, o_l1a_talls, o_l1a_known, o_v0f_deeds, o_v0a_kinds, o_v0a_firsts, o_v0a_seconds, o_v1f_deeds, o_v1a_kinds, o_v1a_firsts, o_v1a_seconds, o_s0f_facts, o_s0a_heard, o_s0a_huts, o_s0a_minutes, o_s1f_facts, o_s1a_heard, o_s1a_huts, o_s1a_minutes, o_c0f_voices, o_c0f_step, o_c0a_parts, o_c0a_heights, o_c1f_voices, o_c1f_step, o_c1a_parts, o_c1a_heights⟩ := hO
  refine cj_q_wtt_X9_copyFrom_47_0 (post_1 := fun na_tape nf_length nf_fault nf_place na_counts nl0f_huts nl0f_singers nl0f_villages nl0f_dams nl0f_echoes nl0f_deep nl0f_slide nl0a_heights nl0a_ladders nl0a_minutes nl0a_echoFrom nl0a_echoTo nl0a_homes nl0a_talls nl0a_known nl1f_huts nl1f_singers nl1f_villages nl1f_dams nl1f_echoes nl1f_deep nl1f_slide nl1a_heights nl1a_ladders nl1a_minutes nl1a_echoFrom nl1a_echoTo nl1a_homes nl1a_talls nl1a_known nv0f_deeds nv0a_kinds nv0a_firsts nv0a_seconds nv1f_deeds nv1a_kinds nv1a_firsts nv1a_seconds ns0f_facts ns0a_heard ns0a_huts ns0a_minutes ns1f_facts ns1a_heard ns1a_huts ns1a_minutes nc0f_voices nc0f_step nc0a_parts nc0a_heights nc1f_voices nc1f_step nc1a_parts nc1a_heights => tG na_tape nf_length nf_fault nf_place na_counts nl0f_huts nl0f_singers nl0f_villages nl0f_dams nl0f_echoes nl0f_deep nl0f_slide nl0a_heights nl0a_ladders nl0a_minutes nl0a_echoFrom nl0a_echoTo nl0a_homes nl0a_talls nl0a_known nl1f_huts nl1f_singers nl1f_villages nl1f_dams nl1f_echoes nl1f_deep nl1f_slide nl1a_heights nl1a_ladders nl1a_minutes nl1a_echoFrom nl1a_echoTo nl1a_homes nl1a_talls nl1a_known nv0f_deeds nv0a_kinds nv0a_firsts nv0a_seconds nv1f_deeds nv1a_kinds nv1a_firsts nv1a_seconds ns0f_facts ns0a_heard ns0a_huts ns0a_minutes ns1f_facts ns1a_heard ns1a_huts ns1a_minutes nc0f_voices nc0f_step nc0a_parts nc0a_heights nc1f_voices nc1f_step nc1a_parts nc1a_heights) (post_2 := fun na_tape nf_length nf_fault nf_place na_counts nl0f_huts nl0f_singers nl0f_villages nl0f_dams nl0f_echoes nl0f_deep nl0f_slide nl0a_heights nl0a_ladders nl0a_minutes nl0a_echoFrom nl0a_echoTo nl0a_homes nl0a_talls nl0a_known nl1f_huts nl1f_singers nl1f_villages nl1f_dams nl1f_echoes nl1f_deep nl1f_slide nl1a_heights nl1a_ladders nl1a_minutes nl1a_echoFrom nl1a_echoTo nl1a_homes nl1a_talls nl1a_known nv0f_deeds nv0a_kinds nv0a_firsts nv0a_seconds nv1f_deeds nv1a_kinds nv1a_firsts nv1a_seconds ns0f_facts ns0a_heard ns0a_huts ns0a_minutes ns1f_facts ns1a_heard ns1a_huts ns1a_minutes nc0f_voices nc0f_step nc0a_parts nc0a_heights nc1f_voices nc1f_step nc1a_parts nc1a_heights => tCP (tmk na_tape nf_length nf_fault nf_place na_counts nl0f_huts nl0f_singers nl0f_villages nl0f_dams nl0f_echoes nl0f_deep nl0f_slide nl0a_heights nl0a_ladders nl0a_minutes nl0a_echoFrom nl0a_echoTo nl0a_homes nl0a_talls nl0a_known nl1f_huts nl1f_singers nl1f_villages nl1f_dams nl1f_echoes nl1f_deep nl1f_slide nl1a_heights nl1a_ladders nl1a_minutes nl1a_echoFrom nl1a_echoTo nl1a_homes nl1a_talls nl1a_known nv0f_deeds nv0a_kinds nv0a_firsts nv0a_seconds nv1f_deeds nv1a_kinds nv1a_firsts nv1a_seconds ns0f_facts ns0a_heard ns0a_huts ns0a_minutes ns1f_facts ns1a_heard ns1a_huts ns1a_minutes nc0f_voices nc0f_step nc0a_parts nc0a_heights nc1f_voices nc1f_step nc1a_parts nc1a_heights) (tmk oa_tape of_length of_fault of_place oa_counts ol0f_huts ol0f_singers ol0f_villages ol0f_dams ol0f_echoes ol0f_deep ol0f_slide ol0a_heights ol0a_ladders ol0a_minutes ol0a_echoFrom ol0a_echoTo ol0a_homes ol0a_talls ol0a_known ol1f_huts ol1f_singers ol1f_villages ol1f_dams ol1f_echoes ol1f_deep ol1f_slide ol1a_heights ol1a_ladders ol1a_minutes ol1a_echoFrom ol1a_echoTo ol1a_homes ol1a_talls ol1a_known ov0f_deeds ov0a_kinds ov0a_firsts ov0a_seconds ov1f_deeds ov1a_kinds ov1a_firsts ov1a_seconds os0f_facts os0a_heard os0a_huts os0a_minutes os1f_facts os1a_heard os1a_huts os1a_minutes oc0f_voices oc0f_step oc0a_parts oc0a_heights oc1f_voices oc1f_step oc1a_parts oc1a_heights)) (fun na_tape nf_length nf_fault nf_place na_counts nl0f_huts nl0f_singers nl0f_villages nl0f_dams nl0f_echoes nl0f_deep nl0f_slide nl0a_heights nl0a_ladders nl0a_minutes nl0a_echoFrom nl0a_echoTo nl0a_homes nl0a_talls nl0a_known nl1f_huts nl1f_singers nl1f_villages nl1f_dams nl1f_echoes nl1f_deep nl1f_slide nl1a_heights nl1a_ladders nl1a_minutes nl1a_echoFrom nl1a_echoTo nl1a_homes nl1a_talls nl1a_known nv0f_deeds nv0a_kinds nv0a_firsts nv0a_seconds nv1f_deeds nv1a_kinds nv1a_firsts nv1a_seconds ns0f_facts ns0a_heard ns0a_huts ns0a_minutes ns1f_facts ns1a_heard ns1a_huts ns1a_minutes nc0f_voices nc0f_step nc0a_parts nc0a_heights nc1f_voices nc1f_step nc1a_parts nc1a_heights a b => hpost na_tape nf_length nf_fault nf_place na_counts nl0f_huts nl0f_singers nl0f_villages nl0f_dams nl0f_echoes nl0f_deep nl0f_slide nl0a_heights nl0a_ladders nl0a_minutes nl0a_echoFrom nl0a_echoTo nl0a_homes nl0a_talls nl0a_known nl1f_huts nl1f_singers nl1f_villages nl1f_dams nl1f_echoes nl1f_deep nl1f_slide nl1a_heights nl1a_ladders nl1a_minutes nl1a_echoFrom nl1a_echoTo nl1a_homes nl1a_talls nl1a_known nv0f_deeds nv0a_kinds nv0a_firsts nv0a_seconds nv1f_deeds nv1a_kinds nv1a_firsts nv1a_seconds ns0f_facts ns0a_heard ns0a_huts ns0a_minutes ns1f_facts ns1a_heard ns1a_huts ns1a_minutes nc0f_voices nc0f_step nc0a_parts nc0a_heights nc1f_voices nc1f_step nc1a_parts nc1a_heights a b) ?_ (e_cp o_f_length o_a_tape o_l0f_huts o_l0f_singers o_l0f_echoes o_v0f_deeds o_s0f_facts o_c0f_voices o_l1f_huts o_l1f_singers o_l1f_echoes o_v1f_deeds o_s1f_facts o_c1f_voices (fun _ _ _ _ _ _ _ _ _ _ _ _ _ _ _ _ _ _ _ _ _ _ _ _ _ _ _ _ _ _ _ _ _ _ _ _ _ _ _ _ _ _ _ _ _ _ _ _ _ _ _ _ _ _ _ _ _ _ _ h => h))
  exact s_wtt_X9_copyFrom_47_0 t_a_tape t_f_length t_f_fault t_f_place t_a_counts t_l0f_huts t_l0f_singers t_l0f_villages t_l0f_dams t_l0f_echoes t_l0f_deep t_l0f_slide t_l0a_heights t_l0a_ladders t_l0a_minutes t_l0a_echoFrom t_l0a_echoTo t_l0a_homes t_l0a_talls t_l0a_known t_l1f_huts t_l1f_singers t_l1f_villages t_l1f_dams t_l1f_echoes t_l1f_deep t_l1f_slide t_l1a_heights t_l1a_ladders t_l1a_minutes t_l1a_echoFrom t_l1a_echoTo t_l1a_homes t_l1a_talls t_l1a_known t_v0f_deeds t_v0a_kinds t_v0a_firsts t_v0a_seconds t_v1f_deeds t_v1a_kinds t_v1a_firsts t_v1a_seconds t_s0f_facts t_s0a_heard t_s0a_huts t_s0a_minutes t_s1f_facts t_s1a_heard t_s1a_huts t_s1a_minutes t_c0f_voices t_c0f_step t_c0a_parts t_c0a_heights t_c1f_voices t_c1f_step t_c1a_parts t_c1a_heights o_a_tape o_f_length o_f_fault o_f_place o_a_counts o_l0f_huts o_l0f_singers o_l0f_villages o_l0f_dams o_l0f_echoes o_l0f_deep o_l0f_slide o_l0a_heights o_l0a_ladders o_l0a_minutes o_l0a_echoFrom o_l0a_echoTo o_l0a_homes o_l0a_talls o_l0a_known o_l1f_huts o_l1f_singers o_l1f_villages o_l1f_dams o_l1f_echoes o_l1f_deep o_l1f_slide o_l1a_heights o_l1a_ladders o_l1a_minutes o_l1a_echoFrom o_l1a_echoTo o_l1a_homes o_l1a_talls o_l1a_known o_v0f_deeds o_v0a_kinds o_v0a_firsts o_v0a_seconds o_v1f_deeds o_v1a_kinds o_v1a_firsts o_v1a_seconds o_s0f_facts o_s0a_heard o_s0a_huts o_s0a_minutes o_s1f_facts o_s1a_heard o_s1a_huts o_s1a_minutes o_c0f_voices o_c0f_step o_c0a_parts o_c0a_heights o_c1f_voices o_c1f_step o_c1a_parts o_c1a_heights (fun na_tape nf_length nf_fault nf_place na_counts nl0f_huts nl0f_singers nl0f_villages nl0f_dams nl0f_echoes nl0f_deep nl0f_slide nl0a_heights nl0a_ladders nl0a_minutes nl0a_echoFrom nl0a_echoTo nl0a_homes nl0a_talls nl0a_known nl1f_huts nl1f_singers nl1f_villages nl1f_dams nl1f_echoes nl1f_deep nl1f_slide nl1a_heights nl1a_ladders nl1a_minutes nl1a_echoFrom nl1a_echoTo nl1a_homes nl1a_talls nl1a_known nv0f_deeds nv0a_kinds nv0a_firsts nv0a_seconds nv1f_deeds nv1a_kinds nv1a_firsts nv1a_seconds ns0f_facts ns0a_heard ns0a_huts ns0a_minutes ns1f_facts ns1a_heard ns1a_huts ns1a_minutes nc0f_voices nc0f_step nc0a_parts nc0a_heights nc1f_voices nc1f_step nc1a_parts nc1a_heights z_a_tape z_f_length z_f_fault z_f_place z_a_counts z_l0f_huts z_l0f_singers z_l0f_villages z_l0f_dams z_l0f_echoes z_l0f_deep z_l0f_slide z_l0a_heights z_l0a_ladders z_l0a_minutes z_l0a_echoFrom z_l0a_echoTo z_l0a_homes z_l0a_talls z_l0a_known z_l1f_huts z_l1f_singers z_l1f_villages z_l1f_dams z_l1f_echoes z_l1f_deep z_l1f_slide z_l1a_heights z_l1a_ladders z_l1a_minutes z_l1a_echoFrom z_l1a_echoTo z_l1a_homes z_l1a_talls z_l1a_known z_v0f_deeds z_v0a_kinds z_v0a_firsts z_v0a_seconds z_v1f_deeds z_v1a_kinds z_v1a_firsts z_v1a_seconds z_s0f_facts z_s0a_heard z_s0a_huts z_s0a_minutes z_s1f_facts z_s1a_heard z_s1a_huts z_s1a_minutes z_c0f_voices z_c0f_step z_c0a_parts z_c0a_heights z_c1f_voices z_c1f_step z_c1a_parts z_c1a_heights => (show tG na_tape nf_length nf_fault nf_place na_counts nl0f_huts nl0f_singers nl0f_villages nl0f_dams nl0f_echoes nl0f_deep nl0f_slide nl0a_heights nl0a_ladders nl0a_minutes nl0a_echoFrom nl0a_echoTo nl0a_homes nl0a_talls nl0a_known nl1f_huts nl1f_singers nl1f_villages nl1f_dams nl1f_echoes nl1f_deep nl1f_slide nl1a_heights nl1a_ladders nl1a_minutes nl1a_echoFrom nl1a_echoTo nl1a_homes nl1a_talls nl1a_known nv0f_deeds nv0a_kinds nv0a_firsts nv0a_seconds nv1f_deeds nv1a_kinds nv1a_firsts nv1a_seconds ns0f_facts ns0a_heard ns0a_huts ns0a_minutes ns1f_facts ns1a_heard ns1a_huts ns1a_minutes nc0f_voices nc0f_step nc0a_parts nc0a_heights nc1f_voices nc1f_step nc1a_parts nc1a_heights from ⟨z_a_tape, z_f_length, z_f_fault, z_f_place, z_a_counts, z_l0f_huts, z_l0f_singers, z_l0f_villages, z_l0f_dams, z_l0f_echoes, z_l0f_deep, z_l0f_slide, z_l0a_heights, z_l0a_ladders, z_l0a_minutes, z_l0a_echoFrom, z_l0a_echoTo, z_l0a_homes, z_l0a_talls, z_l0a_known, z_l1f_huts, z_l1f_singers, z_l1f_villages, z_l1f_dams, z_l1f_echoes, z_l1f_deep, z_l1f_slide, z_l1a_heights, z_l1a_ladders, z_l1a_minutes, z_l1a_echoFrom, z_l1a_echoTo, z_l1a_homes, z_l1a_talls, z_l1a_known, z_v0f_deeds, z_v0a_kinds, z_v0a_firsts, z_v0a_seconds, z_v1f_deeds, z_v1a_kinds, z_v1a_firsts, z_v1a_seconds, z_s0f_facts, z_s0a_heard, z_s0a_huts, z_s0a_minutes, z_s1f_facts, z_s1a_heard, z_s1a_huts, z_s1a_minutes, z_c0f_voices, z_c0f_step, z_c0a_parts, z_c0a_heights, z_c1f_voices, z_c1f_step, z_c1a_parts, z_c1a_heights⟩))

set_option maxRecDepth 40000 in
set_option maxHeartbeats 4000000 in
theorem im_tail3 {p : Program} {l : Launch} {e : Env} {s : State} {m : MethodId} {args : Array Value} {below : List Frame} {meth : Method} {c : Code} {H : Heap} {locs : List Loc} {ls : Array Slot} {E : zE} {qx qi kc ks : Nat} {A : Nat → Prop} {x1 : Int32} {ta_tape : Nat → Int32} {tf_length : Int32} {tf_fault : Int32} {tf_place : Int32} {ta_counts : Nat → Int32} {tl0f_huts : Int32} {tl0f_singers : Int32} {tl0f_villages : Int32} {tl0f_dams : Int32} {tl0f_echoes : Int32} {tl0f_deep : Int32} {tl0f_slide : Int32} {tl0a_heights : Nat → Int32} {tl0a_ladders : Nat → Int32} {tl0a_minutes : Nat → Int32} {tl0a_echoFrom : Nat → Int32} {tl0a_echoTo : Nat → Int32} {tl0a_homes : Nat → Int32} {tl0a_talls : Nat → Int32} {tl0a_known : Nat → Int32} {tl1f_huts : Int32} {tl1f_singers : Int32} {tl1f_villages : Int32} {tl1f_dams : Int32} {tl1f_echoes : Int32} {tl1f_deep : Int32} {tl1f_slide : Int32} {tl1a_heights : Nat → Int32} {tl1a_ladders : Nat → Int32} {tl1a_minutes : Nat → Int32} {tl1a_echoFrom : Nat → Int32} {tl1a_echoTo : Nat → Int32} {tl1a_homes : Nat → Int32} {tl1a_talls : Nat → Int32} {tl1a_known : Nat → Int32} {tv0f_deeds : Int32} {tv0a_kinds : Nat → Int32} {tv0a_firsts : Nat → Int32} {tv0a_seconds : Nat → Int32} {tv1f_deeds : Int32} {tv1a_kinds : Nat → Int32} {tv1a_firsts : Nat → Int32} {tv1a_seconds : Nat → Int32} {ts0f_facts : Int32} {ts0a_heard : Nat → Int32} {ts0a_huts : Nat → Int32} {ts0a_minutes : Nat → Int32} {ts1f_facts : Int32} {ts1a_heard : Nat → Int32} {ts1a_huts : Nat → Int32} {ts1a_minutes : Nat → Int32} {tc0f_voices : Int32} {tc0f_step : Int32} {tc0a_parts : Nat → Int32} {tc0a_heights : Nat → Int32} {tc1f_voices : Int32} {tc1f_step : Int32} {tc1a_parts : Nat → Int32} {tc1a_heights : Nat → Int32} {m_images : Nat → Option Nat} {rlf_huts : Int32} {rlf_singers : Int32} {rlf_villages : Int32} {rlf_dams : Int32} {rlf_echoes : Int32} {rlf_deep : Int32} {rlf_slide : Int32} {rla_heights : Nat → Int32} {rla_ladders : Nat → Int32} {rla_minutes : Nat → Int32} {rla_echoFrom : Nat → Int32} {rla_echoTo : Nat → Int32} {rla_homes : Nat → Int32} {rla_talls : Nat → Int32} {rla_known : Nat → Int32} {rvf_deeds : Int32} {rva_kinds : Nat → Int32} {rva_firsts : Nat → Int32} {rva_seconds : Nat → Int32} {rsf_facts : Int32} {rsa_heard : Nat → Int32} {rsa_huts : Nat → Int32} {rsa_minutes : Nat → Int32} {rcf_voices : Int32} {rcf_step : Int32} {rca_parts : Nat → Int32} {rca_heights : Nat → Int32} {rf_fault : Int32} {rf_faultPlace : Int32} {ra_numbers : Nat → Int32} {ra_tape : Nat → Int32} {rf_length : Int32} {rf_behind : Int32} {rf_kind : Int32} {rf_first : Int32} {rf_value : Int32} {rf_hutsToldOf : Int32} {rf_singersToldOf : Int32} {nf_minute : Int32} {nf_avalanches : Int32} {nf_begun : Int32} {nf_climbed : Int32} {nf_seed : Int32} {na_huts : Nat → Int32} {na_known : Nat → Int32} {na_levels : Nat → Int32} {na_snow : Nat → Int32} {na_open : Nat → Int32} {pa_heard : Nat → Int32} {pa_walked : Nat → Int32} {pa_total : Nat → Int32} {pa_longest : Nat → Int32} {pa_next : Nat → Int32} {pa_cover : Nat → Int32} {pa_now : Nat → Int32} {pa_then : Nat → Int32} {ko_stands : Option Nat} {ka_gaps : Nat → Int32} {ka_behind : Nat → Int32} {ba_less : Nat → Int32} {ba_full : Nat → Int32} {ia_tape : Nat → Int32} {if_length : Int32} {if_fault : Int32} {if_place : Int32} {ia_counts : Nat → Int32} {il0f_huts : Int32} {il0f_singers : Int32} {il0f_villages : Int32} {il0f_dams : Int32} {il0f_echoes : Int32} {il0f_deep : Int32} {il0f_slide : Int32} {il0a_heights : Nat → Int32} {il0a_ladders : Nat → Int32} {il0a_minutes : Nat → Int32} {il0a_echoFrom : Nat → Int32} {il0a_echoTo : Nat → Int32} {il0a_homes : Nat → Int32} {il0a_talls : Nat → Int32} {il0a_known : Nat → Int32} {il1f_huts : Int32} {il1f_singers : Int32} {il1f_villages : Int32} {il1f_dams : Int32} {il1f_echoes : Int32} {il1f_deep : Int32} {il1f_slide : Int32} {il1a_heights : Nat → Int32} {il1a_ladders : Nat → Int32} {il1a_minutes : Nat → Int32} {il1a_echoFrom : Nat → Int32} {il1a_echoTo : Nat → Int32} {il1a_homes : Nat → Int32} {il1a_talls : Nat → Int32} {il1a_known : Nat → Int32} {iv0f_deeds : Int32} {iv0a_kinds : Nat → Int32} {iv0a_firsts : Nat → Int32} {iv0a_seconds : Nat → Int32} {iv1f_deeds : Int32} {iv1a_kinds : Nat → Int32} {iv1a_firsts : Nat → Int32} {iv1a_seconds : Nat → Int32} {is0f_facts : Int32} {is0a_heard : Nat → Int32} {is0a_huts : Nat → Int32} {is0a_minutes : Nat → Int32} {is1f_facts : Int32} {is1a_heard : Nat → Int32} {is1a_huts : Nat → Int32} {is1a_minutes : Nat → Int32} {ic0f_voices : Int32} {ic0f_step : Int32} {ic0a_parts : Nat → Int32} {ic0a_heights : Nat → Int32} {ic1f_voices : Int32} {ic1f_step : Int32} {ic1a_parts : Nat → Int32} {ic1a_heights : Nat → Int32} (zc : zC p s m args meth c cX10_image 2 RX10 (some .boolean)) (hK : zK E s) (hM : wxiW E qx qi ta_tape tf_length tf_fault tf_place ta_counts tl0f_huts tl0f_singers tl0f_villages tl0f_dams tl0f_echoes tl0f_deep tl0f_slide tl0a_heights tl0a_ladders tl0a_minutes tl0a_echoFrom tl0a_echoTo tl0a_homes tl0a_talls tl0a_known tl1f_huts tl1f_singers tl1f_villages tl1f_dams tl1f_echoes tl1f_deep tl1f_slide tl1a_heights tl1a_ladders tl1a_minutes tl1a_echoFrom tl1a_echoTo tl1a_homes tl1a_talls tl1a_known tv0f_deeds tv0a_kinds tv0a_firsts tv0a_seconds tv1f_deeds tv1a_kinds tv1a_firsts tv1a_seconds ts0f_facts ts0a_heard ts0a_huts ts0a_minutes ts1f_facts ts1a_heard ts1a_huts ts1a_minutes tc0f_voices tc0f_step tc0a_parts tc0a_heights tc1f_voices tc1f_step tc1a_parts tc1a_heights m_images rlf_huts rlf_singers rlf_villages rlf_dams rlf_echoes rlf_deep rlf_slide rla_heights rla_ladders rla_minutes rla_echoFrom rla_echoTo rla_homes rla_talls rla_known rvf_deeds rva_kinds rva_firsts rva_seconds rsf_facts rsa_heard rsa_huts rsa_minutes rcf_voices rcf_step rca_parts rca_heights rf_fault rf_faultPlace ra_numbers ra_tape rf_length rf_behind rf_kind rf_first rf_value rf_hutsToldOf rf_singersToldOf nf_minute nf_avalanches nf_begun nf_climbed nf_seed na_huts na_known na_levels na_snow na_open pa_heard pa_walked pa_total pa_longest pa_next pa_cover pa_now pa_then ko_stands ka_gaps ka_behind ba_less ba_full ia_tape if_length if_fault if_place ia_counts il0f_huts il0f_singers il0f_villages il0f_dams il0f_echoes il0f_deep il0f_slide il0a_heights il0a_ladders il0a_minutes il0a_echoFrom il0a_echoTo il0a_homes il0a_talls il0a_known il1f_huts il1f_singers il1f_villages il1f_dams il1f_echoes il1f_deep il1f_slide il1a_heights il1a_ladders il1a_minutes il1a_echoFrom il1a_echoTo il1a_homes il1a_talls il1a_known iv0f_deeds iv0a_kinds iv0a_firsts iv0a_seconds iv1f_deeds iv1a_kinds iv1a_firsts iv1a_seconds is0f_facts is0a_heard is0a_huts is0a_minutes is1f_facts is1a_heard is1a_huts is1a_minutes ic0f_voices ic0f_step ic0a_parts ic0a_heights ic1f_voices ic1f_step ic1a_parts ic1a_heights H) (hT : tG ta_tape tf_length tf_fault tf_place ta_counts tl0f_huts tl0f_singers tl0f_villages tl0f_dams tl0f_echoes tl0f_deep tl0f_slide tl0a_heights tl0a_ladders tl0a_minutes tl0a_echoFrom tl0a_echoTo tl0a_homes tl0a_talls tl0a_known tl1f_huts tl1f_singers tl1f_villages tl1f_dams tl1f_echoes tl1f_deep tl1f_slide tl1a_heights tl1a_ladders tl1a_minutes tl1a_echoFrom tl1a_echoTo tl1a_homes tl1a_talls tl1a_known tv0f_deeds tv0a_kinds tv0a_firsts tv0a_seconds tv1f_deeds tv1a_kinds tv1a_firsts tv1a_seconds ts0f_facts ts0a_heard ts0a_huts ts0a_minutes ts1f_facts ts1a_heard ts1a_huts ts1a_minutes tc0f_voices tc0f_step tc0a_parts tc0a_heights tc1f_voices tc1f_step tc1a_parts tc1a_heights) (hI : tG ia_tape if_length if_fault if_place ia_counts il0f_huts il0f_singers il0f_villages il0f_dams il0f_echoes il0f_deep il0f_slide il0a_heights il0a_ladders il0a_minutes il0a_echoFrom il0a_echoTo il0a_homes il0a_talls il0a_known il1f_huts il1f_singers il1f_villages il1f_dams il1f_echoes il1f_deep il1f_slide il1a_heights il1a_ladders il1a_minutes il1a_echoFrom il1a_echoTo il1a_homes il1a_talls il1a_known iv0f_deeds iv0a_kinds iv0a_firsts iv0a_seconds iv1f_deeds iv1a_kinds iv1a_firsts iv1a_seconds is0f_facts is0a_heard is0a_huts is0a_minutes is1f_facts is1a_heard is1a_huts is1a_minutes ic0f_voices ic0f_step ic0a_parts ic0a_heights ic1f_voices ic1f_step ic1a_parts ic1a_heights) (hin : vp_in x1 3) (hm : m_images (Int32.toNatClampNeg x1) = some qi) (hS : va_S A s.heap H locs) (hsub : ∀ q, wttA qi (qx + 1) q → A q) (hl : lv_has ls 2 [(0, .ref qx), (1, .int x1)]) :
    W p l e (rmI kc ks) s m args below meth c H locs kc ks (MQ below (zQi (S := Unit) (fun r _ => r = 1) (fun _ H => ∃ na_tape nf_length nf_fault nf_place na_counts nl0f_huts nl0f_singers nl0f_villages nl0f_dams nl0f_echoes nl0f_deep nl0f_slide nl0a_heights nl0a_ladders nl0a_minutes nl0a_echoFrom nl0a_echoTo nl0a_homes nl0a_talls nl0a_known nl1f_huts nl1f_singers nl1f_villages nl1f_dams nl1f_echoes nl1f_deep nl1f_slide nl1a_heights nl1a_ladders nl1a_minutes nl1a_echoFrom nl1a_echoTo nl1a_homes nl1a_talls nl1a_known nv0f_deeds nv0a_kinds nv0a_firsts nv0a_seconds nv1f_deeds nv1a_kinds nv1a_firsts nv1a_seconds ns0f_facts ns0a_heard ns0a_huts ns0a_minutes ns1f_facts ns1a_heard ns1a_huts ns1a_minutes nc0f_voices nc0f_step nc0a_parts nc0a_heights nc1f_voices nc1f_step nc1a_parts nc1a_heights, tG na_tape nf_length nf_fault nf_place na_counts nl0f_huts nl0f_singers nl0f_villages nl0f_dams nl0f_echoes nl0f_deep nl0f_slide nl0a_heights nl0a_ladders nl0a_minutes nl0a_echoFrom nl0a_echoTo nl0a_homes nl0a_talls nl0a_known nl1f_huts nl1f_singers nl1f_villages nl1f_dams nl1f_echoes nl1f_deep nl1f_slide nl1a_heights nl1a_ladders nl1a_minutes nl1a_echoFrom nl1a_echoTo nl1a_homes nl1a_talls nl1a_known nv0f_deeds nv0a_kinds nv0a_firsts nv0a_seconds nv1f_deeds nv1a_kinds nv1a_firsts nv1a_seconds ns0f_facts ns0a_heard ns0a_huts ns0a_minutes ns1f_facts ns1a_heard ns1a_huts ns1a_minutes nc0f_voices nc0f_step nc0a_parts nc0a_heights nc1f_voices nc1f_step nc1a_parts nc1a_heights ∧ tCP (tmk na_tape nf_length nf_fault nf_place na_counts nl0f_huts nl0f_singers nl0f_villages nl0f_dams nl0f_echoes nl0f_deep nl0f_slide nl0a_heights nl0a_ladders nl0a_minutes nl0a_echoFrom nl0a_echoTo nl0a_homes nl0a_talls nl0a_known nl1f_huts nl1f_singers nl1f_villages nl1f_dams nl1f_echoes nl1f_deep nl1f_slide nl1a_heights nl1a_ladders nl1a_minutes nl1a_echoFrom nl1a_echoTo nl1a_homes nl1a_talls nl1a_known nv0f_deeds nv0a_kinds nv0a_firsts nv0a_seconds nv1f_deeds nv1a_kinds nv1a_firsts nv1a_seconds ns0f_facts ns0a_heard ns0a_huts ns0a_minutes ns1f_facts ns1a_heard ns1a_huts ns1a_minutes nc0f_voices nc0f_step nc0a_parts nc0a_heights nc1f_voices nc1f_step nc1a_parts nc1a_heights) (tmk ta_tape tf_length tf_fault tf_place ta_counts tl0f_huts tl0f_singers tl0f_villages tl0f_dams tl0f_echoes tl0f_deep tl0f_slide tl0a_heights tl0a_ladders tl0a_minutes tl0a_echoFrom tl0a_echoTo tl0a_homes tl0a_talls tl0a_known tl1f_huts tl1f_singers tl1f_villages tl1f_dams tl1f_echoes tl1f_deep tl1f_slide tl1a_heights tl1a_ladders tl1a_minutes tl1a_echoFrom tl1a_echoTo tl1a_homes tl1a_talls tl1a_known tv0f_deeds tv0a_kinds tv0a_firsts tv0a_seconds tv1f_deeds tv1a_kinds tv1a_firsts tv1a_seconds ts0f_facts ts0a_heard ts0a_huts ts0a_minutes ts1f_facts ts1a_heard ts1a_huts ts1a_minutes tc0f_voices tc0f_step tc0a_parts tc0a_heights tc1f_voices tc1f_step tc1a_parts tc1a_heights) ∧ wxiW E qx qi ta_tape tf_length tf_fault tf_place ta_counts tl0f_huts tl0f_singers tl0f_villages tl0f_dams tl0f_echoes tl0f_deep tl0f_slide tl0a_heights tl0a_ladders tl0a_minutes tl0a_echoFrom tl0a_echoTo tl0a_homes tl0a_talls tl0a_known tl1f_huts tl1f_singers tl1f_villages tl1f_dams tl1f_echoes tl1f_deep tl1f_slide tl1a_heights tl1a_ladders tl1a_minutes tl1a_echoFrom tl1a_echoTo tl1a_homes tl1a_talls tl1a_known tv0f_deeds tv0a_kinds tv0a_firsts tv0a_seconds tv1f_deeds tv1a_kinds tv1a_firsts tv1a_seconds ts0f_facts ts0a_heard ts0a_huts ts0a_minutes ts1f_facts ts1a_heard ts1a_huts ts1a_minutes tc0f_voices tc0f_step tc0a_parts tc0a_heights tc1f_voices tc1f_step tc1a_parts tc1a_heights m_images rlf_huts rlf_singers rlf_villages rlf_dams rlf_echoes rlf_deep rlf_slide rla_heights rla_ladders rla_minutes rla_echoFrom rla_echoTo rla_homes rla_talls rla_known rvf_deeds rva_kinds rva_firsts rva_seconds rsf_facts rsa_heard rsa_huts rsa_minutes rcf_voices rcf_step rca_parts rca_heights rf_fault rf_faultPlace ra_numbers ra_tape rf_length rf_behind rf_kind rf_first rf_value rf_hutsToldOf rf_singersToldOf nf_minute nf_avalanches nf_begun nf_climbed nf_seed na_huts na_known na_levels na_snow na_open pa_heard pa_walked pa_total pa_longest pa_next pa_cover pa_now pa_then ko_stands ka_gaps ka_behind ba_less ba_full na_tape nf_length nf_fault nf_place na_counts nl0f_huts nl0f_singers nl0f_villages nl0f_dams nl0f_echoes nl0f_deep nl0f_slide nl0a_heights nl0a_ladders nl0a_minutes nl0a_echoFrom nl0a_echoTo nl0a_homes nl0a_talls nl0a_known nl1f_huts nl1f_singers nl1f_villages nl1f_dams nl1f_echoes nl1f_deep nl1f_slide nl1a_heights nl1a_ladders nl1a_minutes nl1a_echoFrom nl1a_echoTo nl1a_homes nl1a_talls nl1a_known nv0f_deeds nv0a_kinds nv0a_firsts nv0a_seconds nv1f_deeds nv1a_kinds nv1a_firsts nv1a_seconds ns0f_facts ns0a_heard ns0a_huts ns0a_minutes ns1f_facts ns1a_heard ns1a_huts ns1a_minutes nc0f_voices nc0f_step nc0a_parts nc0a_heights nc1f_voices nc1f_step nc1a_parts nc1a_heights H) A) args s kc ks A) (F0 m 33 ls []) := by
  have hx := zc.1
  have hb := zc.2.1
  have hMx := xi_x hM
  refine lv_aload_n hx hb dX10_image_33 rfl (lv_at hl 0 rfl) ?_
  refine va_get (D := E.1) (ci := 10) (v := .ref (qx + 48)) (C := RX10) (T := TX10) (N := 7) hx hb zc.2.2.2.2.1 uw10 zc.2.2.2.1 hK.1 hMx 0 rfl rfl 1 (by decide) (zc.2.2.2.2.1 _ kf_10_16) (fun _ h9 => h9) rfl dX10_image_34 ?_
  refine lv_iload_n hx hb dX10_image_37 rfl (lv_at hl 1 rfl) ?_
  refine va_aldq hx hb hK.1 hMx 48 8 rfl rfl hin dX10_image_38 ?_
  rw [hm]
  refine W.eq (g2 := F0 m 39 ls (.ref qi :: [])) rfl ?_
  refine lv_aload_n hx hb dX10_image_39 rfl (lv_at hl 0 rfl) ?_
  refine va_get (D := E.1) (ci := 10) (v := .ref (qx + 1)) (C := RX10) (T := TX10) (N := 7) hx hb zc.2.2.2.2.1 uw10 zc.2.2.2.1 hK.1 hMx 0 rfl rfl 0 (by decide) (zc.2.2.2.2.1 _ kf_10_10) (fun _ h9 => h9) rfl dX10_image_40 ?_
  refine zVa_v [.ref (qx + 1)] [] zc ky_X9_copyFrom kz_X9_copyFrom km_10_323 (c_wtt_X9_copyFrom_47 l (post := fun na_tape nf_length nf_fault nf_place na_counts nl0f_huts nl0f_singers nl0f_villages nl0f_dams nl0f_echoes nl0f_deep nl0f_slide nl0a_heights nl0a_ladders nl0a_minutes nl0a_echoFrom nl0a_echoTo nl0a_homes nl0a_talls nl0a_known nl1f_huts nl1f_singers nl1f_villages nl1f_dams nl1f_echoes nl1f_deep nl1f_slide nl1a_heights nl1a_ladders nl1a_minutes nl1a_echoFrom nl1a_echoTo nl1a_homes nl1a_talls nl1a_known nv0f_deeds nv0a_kinds nv0a_firsts nv0a_seconds nv1f_deeds nv1a_kinds nv1a_firsts nv1a_seconds ns0f_facts ns0a_heard ns0a_huts ns0a_minutes ns1f_facts ns1a_heard ns1a_huts ns1a_minutes nc0f_voices nc0f_step nc0a_parts nc0a_heights nc1f_voices nc1f_step nc1a_parts nc1a_heights => tG na_tape nf_length nf_fault nf_place na_counts nl0f_huts nl0f_singers nl0f_villages nl0f_dams nl0f_echoes nl0f_deep nl0f_slide nl0a_heights nl0a_ladders nl0a_minutes nl0a_echoFrom nl0a_echoTo nl0a_homes nl0a_talls nl0a_known nl1f_huts nl1f_singers nl1f_villages nl1f_dams nl1f_echoes nl1f_deep nl1f_slide nl1a_heights nl1a_ladders nl1a_minutes nl1a_echoFrom nl1a_echoTo nl1a_homes nl1a_talls nl1a_known nv0f_deeds nv0a_kinds nv0a_firsts nv0a_seconds nv1f_deeds nv1a_kinds nv1a_firsts nv1a_seconds ns0f_facts ns0a_heard ns0a_huts ns0a_minutes ns1f_facts ns1a_heard ns1a_huts ns1a_minutes nc0f_voices nc0f_step nc0a_parts nc0a_heights nc1f_voices nc1f_step nc1a_parts nc1a_heights ∧ tCP (tmk na_tape nf_length nf_fault nf_place na_counts nl0f_huts nl0f_singers nl0f_villages nl0f_dams nl0f_echoes nl0f_deep nl0f_slide nl0a_heights nl0a_ladders nl0a_minutes nl0a_echoFrom nl0a_echoTo nl0a_homes nl0a_talls nl0a_known nl1f_huts nl1f_singers nl1f_villages nl1f_dams nl1f_echoes nl1f_deep nl1f_slide nl1a_heights nl1a_ladders nl1a_minutes nl1a_echoFrom nl1a_echoTo nl1a_homes nl1a_talls nl1a_known nv0f_deeds nv0a_kinds nv0a_firsts nv0a_seconds nv1f_deeds nv1a_kinds nv1a_firsts nv1a_seconds ns0f_facts ns0a_heard ns0a_huts ns0a_minutes ns1f_facts ns1a_heard ns1a_huts ns1a_minutes nc0f_voices nc0f_step nc0a_parts nc0a_heights nc1f_voices nc1f_step nc1a_parts nc1a_heights) (tmk ta_tape tf_length tf_fault tf_place ta_counts tl0f_huts tl0f_singers tl0f_villages tl0f_dams tl0f_echoes tl0f_deep tl0f_slide tl0a_heights tl0a_ladders tl0a_minutes tl0a_echoFrom tl0a_echoTo tl0a_homes tl0a_talls tl0a_known tl1f_huts tl1f_singers tl1f_villages tl1f_dams tl1f_echoes tl1f_deep tl1f_slide tl1a_heights tl1a_ladders tl1a_minutes tl1a_echoFrom tl1a_echoTo tl1a_homes tl1a_talls tl1a_known tv0f_deeds tv0a_kinds tv0a_firsts tv0a_seconds tv1f_deeds tv1a_kinds tv1a_firsts tv1a_seconds ts0f_facts ts0a_heard ts0a_huts ts0a_minutes ts1f_facts ts1a_heard ts1a_huts ts1a_minutes tc0f_voices tc0f_step tc0a_parts tc0a_heights tc1f_voices tc1f_step tc1a_parts tc1a_heights)) (tG_copy3 hI hT (fun _ _ _ _ _ _ _ _ _ _ _ _ _ _ _ _ _ _ _ _ _ _ _ _ _ _ _ _ _ _ _ _ _ _ _ _ _ _ _ _ _ _ _ _ _ _ _ _ _ _ _ _ _ _ _ _ _ _ _ h1 h2 => ⟨h1, h2⟩))) (wttPreV0 hK (pj_wxi_wtt_93_1 hM)) hS hsub rfl rfl hl.1 (Nat.le_of_ble_eq_true rfl) ⟨rfl, rfl⟩ ⟨(Nat.le_of_ble_eq_true rfl), (Nat.le_of_ble_eq_true rfl)⟩ ⟨Nat.le_refl _, Nat.le_refl _⟩ dX10_image_43 (fun u H4 locs hw hB hsz hk hS => ?_)
  have hM := jn_wxi_wtt_93_1 hM hB hk
  refine lv_iconst (v := (1 : Int32)) hx hb dX10_image_46 (by decide) ?_
  exact zret_zw () zc hS rfl rfl ⟨_, _, _, _, _, _, _, _, _, _, _, _, _, _, _, _, _, _, _, _, _, _, _, _, _, _, _, _, _, _, _, _, _, _, _, _, _, _, _, _, _, _, _, _, _, _, _, _, _, _, _, _, _, _, _, _, _, _, _, hw.1, hw.2, hM⟩ dX10_image_47

set_option maxRecDepth 40000 in
set_option maxHeartbeats 4000000 in
theorem c3_image_old (l : Launch) {E : zE} {qx qi : Nat} {ta_tape : Nat → Int32} {tf_length : Int32} {tf_fault : Int32} {tf_place : Int32} {ta_counts : Nat → Int32} {tl0f_huts : Int32} {tl0f_singers : Int32} {tl0f_villages : Int32} {tl0f_dams : Int32} {tl0f_echoes : Int32} {tl0f_deep : Int32} {tl0f_slide : Int32} {tl0a_heights : Nat → Int32} {tl0a_ladders : Nat → Int32} {tl0a_minutes : Nat → Int32} {tl0a_echoFrom : Nat → Int32} {tl0a_echoTo : Nat → Int32} {tl0a_homes : Nat → Int32} {tl0a_talls : Nat → Int32} {tl0a_known : Nat → Int32} {tl1f_huts : Int32} {tl1f_singers : Int32} {tl1f_villages : Int32} {tl1f_dams : Int32} {tl1f_echoes : Int32} {tl1f_deep : Int32} {tl1f_slide : Int32} {tl1a_heights : Nat → Int32} {tl1a_ladders : Nat → Int32} {tl1a_minutes : Nat → Int32} {tl1a_echoFrom : Nat → Int32} {tl1a_echoTo : Nat → Int32} {tl1a_homes : Nat → Int32} {tl1a_talls : Nat → Int32} {tl1a_known : Nat → Int32} {tv0f_deeds : Int32} {tv0a_kinds : Nat → Int32} {tv0a_firsts : Nat → Int32} {tv0a_seconds : Nat → Int32} {tv1f_deeds : Int32} {tv1a_kinds : Nat → Int32} {tv1a_firsts : Nat → Int32} {tv1a_seconds : Nat → Int32} {ts0f_facts : Int32} {ts0a_heard : Nat → Int32} {ts0a_huts : Nat → Int32} {ts0a_minutes : Nat → Int32} {ts1f_facts : Int32} {ts1a_heard : Nat → Int32} {ts1a_huts : Nat → Int32} {ts1a_minutes : Nat → Int32} {tc0f_voices : Int32} {tc0f_step : Int32} {tc0a_parts : Nat → Int32} {tc0a_heights : Nat → Int32} {tc1f_voices : Int32} {tc1f_step : Int32} {tc1a_parts : Nat → Int32} {tc1a_heights : Nat → Int32} {m_images : Nat → Option Nat} {rlf_huts : Int32} {rlf_singers : Int32} {rlf_villages : Int32} {rlf_dams : Int32} {rlf_echoes : Int32} {rlf_deep : Int32} {rlf_slide : Int32} {rla_heights : Nat → Int32} {rla_ladders : Nat → Int32} {rla_minutes : Nat → Int32} {rla_echoFrom : Nat → Int32} {rla_echoTo : Nat → Int32} {rla_homes : Nat → Int32} {rla_talls : Nat → Int32} {rla_known : Nat → Int32} {rvf_deeds : Int32} {rva_kinds : Nat → Int32} {rva_firsts : Nat → Int32} {rva_seconds : Nat → Int32} {rsf_facts : Int32} {rsa_heard : Nat → Int32} {rsa_huts : Nat → Int32} {rsa_minutes : Nat → Int32} {rcf_voices : Int32} {rcf_step : Int32} {rca_parts : Nat → Int32} {rca_heights : Nat → Int32} {rf_fault : Int32} {rf_faultPlace : Int32} {ra_numbers : Nat → Int32} {ra_tape : Nat → Int32} {rf_length : Int32} {rf_behind : Int32} {rf_kind : Int32} {rf_first : Int32} {rf_value : Int32} {rf_hutsToldOf : Int32} {rf_singersToldOf : Int32} {nf_minute : Int32} {nf_avalanches : Int32} {nf_begun : Int32} {nf_climbed : Int32} {nf_seed : Int32} {na_huts : Nat → Int32} {na_known : Nat → Int32} {na_levels : Nat → Int32} {na_snow : Nat → Int32} {na_open : Nat → Int32} {pa_heard : Nat → Int32} {pa_walked : Nat → Int32} {pa_total : Nat → Int32} {pa_longest : Nat → Int32} {pa_next : Nat → Int32} {pa_cover : Nat → Int32} {pa_now : Nat → Int32} {pa_then : Nat → Int32} {ko_stands : Option Nat} {ka_gaps : Nat → Int32} {ka_behind : Nat → Int32} {ba_less : Nat → Int32} {ba_full : Nat → Int32} {ia_tape : Nat → Int32} {if_length : Int32} {if_fault : Int32} {if_place : Int32} {ia_counts : Nat → Int32} {il0f_huts : Int32} {il0f_singers : Int32} {il0f_villages : Int32} {il0f_dams : Int32} {il0f_echoes : Int32} {il0f_deep : Int32} {il0f_slide : Int32} {il0a_heights : Nat → Int32} {il0a_ladders : Nat → Int32} {il0a_minutes : Nat → Int32} {il0a_echoFrom : Nat → Int32} {il0a_echoTo : Nat → Int32} {il0a_homes : Nat → Int32} {il0a_talls : Nat → Int32} {il0a_known : Nat → Int32} {il1f_huts : Int32} {il1f_singers : Int32} {il1f_villages : Int32} {il1f_dams : Int32} {il1f_echoes : Int32} {il1f_deep : Int32} {il1f_slide : Int32} {il1a_heights : Nat → Int32} {il1a_ladders : Nat → Int32} {il1a_minutes : Nat → Int32} {il1a_echoFrom : Nat → Int32} {il1a_echoTo : Nat → Int32} {il1a_homes : Nat → Int32} {il1a_talls : Nat → Int32} {il1a_known : Nat → Int32} {iv0f_deeds : Int32} {iv0a_kinds : Nat → Int32} {iv0a_firsts : Nat → Int32} {iv0a_seconds : Nat → Int32} {iv1f_deeds : Int32} {iv1a_kinds : Nat → Int32} {iv1a_firsts : Nat → Int32} {iv1a_seconds : Nat → Int32} {is0f_facts : Int32} {is0a_heard : Nat → Int32} {is0a_huts : Nat → Int32} {is0a_minutes : Nat → Int32} {is1f_facts : Int32} {is1a_heard : Nat → Int32} {is1a_huts : Nat → Int32} {is1a_minutes : Nat → Int32} {ic0f_voices : Int32} {ic0f_step : Int32} {ic0a_parts : Nat → Int32} {ic0a_heights : Nat → Int32} {ic1f_voices : Int32} {ic1f_step : Int32} {ic1a_parts : Nat → Int32} {ic1a_heights : Nat → Int32} {x1 : Int32} (hr : ¬ x1 < 0 ∧ x1 < 3) (hm : m_images (Int32.toNatClampNeg x1) = some qi) (hT : tG ta_tape tf_length tf_fault tf_place ta_counts tl0f_huts tl0f_singers tl0f_villages tl0f_dams tl0f_echoes tl0f_deep tl0f_slide tl0a_heights tl0a_ladders tl0a_minutes tl0a_echoFrom tl0a_echoTo tl0a_homes tl0a_talls tl0a_known tl1f_huts tl1f_singers tl1f_villages tl1f_dams tl1f_echoes tl1f_deep tl1f_slide tl1a_heights tl1a_ladders tl1a_minutes tl1a_echoFrom tl1a_echoTo tl1a_homes tl1a_talls tl1a_known tv0f_deeds tv0a_kinds tv0a_firsts tv0a_seconds tv1f_deeds tv1a_kinds tv1a_firsts tv1a_seconds ts0f_facts ts0a_heard ts0a_huts ts0a_minutes ts1f_facts ts1a_heard ts1a_huts ts1a_minutes tc0f_voices tc0f_step tc0a_parts tc0a_heights tc1f_voices tc1f_step tc1a_parts tc1a_heights) (hI : tG ia_tape if_length if_fault if_place ia_counts il0f_huts il0f_singers il0f_villages il0f_dams il0f_echoes il0f_deep il0f_slide il0a_heights il0a_ladders il0a_minutes il0a_echoFrom il0a_echoTo il0a_homes il0a_talls il0a_known il1f_huts il1f_singers il1f_villages il1f_dams il1f_echoes il1f_deep il1f_slide il1a_heights il1a_ladders il1a_minutes il1a_echoFrom il1a_echoTo il1a_homes il1a_talls il1a_known iv0f_deeds iv0a_kinds iv0a_firsts iv0a_seconds iv1f_deeds iv1a_kinds iv1a_firsts iv1a_seconds is0f_facts is0a_heard is0a_huts is0a_minutes is1f_facts is1a_heard is1a_huts is1a_minutes ic0f_voices ic0f_step ic0a_parts ic0a_heights ic1f_voices ic1f_step ic1a_parts ic1a_heights) : Met l yX10_image (Cond.code yX10_image cX10_image 2 (some .boolean) :: zb) (rmI 0 0) (va_Pc [.ref qx, .int x1] (fun U => wxiW E qx qi ta_tape tf_length tf_fault tf_place ta_counts tl0f_huts tl0f_singers tl0f_villages tl0f_dams tl0f_echoes tl0f_deep tl0f_slide tl0a_heights tl0a_ladders tl0a_minutes tl0a_echoFrom tl0a_echoTo tl0a_homes tl0a_talls tl0a_known tl1f_huts tl1f_singers tl1f_villages tl1f_dams tl1f_echoes tl1f_deep tl1f_slide tl1a_heights tl1a_ladders tl1a_minutes tl1a_echoFrom tl1a_echoTo tl1a_homes tl1a_talls tl1a_known tv0f_deeds tv0a_kinds tv0a_firsts tv0a_seconds tv1f_deeds tv1a_kinds tv1a_firsts tv1a_seconds ts0f_facts ts0a_heard ts0a_huts ts0a_minutes ts1f_facts ts1a_heard ts1a_huts ts1a_minutes tc0f_voices tc0f_step tc0a_parts tc0a_heights tc1f_voices tc1f_step tc1a_parts tc1a_heights m_images rlf_huts rlf_singers rlf_villages rlf_dams rlf_echoes rlf_deep rlf_slide rla_heights rla_ladders rla_minutes rla_echoFrom rla_echoTo rla_homes rla_talls rla_known rvf_deeds rva_kinds rva_firsts rva_seconds rsf_facts rsa_heard rsa_huts rsa_minutes rcf_voices rcf_step rca_parts rca_heights rf_fault rf_faultPlace ra_numbers ra_tape rf_length rf_behind rf_kind rf_first rf_value rf_hutsToldOf rf_singersToldOf nf_minute nf_avalanches nf_begun nf_climbed nf_seed na_huts na_known na_levels na_snow na_open pa_heard pa_walked pa_total pa_longest pa_next pa_cover pa_now pa_then ko_stands ka_gaps ka_behind ba_less ba_full ia_tape if_length if_fault if_place ia_counts il0f_huts il0f_singers il0f_villages il0f_dams il0f_echoes il0f_deep il0f_slide il0a_heights il0a_ladders il0a_minutes il0a_echoFrom il0a_echoTo il0a_homes il0a_talls il0a_known il1f_huts il1f_singers il1f_villages il1f_dams il1f_echoes il1f_deep il1f_slide il1a_heights il1a_ladders il1a_minutes il1a_echoFrom il1a_echoTo il1a_homes il1a_talls il1a_known iv0f_deeds iv0a_kinds iv0a_firsts iv0a_seconds iv1f_deeds iv1a_kinds iv1a_firsts iv1a_seconds is0f_facts is0a_heard is0a_huts is0a_minutes is1f_facts is1a_heard is1a_huts is1a_minutes ic0f_voices ic0f_step ic0a_parts ic0a_heights ic1f_voices ic1f_step ic1a_parts ic1a_heights U.heap ∧ zK E U)) (zQi (S := Unit) (fun r _ => r = 1) (fun _ H => ∃ na_tape nf_length nf_fault nf_place na_counts nl0f_huts nl0f_singers nl0f_villages nl0f_dams nl0f_echoes nl0f_deep nl0f_slide nl0a_heights nl0a_ladders nl0a_minutes nl0a_echoFrom nl0a_echoTo nl0a_homes nl0a_talls nl0a_known nl1f_huts nl1f_singers nl1f_villages nl1f_dams nl1f_echoes nl1f_deep nl1f_slide nl1a_heights nl1a_ladders nl1a_minutes nl1a_echoFrom nl1a_echoTo nl1a_homes nl1a_talls nl1a_known nv0f_deeds nv0a_kinds nv0a_firsts nv0a_seconds nv1f_deeds nv1a_kinds nv1a_firsts nv1a_seconds ns0f_facts ns0a_heard ns0a_huts ns0a_minutes ns1f_facts ns1a_heard ns1a_huts ns1a_minutes nc0f_voices nc0f_step nc0a_parts nc0a_heights nc1f_voices nc1f_step nc1a_parts nc1a_heights, tG na_tape nf_length nf_fault nf_place na_counts nl0f_huts nl0f_singers nl0f_villages nl0f_dams nl0f_echoes nl0f_deep nl0f_slide nl0a_heights nl0a_ladders nl0a_minutes nl0a_echoFrom nl0a_echoTo nl0a_homes nl0a_talls nl0a_known nl1f_huts nl1f_singers nl1f_villages nl1f_dams nl1f_echoes nl1f_deep nl1f_slide nl1a_heights nl1a_ladders nl1a_minutes nl1a_echoFrom nl1a_echoTo nl1a_homes nl1a_talls nl1a_known nv0f_deeds nv0a_kinds nv0a_firsts nv0a_seconds nv1f_deeds nv1a_kinds nv1a_firsts nv1a_seconds ns0f_facts ns0a_heard ns0a_huts ns0a_minutes ns1f_facts ns1a_heard ns1a_huts ns1a_minutes nc0f_voices nc0f_step nc0a_parts nc0a_heights nc1f_voices nc1f_step nc1a_parts nc1a_heights ∧ tCP (tmk na_tape nf_length nf_fault nf_place na_counts nl0f_huts nl0f_singers nl0f_villages nl0f_dams nl0f_echoes nl0f_deep nl0f_slide nl0a_heights nl0a_ladders nl0a_minutes nl0a_echoFrom nl0a_echoTo nl0a_homes nl0a_talls nl0a_known nl1f_huts nl1f_singers nl1f_villages nl1f_dams nl1f_echoes nl1f_deep nl1f_slide nl1a_heights nl1a_ladders nl1a_minutes nl1a_echoFrom nl1a_echoTo nl1a_homes nl1a_talls nl1a_known nv0f_deeds nv0a_kinds nv0a_firsts nv0a_seconds nv1f_deeds nv1a_kinds nv1a_firsts nv1a_seconds ns0f_facts ns0a_heard ns0a_huts ns0a_minutes ns1f_facts ns1a_heard ns1a_huts ns1a_minutes nc0f_voices nc0f_step nc0a_parts nc0a_heights nc1f_voices nc1f_step nc1a_parts nc1a_heights) (tmk ta_tape tf_length tf_fault tf_place ta_counts tl0f_huts tl0f_singers tl0f_villages tl0f_dams tl0f_echoes tl0f_deep tl0f_slide tl0a_heights tl0a_ladders tl0a_minutes tl0a_echoFrom tl0a_echoTo tl0a_homes tl0a_talls tl0a_known tl1f_huts tl1f_singers tl1f_villages tl1f_dams tl1f_echoes tl1f_deep tl1f_slide tl1a_heights tl1a_ladders tl1a_minutes tl1a_echoFrom tl1a_echoTo tl1a_homes tl1a_talls tl1a_known tv0f_deeds tv0a_kinds tv0a_firsts tv0a_seconds tv1f_deeds tv1a_kinds tv1a_firsts tv1a_seconds ts0f_facts ts0a_heard ts0a_huts ts0a_minutes ts1f_facts ts1a_heard ts1a_huts ts1a_minutes tc0f_voices tc0f_step tc0a_parts tc0a_heights tc1f_voices tc1f_step tc1a_parts tc1a_heights) ∧ wxiW E qx qi ta_tape tf_length tf_fault tf_place ta_counts tl0f_huts tl0f_singers tl0f_villages tl0f_dams tl0f_echoes tl0f_deep tl0f_slide tl0a_heights tl0a_ladders tl0a_minutes tl0a_echoFrom tl0a_echoTo tl0a_homes tl0a_talls tl0a_known tl1f_huts tl1f_singers tl1f_villages tl1f_dams tl1f_echoes tl1f_deep tl1f_slide tl1a_heights tl1a_ladders tl1a_minutes tl1a_echoFrom tl1a_echoTo tl1a_homes tl1a_talls tl1a_known tv0f_deeds tv0a_kinds tv0a_firsts tv0a_seconds tv1f_deeds tv1a_kinds tv1a_firsts tv1a_seconds ts0f_facts ts0a_heard ts0a_huts ts0a_minutes ts1f_facts ts1a_heard ts1a_huts ts1a_minutes tc0f_voices tc0f_step tc0a_parts tc0a_heights tc1f_voices tc1f_step tc1a_parts tc1a_heights m_images rlf_huts rlf_singers rlf_villages rlf_dams rlf_echoes rlf_deep rlf_slide rla_heights rla_ladders rla_minutes rla_echoFrom rla_echoTo rla_homes rla_talls rla_known rvf_deeds rva_kinds rva_firsts rva_seconds rsf_facts rsa_heard rsa_huts rsa_minutes rcf_voices rcf_step rca_parts rca_heights rf_fault rf_faultPlace ra_numbers ra_tape rf_length rf_behind rf_kind rf_first rf_value rf_hutsToldOf rf_singersToldOf nf_minute nf_avalanches nf_begun nf_climbed nf_seed na_huts na_known na_levels na_snow na_open pa_heard pa_walked pa_total pa_longest pa_next pa_cover pa_now pa_then ko_stands ka_gaps ka_behind ba_less ba_full na_tape nf_length nf_fault nf_place na_counts nl0f_huts nl0f_singers nl0f_villages nl0f_dams nl0f_echoes nl0f_deep nl0f_slide nl0a_heights nl0a_ladders nl0a_minutes nl0a_echoFrom nl0a_echoTo nl0a_homes nl0a_talls nl0a_known nl1f_huts nl1f_singers nl1f_villages nl1f_dams nl1f_echoes nl1f_deep nl1f_slide nl1a_heights nl1a_ladders nl1a_minutes nl1a_echoFrom nl1a_echoTo nl1a_homes nl1a_talls nl1a_known nv0f_deeds nv0a_kinds nv0a_firsts nv0a_seconds nv1f_deeds nv1a_kinds nv1a_firsts nv1a_seconds ns0f_facts ns0a_heard ns0a_huts ns0a_minutes ns1f_facts ns1a_heard ns1a_huts ns1a_minutes nc0f_voices nc0f_step nc0a_parts nc0a_heights nc1f_voices nc1f_step nc1a_parts nc1a_heights H) (wttA qi (qx + 1))) 0 0 (wttA qi (qx + 1)) := by
  refine Met.ofW (cc := cX10_image) (maxL := 2) (ret := (some .boolean)) (by decide) rfl ?_
  intro p e s m args below meth c s₁ B hml hv
  obtain ⟨rfl, hM, hK⟩ := hv
  have zc := zc_of B hml
  have hx := zc.1
  have hb := zc.2.1
  have hl := lv_entry ([.ref qx, .int x1]) (n := 2) (Nat.le_of_ble_eq_true rfl)
  rw [lg_entry_eq]
  generalize (lg_sl ([.ref qx, .int x1]) ++ List.replicate (2 - (lg_sl ([.ref qx, .int x1])).length) Slot.unset).toArray = ls at hl ⊢
  have hl : lv_has ls 2 [(0, .ref qx), (1, .int x1)] := hl
  have hMx := xi_x hM
  have hin : vp_in x1 3 := iv_in (iv_lta (l := 0) (h := 2) (r_lt hr.2) (iv_leb (l := 0) (h := 2147483647) (r_nlt hr.1) (iv_lit (x := 0) (l := 0) (h := 0) (by decide)) (iv_top x1) (by decide)) (iv_lit (x := 3) (l := 3) (h := 3) (by decide)) (by decide)) (by decide)
  refine lv_iload_n hx hb dX10_image_0 rfl (lv_at hl 1 rfl) ?_
  refine lv_if_lt (tgt := 9) hx hb dX10_image_1 (by decide) (fun hc => absurd hc hr.1) (fun hc => ?_)
  refine lv_iload_n hx hb dX10_image_4 rfl (lv_at hl 1 rfl) ?_
  refine lv_iconst (v := (3 : Int32)) hx hb dX10_image_5 (by decide) ?_
  refine lv_icmp_lt (tgt := 11) hx hb dX10_image_6 (by decide) (fun hd => ?_) (fun hd => absurd hr.2 hd)
  refine lv_aload_n hx hb dX10_image_11 rfl (lv_at hl 0 rfl) ?_
  refine va_get (D := E.1) (ci := 10) (v := .ref (qx + 48)) (C := RX10) (T := TX10) (N := 7) hx hb zc.2.2.2.2.1 uw10 zc.2.2.2.1 hK.1 hMx 0 rfl rfl 1 (by decide) (zc.2.2.2.2.1 _ kf_10_16) (fun _ h9 => h9) rfl dX10_image_12 ?_
  refine lv_iload_n hx hb dX10_image_15 rfl (lv_at hl 1 rfl) ?_
  refine va_aldq hx hb hK.1 hMx 48 8 rfl rfl hin dX10_image_16 ?_
  rw [hm]
  refine W.eq (g2 := F0 m 17 ls (.ref qi :: [])) rfl ?_
  refine lv_ifnonnull (tgt := 33) hx hb dX10_image_17 (by decide) ?_
  exact im_tail3 zc hK hM hT hI hin hm va_S.rf (fun _ h => h) hl

set_option maxRecDepth 40000 in
set_option maxHeartbeats 4000000 in
theorem c3_image_new (l : Launch) {E : zE} {qx h : Nat} {ta_tape : Nat → Int32} {tf_length : Int32} {tf_fault : Int32} {tf_place : Int32} {ta_counts : Nat → Int32} {tl0f_huts : Int32} {tl0f_singers : Int32} {tl0f_villages : Int32} {tl0f_dams : Int32} {tl0f_echoes : Int32} {tl0f_deep : Int32} {tl0f_slide : Int32} {tl0a_heights : Nat → Int32} {tl0a_ladders : Nat → Int32} {tl0a_minutes : Nat → Int32} {tl0a_echoFrom : Nat → Int32} {tl0a_echoTo : Nat → Int32} {tl0a_homes : Nat → Int32} {tl0a_talls : Nat → Int32} {tl0a_known : Nat → Int32} {tl1f_huts : Int32} {tl1f_singers : Int32} {tl1f_villages : Int32} {tl1f_dams : Int32} {tl1f_echoes : Int32} {tl1f_deep : Int32} {tl1f_slide : Int32} {tl1a_heights : Nat → Int32} {tl1a_ladders : Nat → Int32} {tl1a_minutes : Nat → Int32} {tl1a_echoFrom : Nat → Int32} {tl1a_echoTo : Nat → Int32} {tl1a_homes : Nat → Int32} {tl1a_talls : Nat → Int32} {tl1a_known : Nat → Int32} {tv0f_deeds : Int32} {tv0a_kinds : Nat → Int32} {tv0a_firsts : Nat → Int32} {tv0a_seconds : Nat → Int32} {tv1f_deeds : Int32} {tv1a_kinds : Nat → Int32} {tv1a_firsts : Nat → Int32} {tv1a_seconds : Nat → Int32} {ts0f_facts : Int32} {ts0a_heard : Nat → Int32} {ts0a_huts : Nat → Int32} {ts0a_minutes : Nat → Int32} {ts1f_facts : Int32} {ts1a_heard : Nat → Int32} {ts1a_huts : Nat → Int32} {ts1a_minutes : Nat → Int32} {tc0f_voices : Int32} {tc0f_step : Int32} {tc0a_parts : Nat → Int32} {tc0a_heights : Nat → Int32} {tc1f_voices : Int32} {tc1f_step : Int32} {tc1a_parts : Nat → Int32} {tc1a_heights : Nat → Int32} {m_images : Nat → Option Nat} {rlf_huts : Int32} {rlf_singers : Int32} {rlf_villages : Int32} {rlf_dams : Int32} {rlf_echoes : Int32} {rlf_deep : Int32} {rlf_slide : Int32} {rla_heights : Nat → Int32} {rla_ladders : Nat → Int32} {rla_minutes : Nat → Int32} {rla_echoFrom : Nat → Int32} {rla_echoTo : Nat → Int32} {rla_homes : Nat → Int32} {rla_talls : Nat → Int32} {rla_known : Nat → Int32} {rvf_deeds : Int32} {rva_kinds : Nat → Int32} {rva_firsts : Nat → Int32} {rva_seconds : Nat → Int32} {rsf_facts : Int32} {rsa_heard : Nat → Int32} {rsa_huts : Nat → Int32} {rsa_minutes : Nat → Int32} {rcf_voices : Int32} {rcf_step : Int32} {rca_parts : Nat → Int32} {rca_heights : Nat → Int32} {rf_fault : Int32} {rf_faultPlace : Int32} {ra_numbers : Nat → Int32} {ra_tape : Nat → Int32} {rf_length : Int32} {rf_behind : Int32} {rf_kind : Int32} {rf_first : Int32} {rf_value : Int32} {rf_hutsToldOf : Int32} {rf_singersToldOf : Int32} {nf_minute : Int32} {nf_avalanches : Int32} {nf_begun : Int32} {nf_climbed : Int32} {nf_seed : Int32} {na_huts : Nat → Int32} {na_known : Nat → Int32} {na_levels : Nat → Int32} {na_snow : Nat → Int32} {na_open : Nat → Int32} {pa_heard : Nat → Int32} {pa_walked : Nat → Int32} {pa_total : Nat → Int32} {pa_longest : Nat → Int32} {pa_next : Nat → Int32} {pa_cover : Nat → Int32} {pa_now : Nat → Int32} {pa_then : Nat → Int32} {ko_stands : Option Nat} {ka_gaps : Nat → Int32} {ka_behind : Nat → Int32} {ba_less : Nat → Int32} {ba_full : Nat → Int32} {x1 : Int32} (hr : ¬ x1 < 0 ∧ x1 < 3) (hm : m_images (Int32.toNatClampNeg x1) = none) (hT : tG ta_tape tf_length tf_fault tf_place ta_counts tl0f_huts tl0f_singers tl0f_villages tl0f_dams tl0f_echoes tl0f_deep tl0f_slide tl0a_heights tl0a_ladders tl0a_minutes tl0a_echoFrom tl0a_echoTo tl0a_homes tl0a_talls tl0a_known tl1f_huts tl1f_singers tl1f_villages tl1f_dams tl1f_echoes tl1f_deep tl1f_slide tl1a_heights tl1a_ladders tl1a_minutes tl1a_echoFrom tl1a_echoTo tl1a_homes tl1a_talls tl1a_known tv0f_deeds tv0a_kinds tv0a_firsts tv0a_seconds tv1f_deeds tv1a_kinds tv1a_firsts tv1a_seconds ts0f_facts ts0a_heard ts0a_huts ts0a_minutes ts1f_facts ts1a_heard ts1a_huts ts1a_minutes tc0f_voices tc0f_step tc0a_parts tc0a_heights tc1f_voices tc1f_step tc1a_parts tc1a_heights) : Met l yX10_image (Cond.code yX10_image cX10_image 2 (some .boolean) :: zb) (rmI 47 1261) (va_Pc [.ref qx, .int x1] (fun U => (U.heap.size = h ∧ qx + 93 ≤ h) ∧ wxW E qx ta_tape tf_length tf_fault tf_place ta_counts tl0f_huts tl0f_singers tl0f_villages tl0f_dams tl0f_echoes tl0f_deep tl0f_slide tl0a_heights tl0a_ladders tl0a_minutes tl0a_echoFrom tl0a_echoTo tl0a_homes tl0a_talls tl0a_known tl1f_huts tl1f_singers tl1f_villages tl1f_dams tl1f_echoes tl1f_deep tl1f_slide tl1a_heights tl1a_ladders tl1a_minutes tl1a_echoFrom tl1a_echoTo tl1a_homes tl1a_talls tl1a_known tv0f_deeds tv0a_kinds tv0a_firsts tv0a_seconds tv1f_deeds tv1a_kinds tv1a_firsts tv1a_seconds ts0f_facts ts0a_heard ts0a_huts ts0a_minutes ts1f_facts ts1a_heard ts1a_huts ts1a_minutes tc0f_voices tc0f_step tc0a_parts tc0a_heights tc1f_voices tc1f_step tc1a_parts tc1a_heights m_images rlf_huts rlf_singers rlf_villages rlf_dams rlf_echoes rlf_deep rlf_slide rla_heights rla_ladders rla_minutes rla_echoFrom rla_echoTo rla_homes rla_talls rla_known rvf_deeds rva_kinds rva_firsts rva_seconds rsf_facts rsa_heard rsa_huts rsa_minutes rcf_voices rcf_step rca_parts rca_heights rf_fault rf_faultPlace ra_numbers ra_tape rf_length rf_behind rf_kind rf_first rf_value rf_hutsToldOf rf_singersToldOf nf_minute nf_avalanches nf_begun nf_climbed nf_seed na_huts na_known na_levels na_snow na_open pa_heard pa_walked pa_total pa_longest pa_next pa_cover pa_now pa_then ko_stands ka_gaps ka_behind ba_less ba_full U.heap ∧ zK E U ∧ zO U)) (zQi (S := Unit) (fun r _ => r = 1) (fun _ H => ∃ na_tape nf_length nf_fault nf_place na_counts nl0f_huts nl0f_singers nl0f_villages nl0f_dams nl0f_echoes nl0f_deep nl0f_slide nl0a_heights nl0a_ladders nl0a_minutes nl0a_echoFrom nl0a_echoTo nl0a_homes nl0a_talls nl0a_known nl1f_huts nl1f_singers nl1f_villages nl1f_dams nl1f_echoes nl1f_deep nl1f_slide nl1a_heights nl1a_ladders nl1a_minutes nl1a_echoFrom nl1a_echoTo nl1a_homes nl1a_talls nl1a_known nv0f_deeds nv0a_kinds nv0a_firsts nv0a_seconds nv1f_deeds nv1a_kinds nv1a_firsts nv1a_seconds ns0f_facts ns0a_heard ns0a_huts ns0a_minutes ns1f_facts ns1a_heard ns1a_huts ns1a_minutes nc0f_voices nc0f_step nc0a_parts nc0a_heights nc1f_voices nc1f_step nc1a_parts nc1a_heights, tG na_tape nf_length nf_fault nf_place na_counts nl0f_huts nl0f_singers nl0f_villages nl0f_dams nl0f_echoes nl0f_deep nl0f_slide nl0a_heights nl0a_ladders nl0a_minutes nl0a_echoFrom nl0a_echoTo nl0a_homes nl0a_talls nl0a_known nl1f_huts nl1f_singers nl1f_villages nl1f_dams nl1f_echoes nl1f_deep nl1f_slide nl1a_heights nl1a_ladders nl1a_minutes nl1a_echoFrom nl1a_echoTo nl1a_homes nl1a_talls nl1a_known nv0f_deeds nv0a_kinds nv0a_firsts nv0a_seconds nv1f_deeds nv1a_kinds nv1a_firsts nv1a_seconds ns0f_facts ns0a_heard ns0a_huts ns0a_minutes ns1f_facts ns1a_heard ns1a_huts ns1a_minutes nc0f_voices nc0f_step nc0a_parts nc0a_heights nc1f_voices nc1f_step nc1a_parts nc1a_heights ∧ tCP (tmk na_tape nf_length nf_fault nf_place na_counts nl0f_huts nl0f_singers nl0f_villages nl0f_dams nl0f_echoes nl0f_deep nl0f_slide nl0a_heights nl0a_ladders nl0a_minutes nl0a_echoFrom nl0a_echoTo nl0a_homes nl0a_talls nl0a_known nl1f_huts nl1f_singers nl1f_villages nl1f_dams nl1f_echoes nl1f_deep nl1f_slide nl1a_heights nl1a_ladders nl1a_minutes nl1a_echoFrom nl1a_echoTo nl1a_homes nl1a_talls nl1a_known nv0f_deeds nv0a_kinds nv0a_firsts nv0a_seconds nv1f_deeds nv1a_kinds nv1a_firsts nv1a_seconds ns0f_facts ns0a_heard ns0a_huts ns0a_minutes ns1f_facts ns1a_heard ns1a_huts ns1a_minutes nc0f_voices nc0f_step nc0a_parts nc0a_heights nc1f_voices nc1f_step nc1a_parts nc1a_heights) (tmk ta_tape tf_length tf_fault tf_place ta_counts tl0f_huts tl0f_singers tl0f_villages tl0f_dams tl0f_echoes tl0f_deep tl0f_slide tl0a_heights tl0a_ladders tl0a_minutes tl0a_echoFrom tl0a_echoTo tl0a_homes tl0a_talls tl0a_known tl1f_huts tl1f_singers tl1f_villages tl1f_dams tl1f_echoes tl1f_deep tl1f_slide tl1a_heights tl1a_ladders tl1a_minutes tl1a_echoFrom tl1a_echoTo tl1a_homes tl1a_talls tl1a_known tv0f_deeds tv0a_kinds tv0a_firsts tv0a_seconds tv1f_deeds tv1a_kinds tv1a_firsts tv1a_seconds ts0f_facts ts0a_heard ts0a_huts ts0a_minutes ts1f_facts ts1a_heard ts1a_huts ts1a_minutes tc0f_voices tc0f_step tc0a_parts tc0a_heights tc1f_voices tc1f_step tc1a_parts tc1a_heights) ∧ wxiW E qx h ta_tape tf_length tf_fault tf_place ta_counts tl0f_huts tl0f_singers tl0f_villages tl0f_dams tl0f_echoes tl0f_deep tl0f_slide tl0a_heights tl0a_ladders tl0a_minutes tl0a_echoFrom tl0a_echoTo tl0a_homes tl0a_talls tl0a_known tl1f_huts tl1f_singers tl1f_villages tl1f_dams tl1f_echoes tl1f_deep tl1f_slide tl1a_heights tl1a_ladders tl1a_minutes tl1a_echoFrom tl1a_echoTo tl1a_homes tl1a_talls tl1a_known tv0f_deeds tv0a_kinds tv0a_firsts tv0a_seconds tv1f_deeds tv1a_kinds tv1a_firsts tv1a_seconds ts0f_facts ts0a_heard ts0a_huts ts0a_minutes ts1f_facts ts1a_heard ts1a_huts ts1a_minutes tc0f_voices tc0f_step tc0a_parts tc0a_heights tc1f_voices tc1f_step tc1a_parts tc1a_heights (va_up m_images (Int32.toNatClampNeg x1) (some h)) rlf_huts rlf_singers rlf_villages rlf_dams rlf_echoes rlf_deep rlf_slide rla_heights rla_ladders rla_minutes rla_echoFrom rla_echoTo rla_homes rla_talls rla_known rvf_deeds rva_kinds rva_firsts rva_seconds rsf_facts rsa_heard rsa_huts rsa_minutes rcf_voices rcf_step rca_parts rca_heights rf_fault rf_faultPlace ra_numbers ra_tape rf_length rf_behind rf_kind rf_first rf_value rf_hutsToldOf rf_singersToldOf nf_minute nf_avalanches nf_begun nf_climbed nf_seed na_huts na_known na_levels na_snow na_open pa_heard pa_walked pa_total pa_longest pa_next pa_cover pa_now pa_then ko_stands ka_gaps ka_behind ba_less ba_full na_tape nf_length nf_fault nf_place na_counts nl0f_huts nl0f_singers nl0f_villages nl0f_dams nl0f_echoes nl0f_deep nl0f_slide nl0a_heights nl0a_ladders nl0a_minutes nl0a_echoFrom nl0a_echoTo nl0a_homes nl0a_talls nl0a_known nl1f_huts nl1f_singers nl1f_villages nl1f_dams nl1f_echoes nl1f_deep nl1f_slide nl1a_heights nl1a_ladders nl1a_minutes nl1a_echoFrom nl1a_echoTo nl1a_homes nl1a_talls nl1a_known nv0f_deeds nv0a_kinds nv0a_firsts nv0a_seconds nv1f_deeds nv1a_kinds nv1a_firsts nv1a_seconds ns0f_facts ns0a_heard ns0a_huts ns0a_minutes ns1f_facts ns1a_heard ns1a_huts ns1a_minutes nc0f_voices nc0f_step nc0a_parts nc0a_heights nc1f_voices nc1f_step nc1a_parts nc1a_heights H) (zImA qx h)) 47 1261 (zImA qx h) := by
  refine Met.ofW (cc := cX10_image) (maxL := 2) (ret := (some .boolean)) (by decide) rfl ?_
  intro p e s m args below meth c s₁ B hml hv
  obtain ⟨rfl, ⟨hsz, hqh⟩, hMx, hK, hO⟩ := hv
  have zc := zc_of B hml
  have hx := zc.1
  have hb := zc.2.1
  have hl := lv_entry ([.ref qx, .int x1]) (n := 2) (Nat.le_of_ble_eq_true rfl)
  rw [lg_entry_eq]
  generalize (lg_sl ([.ref qx, .int x1]) ++ List.replicate (2 - (lg_sl ([.ref qx, .int x1])).length) Slot.unset).toArray = ls at hl ⊢
  have hl : lv_has ls 2 [(0, .ref qx), (1, .int x1)] := hl
  have hS : va_S (zImA qx h) s.heap s.heap [] := va_S.rf
  have hin : vp_in x1 3 := iv_in (iv_lta (l := 0) (h := 2) (r_lt hr.2) (iv_leb (l := 0) (h := 2147483647) (r_nlt hr.1) (iv_lit (x := 0) (l := 0) (h := 0) (by decide)) (iv_top x1) (by decide)) (iv_lit (x := 3) (l := 3) (h := 3) (by decide)) (by decide)) (by decide)
  refine lv_iload_n hx hb dX10_image_0 rfl (lv_at hl 1 rfl) ?_
  refine lv_if_lt (tgt := 9) hx hb dX10_image_1 (by decide) (fun hc => absurd hc hr.1) (fun hc => ?_)
  refine lv_iload_n hx hb dX10_image_4 rfl (lv_at hl 1 rfl) ?_
  refine lv_iconst (v := (3 : Int32)) hx hb dX10_image_5 (by decide) ?_
  refine lv_icmp_lt (tgt := 11) hx hb dX10_image_6 (by decide) (fun hd => ?_) (fun hd => absurd hr.2 hd)
  refine lv_aload_n hx hb dX10_image_11 rfl (lv_at hl 0 rfl) ?_
  refine va_get (D := E.1) (ci := 10) (v := .ref (qx + 48)) (C := RX10) (T := TX10) (N := 7) hx hb zc.2.2.2.2.1 uw10 zc.2.2.2.1 hK.1 hMx 0 rfl rfl 1 (by decide) (zc.2.2.2.2.1 _ kf_10_16) (fun _ h9 => h9) rfl dX10_image_12 ?_
  refine lv_iload_n hx hb dX10_image_15 rfl (lv_at hl 1 rfl) ?_
  refine va_aldq hx hb hK.1 hMx 48 8 rfl rfl hin dX10_image_16 ?_
  rw [hm]
  refine W.eq (g2 := F0 m 17 ls (.null :: [])) rfl ?_
  refine lv_ifnonnullN hx hb dX10_image_17 ?_
  refine lv_aload_n hx hb dX10_image_20 rfl (lv_at hl 0 rfl) ?_
  refine va_get (D := E.1) (ci := 10) (v := .ref (qx + 48)) (C := RX10) (T := TX10) (N := 7) hx hb zc.2.2.2.2.1 uw10 zc.2.2.2.1 hK.1 hMx 0 rfl rfl 1 (by decide) (zc.2.2.2.2.1 _ kf_10_16) (fun _ h9 => h9) rfl dX10_image_21 ?_
  refine lv_iload_n hx hb dX10_image_24 rfl (lv_at hl 1 rfl) ?_
  refine zNew (ws := []) (C := RX9) (T := TX9) (N := 9) (ci := 9) zc hK (fun k q h => by simp at h) hS hsz uw9 tyX9 tyX9_ok kcl_10_7 kins_9 kinit_9 rfl [.null, .int 0, .int 0, .int 0, .null, .null, .null, .null, .null] (fun j hj => match j, hj with | 0, _ => rfl | 1, _ => rfl | 2, _ => rfl | 3, _ => rfl | 4, _ => rfl | 5, _ => rfl | 6, _ => rfl | 7, _ => rfl | 8, _ => rfl | j + 9, hj => absurd hj (by omega)) (Nat.le_of_ble_eq_true rfl) (Nat.le_of_ble_eq_true rfl) dX10_image_25 (fun H1 hN o1 hz1 hS => ?_)
  have hMx := wx_kp hMx (fun z _ _ h3 => o1 z (Nat.lt_of_lt_of_le h3 hqh))
  have g9 : va_P E.1 zcl [(h, .inr (9, [.null, .int 0, .int 0, .int 0, .null, .null, .null, .null, .null]))] H1 := hN
  refine W.cs (cells' := 1) (slots' := 9) rfl rfl ?_
  refine lv_dup hx hb dX10_image_28 rfl ?_
  refine zIc zc ky_X9_init kz_X9_init rfl km_10_9 (ci_X9_init l) (zIpre hK hO g9 hz1) hS (fun q (hq : h ≤ q) => Or.inr hq) hl.1 (Nat.le_of_ble_eq_true rfl) ⟨rfl, rfl⟩ ⟨(Nat.le_of_ble_eq_true rfl), (Nat.le_of_ble_eq_true rfl)⟩ ⟨(Nat.le_of_ble_eq_true rfl), (Nat.le_of_ble_eq_true rfl)⟩ dX10_image_29 (fun _ H2 locs _ hJ hk hS => ?_)
  have hMx := wx_kp hMx (fun z h1 _ h3 => hk z h1 (fun (hq : h ≤ z) => absurd (Nat.lt_of_lt_of_le h3 hqh) (Nat.not_lt.mpr hq)))
  have g9 := hJ.1
  refine W.cs (cells' := 47) (slots' := 1261) rfl rfl ?_
  refine zAast (t := 8) (r := (RX9, TX9, 9)) zc hK hMx ((wxD E qx ta_tape tf_length tf_fault tf_place ta_counts tl0f_huts tl0f_singers tl0f_villages tl0f_dams tl0f_echoes tl0f_deep tl0f_slide tl0a_heights tl0a_ladders tl0a_minutes tl0a_echoFrom tl0a_echoTo tl0a_homes tl0a_talls tl0a_known tl1f_huts tl1f_singers tl1f_villages tl1f_dams tl1f_echoes tl1f_deep tl1f_slide tl1a_heights tl1a_ladders tl1a_minutes tl1a_echoFrom tl1a_echoTo tl1a_homes tl1a_talls tl1a_known tv0f_deeds tv0a_kinds tv0a_firsts tv0a_seconds tv1f_deeds tv1a_kinds tv1a_firsts tv1a_seconds ts0f_facts ts0a_heard ts0a_huts ts0a_minutes ts1f_facts ts1a_heard ts1a_huts ts1a_minutes tc0f_voices tc0f_step tc0a_parts tc0a_heights tc1f_voices tc1f_step tc1a_parts tc1a_heights m_images rlf_huts rlf_singers rlf_villages rlf_dams rlf_echoes rlf_deep rlf_slide rla_heights rla_ladders rla_minutes rla_echoFrom rla_echoTo rla_homes rla_talls rla_known rvf_deeds rva_kinds rva_firsts rva_seconds rsf_facts rsa_heard rsa_huts rsa_minutes rcf_voices rcf_step rca_parts rca_heights rf_fault rf_faultPlace ra_numbers ra_tape rf_length rf_behind rf_kind rf_first rf_value rf_hutsToldOf rf_singersToldOf nf_minute nf_avalanches nf_begun nf_climbed nf_seed na_huts na_known na_levels na_snow na_open pa_heard pa_walked pa_total pa_longest pa_next pa_cover pa_now pa_then ko_stands ka_gaps ka_behind ba_less ba_full).weaken (fun _ _ _ h => Or.inl h)) hS 48 0 rfl rfl g9 rfl rfl hin dX10_image_32 (fun H3 locs hN oq hz3 hS => ?_)
  have hMx : wxW E qx ta_tape tf_length tf_fault tf_place ta_counts tl0f_huts tl0f_singers tl0f_villages tl0f_dams tl0f_echoes tl0f_deep tl0f_slide tl0a_heights tl0a_ladders tl0a_minutes tl0a_echoFrom tl0a_echoTo tl0a_homes tl0a_talls tl0a_known tl1f_huts tl1f_singers tl1f_villages tl1f_dams tl1f_echoes tl1f_deep tl1f_slide tl1a_heights tl1a_ladders tl1a_minutes tl1a_echoFrom tl1a_echoTo tl1a_homes tl1a_talls tl1a_known tv0f_deeds tv0a_kinds tv0a_firsts tv0a_seconds tv1f_deeds tv1a_kinds tv1a_firsts tv1a_seconds ts0f_facts ts0a_heard ts0a_huts ts0a_minutes ts1f_facts ts1a_heard ts1a_huts ts1a_minutes tc0f_voices tc0f_step tc0a_parts tc0a_heights tc1f_voices tc1f_step tc1a_parts tc1a_heights (va_up m_images (Int32.toNatClampNeg x1) (some h)) rlf_huts rlf_singers rlf_villages rlf_dams rlf_echoes rlf_deep rlf_slide rla_heights rla_ladders rla_minutes rla_echoFrom rla_echoTo rla_homes rla_talls rla_known rvf_deeds rva_kinds rva_firsts rva_seconds rsf_facts rsa_heard rsa_huts rsa_minutes rcf_voices rcf_step rca_parts rca_heights rf_fault rf_faultPlace ra_numbers ra_tape rf_length rf_behind rf_kind rf_first rf_value rf_hutsToldOf rf_singersToldOf nf_minute nf_avalanches nf_begun nf_climbed nf_seed na_huts na_known na_levels na_snow na_open pa_heard pa_walked pa_total pa_longest pa_next pa_cover pa_now pa_then ko_stands ka_gaps ka_behind ba_less ba_full H3 := hN
  have g9 := zkp g9 zrg_X9_init (fun q _ h2 _ => oq q (by omega))
  exact im_tail3 zc hK (xi_of hMx (wt_0 g9) hqh) hT tG_0 hin (va_up_self _ _ _) hS (fun q hq => by unfold wttA at hq; unfold zImA zR; omega) hl

set_option maxRecDepth 40000 in
set_option maxHeartbeats 4000000 in
theorem c3_again_yes (l : Launch) {E : zE} {qx qi : Nat} {ta_tape : Nat → Int32} {tf_length : Int32} {tf_fault : Int32} {tf_place : Int32} {ta_counts : Nat → Int32} {tl0f_huts : Int32} {tl0f_singers : Int32} {tl0f_villages : Int32} {tl0f_dams : Int32} {tl0f_echoes : Int32} {tl0f_deep : Int32} {tl0f_slide : Int32} {tl0a_heights : Nat → Int32} {tl0a_ladders : Nat → Int32} {tl0a_minutes : Nat → Int32} {tl0a_echoFrom : Nat → Int32} {tl0a_echoTo : Nat → Int32} {tl0a_homes : Nat → Int32} {tl0a_talls : Nat → Int32} {tl0a_known : Nat → Int32} {tl1f_huts : Int32} {tl1f_singers : Int32} {tl1f_villages : Int32} {tl1f_dams : Int32} {tl1f_echoes : Int32} {tl1f_deep : Int32} {tl1f_slide : Int32} {tl1a_heights : Nat → Int32} {tl1a_ladders : Nat → Int32} {tl1a_minutes : Nat → Int32} {tl1a_echoFrom : Nat → Int32} {tl1a_echoTo : Nat → Int32} {tl1a_homes : Nat → Int32} {tl1a_talls : Nat → Int32} {tl1a_known : Nat → Int32} {tv0f_deeds : Int32} {tv0a_kinds : Nat → Int32} {tv0a_firsts : Nat → Int32} {tv0a_seconds : Nat → Int32} {tv1f_deeds : Int32} {tv1a_kinds : Nat → Int32} {tv1a_firsts : Nat → Int32} {tv1a_seconds : Nat → Int32} {ts0f_facts : Int32} {ts0a_heard : Nat → Int32} {ts0a_huts : Nat → Int32} {ts0a_minutes : Nat → Int32} {ts1f_facts : Int32} {ts1a_heard : Nat → Int32} {ts1a_huts : Nat → Int32} {ts1a_minutes : Nat → Int32} {tc0f_voices : Int32} {tc0f_step : Int32} {tc0a_parts : Nat → Int32} {tc0a_heights : Nat → Int32} {tc1f_voices : Int32} {tc1f_step : Int32} {tc1a_parts : Nat → Int32} {tc1a_heights : Nat → Int32} {m_images : Nat → Option Nat} {rlf_huts : Int32} {rlf_singers : Int32} {rlf_villages : Int32} {rlf_dams : Int32} {rlf_echoes : Int32} {rlf_deep : Int32} {rlf_slide : Int32} {rla_heights : Nat → Int32} {rla_ladders : Nat → Int32} {rla_minutes : Nat → Int32} {rla_echoFrom : Nat → Int32} {rla_echoTo : Nat → Int32} {rla_homes : Nat → Int32} {rla_talls : Nat → Int32} {rla_known : Nat → Int32} {rvf_deeds : Int32} {rva_kinds : Nat → Int32} {rva_firsts : Nat → Int32} {rva_seconds : Nat → Int32} {rsf_facts : Int32} {rsa_heard : Nat → Int32} {rsa_huts : Nat → Int32} {rsa_minutes : Nat → Int32} {rcf_voices : Int32} {rcf_step : Int32} {rca_parts : Nat → Int32} {rca_heights : Nat → Int32} {rf_fault : Int32} {rf_faultPlace : Int32} {ra_numbers : Nat → Int32} {ra_tape : Nat → Int32} {rf_length : Int32} {rf_behind : Int32} {rf_kind : Int32} {rf_first : Int32} {rf_value : Int32} {rf_hutsToldOf : Int32} {rf_singersToldOf : Int32} {nf_minute : Int32} {nf_avalanches : Int32} {nf_begun : Int32} {nf_climbed : Int32} {nf_seed : Int32} {na_huts : Nat → Int32} {na_known : Nat → Int32} {na_levels : Nat → Int32} {na_snow : Nat → Int32} {na_open : Nat → Int32} {pa_heard : Nat → Int32} {pa_walked : Nat → Int32} {pa_total : Nat → Int32} {pa_longest : Nat → Int32} {pa_next : Nat → Int32} {pa_cover : Nat → Int32} {pa_now : Nat → Int32} {pa_then : Nat → Int32} {ko_stands : Option Nat} {ka_gaps : Nat → Int32} {ka_behind : Nat → Int32} {ba_less : Nat → Int32} {ba_full : Nat → Int32} {ia_tape : Nat → Int32} {if_length : Int32} {if_fault : Int32} {if_place : Int32} {ia_counts : Nat → Int32} {il0f_huts : Int32} {il0f_singers : Int32} {il0f_villages : Int32} {il0f_dams : Int32} {il0f_echoes : Int32} {il0f_deep : Int32} {il0f_slide : Int32} {il0a_heights : Nat → Int32} {il0a_ladders : Nat → Int32} {il0a_minutes : Nat → Int32} {il0a_echoFrom : Nat → Int32} {il0a_echoTo : Nat → Int32} {il0a_homes : Nat → Int32} {il0a_talls : Nat → Int32} {il0a_known : Nat → Int32} {il1f_huts : Int32} {il1f_singers : Int32} {il1f_villages : Int32} {il1f_dams : Int32} {il1f_echoes : Int32} {il1f_deep : Int32} {il1f_slide : Int32} {il1a_heights : Nat → Int32} {il1a_ladders : Nat → Int32} {il1a_minutes : Nat → Int32} {il1a_echoFrom : Nat → Int32} {il1a_echoTo : Nat → Int32} {il1a_homes : Nat → Int32} {il1a_talls : Nat → Int32} {il1a_known : Nat → Int32} {iv0f_deeds : Int32} {iv0a_kinds : Nat → Int32} {iv0a_firsts : Nat → Int32} {iv0a_seconds : Nat → Int32} {iv1f_deeds : Int32} {iv1a_kinds : Nat → Int32} {iv1a_firsts : Nat → Int32} {iv1a_seconds : Nat → Int32} {is0f_facts : Int32} {is0a_heard : Nat → Int32} {is0a_huts : Nat → Int32} {is0a_minutes : Nat → Int32} {is1f_facts : Int32} {is1a_heard : Nat → Int32} {is1a_huts : Nat → Int32} {is1a_minutes : Nat → Int32} {ic0f_voices : Int32} {ic0f_step : Int32} {ic0a_parts : Nat → Int32} {ic0a_heights : Nat → Int32} {ic1f_voices : Int32} {ic1f_step : Int32} {ic1a_parts : Nat → Int32} {ic1a_heights : Nat → Int32} {x1 : Int32} (hr : ¬ x1 < 0 ∧ x1 < 3) (hm : m_images (Int32.toNatClampNeg x1) = some qi) (hT : tG ta_tape tf_length tf_fault tf_place ta_counts tl0f_huts tl0f_singers tl0f_villages tl0f_dams tl0f_echoes tl0f_deep tl0f_slide tl0a_heights tl0a_ladders tl0a_minutes tl0a_echoFrom tl0a_echoTo tl0a_homes tl0a_talls tl0a_known tl1f_huts tl1f_singers tl1f_villages tl1f_dams tl1f_echoes tl1f_deep tl1f_slide tl1a_heights tl1a_ladders tl1a_minutes tl1a_echoFrom tl1a_echoTo tl1a_homes tl1a_talls tl1a_known tv0f_deeds tv0a_kinds tv0a_firsts tv0a_seconds tv1f_deeds tv1a_kinds tv1a_firsts tv1a_seconds ts0f_facts ts0a_heard ts0a_huts ts0a_minutes ts1f_facts ts1a_heard ts1a_huts ts1a_minutes tc0f_voices tc0f_step tc0a_parts tc0a_heights tc1f_voices tc1f_step tc1a_parts tc1a_heights) (hI : tG ia_tape if_length if_fault if_place ia_counts il0f_huts il0f_singers il0f_villages il0f_dams il0f_echoes il0f_deep il0f_slide il0a_heights il0a_ladders il0a_minutes il0a_echoFrom il0a_echoTo il0a_homes il0a_talls il0a_known il1f_huts il1f_singers il1f_villages il1f_dams il1f_echoes il1f_deep il1f_slide il1a_heights il1a_ladders il1a_minutes il1a_echoFrom il1a_echoTo il1a_homes il1a_talls il1a_known iv0f_deeds iv0a_kinds iv0a_firsts iv0a_seconds iv1f_deeds iv1a_kinds iv1a_firsts iv1a_seconds is0f_facts is0a_heard is0a_huts is0a_minutes is1f_facts is1a_heard is1a_huts is1a_minutes ic0f_voices ic0f_step ic0a_parts ic0a_heights ic1f_voices ic1f_step ic1a_parts ic1a_heights) : Met l yX10_again (Cond.code yX10_again cX10_again 2 (some .boolean) :: zb) (rmI 0 0) (va_Pc [.ref qx, .int x1] (fun U => wxiW E qx qi ta_tape tf_length tf_fault tf_place ta_counts tl0f_huts tl0f_singers tl0f_villages tl0f_dams tl0f_echoes tl0f_deep tl0f_slide tl0a_heights tl0a_ladders tl0a_minutes tl0a_echoFrom tl0a_echoTo tl0a_homes tl0a_talls tl0a_known tl1f_huts tl1f_singers tl1f_villages tl1f_dams tl1f_echoes tl1f_deep tl1f_slide tl1a_heights tl1a_ladders tl1a_minutes tl1a_echoFrom tl1a_echoTo tl1a_homes tl1a_talls tl1a_known tv0f_deeds tv0a_kinds tv0a_firsts tv0a_seconds tv1f_deeds tv1a_kinds tv1a_firsts tv1a_seconds ts0f_facts ts0a_heard ts0a_huts ts0a_minutes ts1f_facts ts1a_heard ts1a_huts ts1a_minutes tc0f_voices tc0f_step tc0a_parts tc0a_heights tc1f_voices tc1f_step tc1a_parts tc1a_heights m_images rlf_huts rlf_singers rlf_villages rlf_dams rlf_echoes rlf_deep rlf_slide rla_heights rla_ladders rla_minutes rla_echoFrom rla_echoTo rla_homes rla_talls rla_known rvf_deeds rva_kinds rva_firsts rva_seconds rsf_facts rsa_heard rsa_huts rsa_minutes rcf_voices rcf_step rca_parts rca_heights rf_fault rf_faultPlace ra_numbers ra_tape rf_length rf_behind rf_kind rf_first rf_value rf_hutsToldOf rf_singersToldOf nf_minute nf_avalanches nf_begun nf_climbed nf_seed na_huts na_known na_levels na_snow na_open pa_heard pa_walked pa_total pa_longest pa_next pa_cover pa_now pa_then ko_stands ka_gaps ka_behind ba_less ba_full ia_tape if_length if_fault if_place ia_counts il0f_huts il0f_singers il0f_villages il0f_dams il0f_echoes il0f_deep il0f_slide il0a_heights il0a_ladders il0a_minutes il0a_echoFrom il0a_echoTo il0a_homes il0a_talls il0a_known il1f_huts il1f_singers il1f_villages il1f_dams il1f_echoes il1f_deep il1f_slide il1a_heights il1a_ladders il1a_minutes il1a_echoFrom il1a_echoTo il1a_homes il1a_talls il1a_known iv0f_deeds iv0a_kinds iv0a_firsts iv0a_seconds iv1f_deeds iv1a_kinds iv1a_firsts iv1a_seconds is0f_facts is0a_heard is0a_huts is0a_minutes is1f_facts is1a_heard is1a_huts is1a_minutes ic0f_voices ic0f_step ic0a_parts ic0a_heights ic1f_voices ic1f_step ic1a_parts ic1a_heights U.heap ∧ zK E U)) (zQi (S := Unit) (fun r _ => r = 1) (fun _ H => ∃ na_tape nf_length nf_fault nf_place na_counts nl0f_huts nl0f_singers nl0f_villages nl0f_dams nl0f_echoes nl0f_deep nl0f_slide nl0a_heights nl0a_ladders nl0a_minutes nl0a_echoFrom nl0a_echoTo nl0a_homes nl0a_talls nl0a_known nl1f_huts nl1f_singers nl1f_villages nl1f_dams nl1f_echoes nl1f_deep nl1f_slide nl1a_heights nl1a_ladders nl1a_minutes nl1a_echoFrom nl1a_echoTo nl1a_homes nl1a_talls nl1a_known nv0f_deeds nv0a_kinds nv0a_firsts nv0a_seconds nv1f_deeds nv1a_kinds nv1a_firsts nv1a_seconds ns0f_facts ns0a_heard ns0a_huts ns0a_minutes ns1f_facts ns1a_heard ns1a_huts ns1a_minutes nc0f_voices nc0f_step nc0a_parts nc0a_heights nc1f_voices nc1f_step nc1a_parts nc1a_heights, tG na_tape nf_length nf_fault nf_place na_counts nl0f_huts nl0f_singers nl0f_villages nl0f_dams nl0f_echoes nl0f_deep nl0f_slide nl0a_heights nl0a_ladders nl0a_minutes nl0a_echoFrom nl0a_echoTo nl0a_homes nl0a_talls nl0a_known nl1f_huts nl1f_singers nl1f_villages nl1f_dams nl1f_echoes nl1f_deep nl1f_slide nl1a_heights nl1a_ladders nl1a_minutes nl1a_echoFrom nl1a_echoTo nl1a_homes nl1a_talls nl1a_known nv0f_deeds nv0a_kinds nv0a_firsts nv0a_seconds nv1f_deeds nv1a_kinds nv1a_firsts nv1a_seconds ns0f_facts ns0a_heard ns0a_huts ns0a_minutes ns1f_facts ns1a_heard ns1a_huts ns1a_minutes nc0f_voices nc0f_step nc0a_parts nc0a_heights nc1f_voices nc1f_step nc1a_parts nc1a_heights ∧ tCP (tmk na_tape nf_length nf_fault nf_place na_counts nl0f_huts nl0f_singers nl0f_villages nl0f_dams nl0f_echoes nl0f_deep nl0f_slide nl0a_heights nl0a_ladders nl0a_minutes nl0a_echoFrom nl0a_echoTo nl0a_homes nl0a_talls nl0a_known nl1f_huts nl1f_singers nl1f_villages nl1f_dams nl1f_echoes nl1f_deep nl1f_slide nl1a_heights nl1a_ladders nl1a_minutes nl1a_echoFrom nl1a_echoTo nl1a_homes nl1a_talls nl1a_known nv0f_deeds nv0a_kinds nv0a_firsts nv0a_seconds nv1f_deeds nv1a_kinds nv1a_firsts nv1a_seconds ns0f_facts ns0a_heard ns0a_huts ns0a_minutes ns1f_facts ns1a_heard ns1a_huts ns1a_minutes nc0f_voices nc0f_step nc0a_parts nc0a_heights nc1f_voices nc1f_step nc1a_parts nc1a_heights) (tmk ia_tape if_length if_fault if_place ia_counts il0f_huts il0f_singers il0f_villages il0f_dams il0f_echoes il0f_deep il0f_slide il0a_heights il0a_ladders il0a_minutes il0a_echoFrom il0a_echoTo il0a_homes il0a_talls il0a_known il1f_huts il1f_singers il1f_villages il1f_dams il1f_echoes il1f_deep il1f_slide il1a_heights il1a_ladders il1a_minutes il1a_echoFrom il1a_echoTo il1a_homes il1a_talls il1a_known iv0f_deeds iv0a_kinds iv0a_firsts iv0a_seconds iv1f_deeds iv1a_kinds iv1a_firsts iv1a_seconds is0f_facts is0a_heard is0a_huts is0a_minutes is1f_facts is1a_heard is1a_huts is1a_minutes ic0f_voices ic0f_step ic0a_parts ic0a_heights ic1f_voices ic1f_step ic1a_parts ic1a_heights) ∧ wxiW E qx qi na_tape nf_length nf_fault nf_place na_counts nl0f_huts nl0f_singers nl0f_villages nl0f_dams nl0f_echoes nl0f_deep nl0f_slide nl0a_heights nl0a_ladders nl0a_minutes nl0a_echoFrom nl0a_echoTo nl0a_homes nl0a_talls nl0a_known nl1f_huts nl1f_singers nl1f_villages nl1f_dams nl1f_echoes nl1f_deep nl1f_slide nl1a_heights nl1a_ladders nl1a_minutes nl1a_echoFrom nl1a_echoTo nl1a_homes nl1a_talls nl1a_known nv0f_deeds nv0a_kinds nv0a_firsts nv0a_seconds nv1f_deeds nv1a_kinds nv1a_firsts nv1a_seconds ns0f_facts ns0a_heard ns0a_huts ns0a_minutes ns1f_facts ns1a_heard ns1a_huts ns1a_minutes nc0f_voices nc0f_step nc0a_parts nc0a_heights nc1f_voices nc1f_step nc1a_parts nc1a_heights m_images rlf_huts rlf_singers rlf_villages rlf_dams rlf_echoes rlf_deep rlf_slide rla_heights rla_ladders rla_minutes rla_echoFrom rla_echoTo rla_homes rla_talls rla_known rvf_deeds rva_kinds rva_firsts rva_seconds rsf_facts rsa_heard rsa_huts rsa_minutes rcf_voices rcf_step rca_parts rca_heights rf_fault rf_faultPlace ra_numbers ra_tape rf_length rf_behind rf_kind rf_first rf_value rf_hutsToldOf rf_singersToldOf nf_minute nf_avalanches nf_begun nf_climbed nf_seed na_huts na_known na_levels na_snow na_open pa_heard pa_walked pa_total pa_longest pa_next pa_cover pa_now pa_then ko_stands ka_gaps ka_behind ba_less ba_full ia_tape if_length if_fault if_place ia_counts il0f_huts il0f_singers il0f_villages il0f_dams il0f_echoes il0f_deep il0f_slide il0a_heights il0a_ladders il0a_minutes il0a_echoFrom il0a_echoTo il0a_homes il0a_talls il0a_known il1f_huts il1f_singers il1f_villages il1f_dams il1f_echoes il1f_deep il1f_slide il1a_heights il1a_ladders il1a_minutes il1a_echoFrom il1a_echoTo il1a_homes il1a_talls il1a_known iv0f_deeds iv0a_kinds iv0a_firsts iv0a_seconds iv1f_deeds iv1a_kinds iv1a_firsts iv1a_seconds is0f_facts is0a_heard is0a_huts is0a_minutes is1f_facts is1a_heard is1a_huts is1a_minutes ic0f_voices ic0f_step ic0a_parts ic0a_heights ic1f_voices ic1f_step ic1a_parts ic1a_heights H) (wttA (qx + 1) qi)) 0 0 (wttA (qx + 1) qi) := by
  refine Met.ofW (cc := cX10_again) (maxL := 2) (ret := (some .boolean)) (by decide) rfl ?_
  intro p e s m args below meth c s₁ B hml hv
  obtain ⟨rfl, hM, hK⟩ := hv
  have zc := zc_of B hml
  have hx := zc.1
  have hb := zc.2.1
  have hl := lv_entry ([.ref qx, .int x1]) (n := 2) (Nat.le_of_ble_eq_true rfl)
  rw [lg_entry_eq]
  generalize (lg_sl ([.ref qx, .int x1]) ++ List.replicate (2 - (lg_sl ([.ref qx, .int x1])).length) Slot.unset).toArray = ls at hl ⊢
  have hl : lv_has ls 2 [(0, .ref qx), (1, .int x1)] := hl
  have hMx := xi_x hM
  have hS : va_S (wttA (qx + 1) qi) s.heap s.heap [] := va_S.rf
  have hsub : ∀ q, wttA (qx + 1) qi q → wttA (qx + 1) qi q := fun _ h => h
  have hin : vp_in x1 3 := iv_in (iv_lta (l := 0) (h := 2) (r_lt hr.2) (iv_leb (l := 0) (h := 2147483647) (r_nlt hr.1) (iv_lit (x := 0) (l := 0) (h := 0) (by decide)) (iv_top x1) (by decide)) (iv_lit (x := 3) (l := 3) (h := 3) (by decide)) (by decide)) (by decide)
  refine lv_iload_n hx hb dX10_again_0 rfl (lv_at hl 1 rfl) ?_
  refine lv_if_lt (tgt := 18) hx hb dX10_again_1 (by decide) (fun hc => absurd hc hr.1) (fun hc => ?_)
  refine lv_iload_n hx hb dX10_again_4 rfl (lv_at hl 1 rfl) ?_
  refine lv_iconst (v := (3 : Int32)) hx hb dX10_again_5 (by decide) ?_
  refine lv_icmp_ge (tgt := 18) hx hb dX10_again_6 (by decide) (fun hd => absurd hr.2 (Int32.not_lt.mpr hd)) (fun hd => ?_)
  refine lv_aload_n hx hb dX10_again_9 rfl (lv_at hl 0 rfl) ?_
  refine va_get (D := E.1) (ci := 10) (v := .ref (qx + 48)) (C := RX10) (T := TX10) (N := 7) hx hb zc.2.2.2.2.1 uw10 zc.2.2.2.1 hK.1 hMx 0 rfl rfl 1 (by decide) (zc.2.2.2.2.1 _ kf_10_16) (fun _ h9 => h9) rfl dX10_again_10 ?_
  refine lv_iload_n hx hb dX10_again_13 rfl (lv_at hl 1 rfl) ?_
  refine va_aldq hx hb hK.1 hMx 48 8 rfl rfl hin dX10_again_14 ?_
  rw [hm]
  refine W.eq (g2 := F0 m 15 ls (.ref qi :: [])) rfl ?_
  refine lv_ifnonnull (tgt := 20) hx hb dX10_again_15 (by decide) ?_
  refine lv_aload_n hx hb dX10_again_20 rfl (lv_at hl 0 rfl) ?_
  refine va_get (D := E.1) (ci := 10) (v := .ref (qx + 1)) (C := RX10) (T := TX10) (N := 7) hx hb zc.2.2.2.2.1 uw10 zc.2.2.2.1 hK.1 hMx 0 rfl rfl 0 (by decide) (zc.2.2.2.2.1 _ kf_10_10) (fun _ h9 => h9) rfl dX10_again_21 ?_
  refine lv_aload_n hx hb dX10_again_24 rfl (lv_at hl 0 rfl) ?_
  refine va_get (D := E.1) (ci := 10) (v := .ref (qx + 48)) (C := RX10) (T := TX10) (N := 7) hx hb zc.2.2.2.2.1 uw10 zc.2.2.2.1 hK.1 hMx 0 rfl rfl 1 (by decide) (zc.2.2.2.2.1 _ kf_10_16) (fun _ h9 => h9) rfl dX10_again_25 ?_
  refine lv_iload_n hx hb dX10_again_28 rfl (lv_at hl 1 rfl) ?_
  refine va_aldq hx hb hK.1 hMx 48 8 rfl rfl hin dX10_again_29 ?_
  rw [hm]
  refine W.eq (g2 := F0 m 30 ls (.ref qi :: .ref (qx + 1) :: [])) rfl ?_
  refine zVa_v [.ref qi] [] zc ky_X9_copyFrom kz_X9_copyFrom km_10_323 (c_wtt_X9_copyFrom_47 l (post := fun na_tape nf_length nf_fault nf_place na_counts nl0f_huts nl0f_singers nl0f_villages nl0f_dams nl0f_echoes nl0f_deep nl0f_slide nl0a_heights nl0a_ladders nl0a_minutes nl0a_echoFrom nl0a_echoTo nl0a_homes nl0a_talls nl0a_known nl1f_huts nl1f_singers nl1f_villages nl1f_dams nl1f_echoes nl1f_deep nl1f_slide nl1a_heights nl1a_ladders nl1a_minutes nl1a_echoFrom nl1a_echoTo nl1a_homes nl1a_talls nl1a_known nv0f_deeds nv0a_kinds nv0a_firsts nv0a_seconds nv1f_deeds nv1a_kinds nv1a_firsts nv1a_seconds ns0f_facts ns0a_heard ns0a_huts ns0a_minutes ns1f_facts ns1a_heard ns1a_huts ns1a_minutes nc0f_voices nc0f_step nc0a_parts nc0a_heights nc1f_voices nc1f_step nc1a_parts nc1a_heights => tG na_tape nf_length nf_fault nf_place na_counts nl0f_huts nl0f_singers nl0f_villages nl0f_dams nl0f_echoes nl0f_deep nl0f_slide nl0a_heights nl0a_ladders nl0a_minutes nl0a_echoFrom nl0a_echoTo nl0a_homes nl0a_talls nl0a_known nl1f_huts nl1f_singers nl1f_villages nl1f_dams nl1f_echoes nl1f_deep nl1f_slide nl1a_heights nl1a_ladders nl1a_minutes nl1a_echoFrom nl1a_echoTo nl1a_homes nl1a_talls nl1a_known nv0f_deeds nv0a_kinds nv0a_firsts nv0a_seconds nv1f_deeds nv1a_kinds nv1a_firsts nv1a_seconds ns0f_facts ns0a_heard ns0a_huts ns0a_minutes ns1f_facts ns1a_heard ns1a_huts ns1a_minutes nc0f_voices nc0f_step nc0a_parts nc0a_heights nc1f_voices nc1f_step nc1a_parts nc1a_heights ∧ tCP (tmk na_tape nf_length nf_fault nf_place na_counts nl0f_huts nl0f_singers nl0f_villages nl0f_dams nl0f_echoes nl0f_deep nl0f_slide nl0a_heights nl0a_ladders nl0a_minutes nl0a_echoFrom nl0a_echoTo nl0a_homes nl0a_talls nl0a_known nl1f_huts nl1f_singers nl1f_villages nl1f_dams nl1f_echoes nl1f_deep nl1f_slide nl1a_heights nl1a_ladders nl1a_minutes nl1a_echoFrom nl1a_echoTo nl1a_homes nl1a_talls nl1a_known nv0f_deeds nv0a_kinds nv0a_firsts nv0a_seconds nv1f_deeds nv1a_kinds nv1a_firsts nv1a_seconds ns0f_facts ns0a_heard ns0a_huts ns0a_minutes ns1f_facts ns1a_heard ns1a_huts ns1a_minutes nc0f_voices nc0f_step nc0a_parts nc0a_heights nc1f_voices nc1f_step nc1a_parts nc1a_heights) (tmk ia_tape if_length if_fault if_place ia_counts il0f_huts il0f_singers il0f_villages il0f_dams il0f_echoes il0f_deep il0f_slide il0a_heights il0a_ladders il0a_minutes il0a_echoFrom il0a_echoTo il0a_homes il0a_talls il0a_known il1f_huts il1f_singers il1f_villages il1f_dams il1f_echoes il1f_deep il1f_slide il1a_heights il1a_ladders il1a_minutes il1a_echoFrom il1a_echoTo il1a_homes il1a_talls il1a_known iv0f_deeds iv0a_kinds iv0a_firsts iv0a_seconds iv1f_deeds iv1a_kinds iv1a_firsts iv1a_seconds is0f_facts is0a_heard is0a_huts is0a_minutes is1f_facts is1a_heard is1a_huts is1a_minutes ic0f_voices ic0f_step ic0a_parts ic0a_heights ic1f_voices ic1f_step ic1a_parts ic1a_heights)) (tG_copy3 hT hI (fun _ _ _ _ _ _ _ _ _ _ _ _ _ _ _ _ _ _ _ _ _ _ _ _ _ _ _ _ _ _ _ _ _ _ _ _ _ _ _ _ _ _ _ _ _ _ _ _ _ _ _ _ _ _ _ _ _ _ _ h1 h2 => ⟨h1, h2⟩))) (wttPreV0 hK (pj_wxi_wtt_1_93 hM)) hS hsub rfl rfl hl.1 (Nat.le_of_ble_eq_true rfl) ⟨rfl, rfl⟩ ⟨(Nat.le_of_ble_eq_true rfl), (Nat.le_of_ble_eq_true rfl)⟩ ⟨Nat.le_refl _, Nat.le_refl _⟩ dX10_again_30 (fun u H4 locs hw hB hsz hk hS => ?_)
  have hM := jn_wxi_wtt_1_93 hM hB hk
  refine lv_iconst (v := (1 : Int32)) hx hb dX10_again_33 (by decide) ?_
  exact zret_zw () zc hS rfl rfl ⟨_, _, _, _, _, _, _, _, _, _, _, _, _, _, _, _, _, _, _, _, _, _, _, _, _, _, _, _, _, _, _, _, _, _, _, _, _, _, _, _, _, _, _, _, _, _, _, _, _, _, _, _, _, _, _, _, _, _, _, hw.1, hw.2, hM⟩ dX10_again_34
end
section
/-- bits of a number -/
def hb (s : Int32) (k : Nat) : Bool := s.toBitVec.getLsbD k
theorem sm_tab : ∀ k, k < 31 → ((nI k).toBitVec.smod 32).toNat = k := by decide +kernel
theorem hb_sh {s : Int32} {k : Nat} (hk : k < 31) : (s >>> (nI k &&& 31)) &&& 1 = if hb s k = true then 1 else 0 := by
  have e : (nI k &&& 31 : Int32) = nI k := by
    rw [pk_andN (n := k) (by omega) (m := 31) 5 (by decide), Nat.mod_eq_of_lt (by omega)]
  have sh : (s >>> nI k).toBitVec = s.toBitVec.sshiftRight k := by
    have h3 : (s >>> nI k).toBitVec = s.toBitVec.sshiftRight' ((nI k).toBitVec.smod 32) := rfl
    rw [h3, BitVec.sshiftRight_eq', sm_tab k hk]
  have g0 : (s >>> nI k).toBitVec.getLsbD 0 = hb s k := by
    unfold hb
    rw [sh, BitVec.getLsbD_sshiftRight]
    simp [show k < 32 by omega]
  have t0 : (s >>> nI k).toBitVec.getLsbD 0 = decide ((s >>> nI k).toBitVec.toNat % 2 = 1) := by
    rw [BitVec.getLsbD, Nat.testBit_zero]
  rw [e, pk_and (s >>> nI k) (m := 1) 1 (by decide), ← g0, t0]
  by_cases h : (s >>> nI k).toBitVec.toNat % 2 = 1
  · rw [decide_eq_true h, if_pos rfl, show (2 : Nat) ^ 1 = 2 from rfl, h]; rfl
  · have h2 : (s >>> nI k).toBitVec.toNat % 2 = 0 := by omega
    rw [decide_eq_false h, if_neg (by decide), show (2 : Nat) ^ 1 = 2 from rfl, h2]; rfl
theorem e_hasX {s : Int32} {k : Nat} {post : Int32 → Prop} (hk : k < 31) (h0 : hb s k = false → post 0) (h1 : hb s k = true → post 1) : q_z_X10_has_0 s (nI k) post := by
  unfold q_z_X10_has_0
  rw [hb_sh hk]
  cases h : hb s k with
  | true => rw [if_pos rfl]; exact ⟨fun h9 => absurd h9 (by decide), fun _ => h1 h⟩
  | false => rw [if_neg (by decide)]; exact ⟨fun _ => h0 h, fun h9 => absurd rfl h9⟩
theorem e_damX {s : Int32} {k : Nat} {post : Int32 → Prop} (hk : k < 31) (h0 : hb s k = false → post 0) (h1 : hb s k = true → post 1) : q_wl_X2_isDam_0 s (nI k) post := by
  unfold q_wl_X2_isDam_0
  rw [hb_sh hk]
  cases h : hb s k with
  | true => rw [if_pos rfl]; exact ⟨fun h9 => absurd h9 (by decide), fun _ => h1 h⟩
  | false => rw [if_neg (by decide)]; exact ⟨fun _ => h0 h, fun h9 => absurd rfl h9⟩
theorem e_hasM {s : Int32} {k : Nat} {post : Int32 → Prop} (hk : k < 31) (h0 : hb s k = false → post 0) (h1 : hb s k = true → post 1) : q_m_has_0 s (nI k) post := by
  unfold q_m_has_0
  rw [hb_sh hk]
  cases h : hb s k with
  | true =>
    rw [if_pos rfl]
    first | exact ⟨fun h9 => absurd rfl h9, fun _ => h1 h⟩ | exact ⟨fun _ => h1 h, fun h9 => absurd rfl h9⟩
  | false =>
    rw [if_neg (by decide)]
    first | exact ⟨fun _ => h0 h, fun h9 => absurd h9 (by decide)⟩ | exact ⟨fun h9 => absurd h9 (by decide), fun _ => h0 h⟩
theorem hb_0 (k : Nat) : hb 0 k = false := by
  unfold hb
  rw [show (0 : Int32).toBitVec = 0#32 from rfl, BitVec.getLsbD_zero]
theorem hb_or (s t : Int32) (k : Nat) : hb (s ||| t) k = (hb s k || hb t k) := by
  unfold hb
  rw [Int32.toBitVec_or, BitVec.getLsbD_or]
theorem hb_and (s t : Int32) (k : Nat) : hb (s &&& t) k = (hb s k && hb t k) := by
  unfold hb
  rw [Int32.toBitVec_and, BitVec.getLsbD_and]
theorem hb_not (t : Int32) {k : Nat} (hk : k < 32) : hb (t ^^^ (-1)) k = !hb t k := by
  unfold hb
  rw [Int32.toBitVec_xor, BitVec.getLsbD_xor, show (-1 : Int32).toBitVec = BitVec.allOnes 32 from by decide, BitVec.getLsbD_allOnes]
  simp [hk]
theorem hb_bit_tab : ((List.range 31).all fun i => (List.range 31).all fun k => hb ((1 : Int32) <<< (nI i &&& 31)) k == decide (i = k)) = true := by decide +kernel
theorem hb_bit {i k : Nat} (hi : i < 31) (hk : k < 31) : hb ((1 : Int32) <<< (nI i &&& 31)) k = decide (i = k) := by
  have h := List.all_eq_true.mp (List.all_eq_true.mp hb_bit_tab i (List.mem_range.mpr hi)) k (List.mem_range.mpr hk)
  exact eq_of_beq h
/-- a set of bits below n -/
theorem hb_ext {s t : Int32} {n : Nat} (hs : iv 0 (2 ^ n - 1 : Nat) s) (ht : iv 0 (2 ^ n - 1 : Nat) t) (hn : n ≤ 30) (h : ∀ k, k < n → hb s k = hb t k) : s = t := by
  obtain ⟨a, rfl, -, ha, -⟩ := iv_nI hs (by decide)
  obtain ⟨b, rfl, -, hb', -⟩ := iv_nI ht (by decide)
  have h2 : 2 ^ n ≤ 2 ^ 30 := Nat.pow_le_pow_right (by decide) hn
  have h0 : 0 < 2 ^ n := Nat.two_pow_pos n
  have tb : ∀ (m k : Nat), m < 2 ^ 31 → hb (nI m) k = m.testBit k := by
    intro m k hm
    unfold hb
    rw [BitVec.getLsbD, iv_tn hm]
  have e : a = b := by
    apply Nat.eq_of_testBit_eq
    intro k
    by_cases hk : k < n
    · rw [← tb a k (by omega), ← tb b k (by omega)]
      exact h k hk
    · have ha2 : a < 2 ^ k := Nat.lt_of_lt_of_le (by omega) (Nat.pow_le_pow_right (by decide) (Nat.le_of_not_lt hk))
      have hb2 : b < 2 ^ k := Nat.lt_of_lt_of_le (by omega) (Nat.pow_le_pow_right (by decide) (Nat.le_of_not_lt hk))
      rw [Nat.testBit_lt_two_pow ha2, Nat.testBit_lt_two_pow hb2]
  rw [e]
end
section
/-- a state of an evening: rows 0 at, 1 knows, 2 climbed, 3 snow, 4 level, 5 (begun, minute, avalanches) -/
def smk (at_ kn cl sn lv : Nat → Int32) (be mi av : Int32) : Nat → Nat → Int32 := fun r => match r with | 0 => at_ | 1 => kn | 2 => cl | 3 => sn | 4 => lv | 5 => (fun j => if j = 0 then be else if j = 1 then mi else av) | _ => fun _ => 0
def bitI (k : Nat) : Int32 := (1 : Int32) <<< (nI k &&& 31)
def cN (x : Int32) : Nat := x.toNatClampNeg
/-- how high a singer is -/
def hgh (td : Nat → Int32) (at_ cl : Nat → Int32) (s : Nat) : Int32 := (td (7 + cN (at_ s)) - td (31 + s)) + cl s * td (16 + cN (at_ s))
def dam (td : Nat → Int32) (h : Nat) : Bool := hb (td 3) h
def ech (td : Nat → Int32) (h x : Nat) : Nat → Bool
  | 0 => false
  | k + 1 => ech td h x k || (decide (td (43 + 2 * k) = nI h) && decide (td (44 + 2 * k) = nI x))
/-- whether a song that sounds in h is heard in x -/
def hear (td : Nat → Int32) (h x : Nat) : Bool := !dam td x && (decide (x = h) || ech td h x (cN (td 4)))
def knS (td at_ kn : Nat → Int32) (s t : Nat) : Nat → Int32 := fun o => if o < cN (td 1) ∧ hear td (cN (at_ s)) (cN (at_ o)) = true then kn o ||| bitI t else kn o
/-- begin, sing, whistle: who may -/
def mayR (td at_ kn : Nat → Int32) (be : Int32) (s : Nat) (x : Int32) (b : Bool) : Bool := decide (0 ≤ x ∧ x < 5) && hb (kn s) (cN x) && (hb be (cN x) == b) && !dam td (cN (at_ s))
def wrongR (td at_ cl lv : Nat → Int32) (s t : Nat) (whi : Bool) : Bool := decide (lv t < hgh td at_ cl s) || (!whi && decide (hgh td at_ cl s = lv t))
def rais (td at_ kn cl sn lv : Nat → Int32) (be mi av : Int32) (s t : Nat) (w : Bool) : Nat → Nat → Int32 :=
  smk at_ (knS td at_ kn s t) cl (upd sn (cN (at_ s)) (sn (cN (at_ s)) + (if w = true then 1 else 0))) (upd lv t (hgh td at_ cl s)) (be ||| bitI t) mi (av + (if w = true then 1 else 0))
def mayW (td at_ cl sn : Nat → Int32) (s : Nat) (x : Int32) : Bool := decide (0 ≤ x ∧ x < td 0) && !decide (td (51 + 9 * cN (at_ s) + cN x) = 0) && !decide (cl s = 1) && decide (sn (cN (at_ s)) < td 5) && decide (sn (cN x) < td 5)
/-- a deed: whether it can be, and the state behind it -/
def act (td : Nat → Int32) (k s x : Int32) (at_ kn cl sn lv : Nat → Int32) (be mi av : Int32) : Bool × (Nat → Nat → Int32) :=
  if ¬ (0 ≤ s ∧ s < td 1) then (false, smk at_ kn cl sn lv be mi av)
  else if k = 0 then (if mayR td at_ kn be (cN s) x false = true then (true, smk at_ (knS td at_ kn (cN s) (cN x)) cl sn (upd lv (cN x) (hgh td at_ cl (cN s))) (be ||| bitI (cN x)) mi av) else (false, smk at_ kn cl sn lv be mi av))
  else if k = 1 ∨ k = 2 then (if mayR td at_ kn be (cN s) x true = true then (true, rais td at_ kn cl sn lv be mi av (cN s) (cN x) (wrongR td at_ cl lv (cN s) (cN x) (decide (k = 2)))) else (false, smk at_ kn cl sn lv be mi av))
  else if k = 3 then (if mayW td at_ cl sn (cN s) x = true then (true, smk (upd at_ (cN s) x) kn cl sn lv be (mi + td (51 + 9 * cN (at_ (cN s)) + cN x)) av) else (false, smk at_ kn cl sn lv be mi av))
  else if k = 4 then (if ¬ td (16 + cN (at_ (cN s))) = 0 ∧ ¬ cl (cN s) = 1 then (true, smk at_ kn (upd cl (cN s) 1) sn lv be mi av) else (false, smk at_ kn cl sn lv be mi av))
  else (if ¬ cl (cN s) = 0 then (true, smk at_ kn (upd cl (cN s) 0) sn lv be mi av) else (false, smk at_ kn cl sn lv be mi av))
end
section
/-- the land's row of the reference -/
abbrev tdM (M : Nat → Nat → Int32) (k : Nat) : Nat → Int32 := rowM M 0 (nI k)
theorem cN_nI {n : Nat} (h : n < 2 ^ 31) : cN (nI n) = n := nI_clamp h
theorem e_highM {M : Nat → Nat → Int32} {at_ cl : Nat → Int32} {k s : Nat} {post : Int32 → Prop} (hk : k < 2) (hs : s < 6) (ha : iv 0 8 (at_ s)) (hp : post (hgh (tdM M k) at_ cl s)) : q_m_high_0 (M 5) (nI k) at_ cl (nI s) post := by
  have hin : vp_in (nI s) 6 := vp_in_nI hs (by omega)
  obtain ⟨a, ea, -, ha8, -⟩ := iv_nI ha (by decide)
  unfold hgh at hp
  rw [ea, cN_nI (by omega)] at hp
  refine ⟨hin, ?_⟩
  rw [nI_clamp (by omega), ea]
  refine e_of (i := 7 + a) hk (by omega) (jx 7 a) ?_
  refine e_of (i := 31 + s) hk (by omega) (jx 31 s) ⟨hin, hin, ?_⟩
  exact e_of (i := 16 + a) hk (by omega) (jx 16 a) hp
theorem e_damM {M : Nat → Nat → Int32} {k h : Nat} {post : Int32 → Prop} (hk : k < 2) (hh : h < 31) (h0 : dam (tdM M k) h = false → post 0) (h1 : dam (tdM M k) h = true → post 1) : q_m_isDam_0 (M 5) (nI k) (nI h) post :=
  e_of (i := 3) hk (by omega) rfl (e_hasM hh (fun e => ⟨rfl, h0 e⟩) (fun e => ⟨rfl, h1 e⟩))
theorem e_cutM {M : Nat → Nat → Int32} {sn : Nat → Int32} {k h : Nat} {post : Int32 → Prop} (hk : k < 2) (hh : h < 9) (h0 : sn h < tdM M k 5 → post 0) (h1 : ¬ sn h < tdM M k 5 → post 1) : q_m_isCut_0 (M 5) (nI k) sn (nI h) post := by
  refine ⟨vp_in_nI hh (by omega), e_of (i := 5) hk (by omega) rfl ?_⟩
  rw [nI_clamp (by omega)]
  exact ⟨h0, h1⟩
theorem e_hearM {M : Nat → Nat → Int32} {k h : Nat} {post : Int32 → Prop} (hk : k < 2) (hh : h < 9) (hL : mLand (M 5)) (hp : ∀ set, (∀ x, x < 31 → hb set x = hear (tdM M k) h x) → post set) : q_m_hearing_0 (M 5) (nI k) (nI h) post := by
  have h4 : iv 0 4 (tdM M k 4) := row_iv hL hk (by omega)
  obtain ⟨c, hc, -, hc4, -⟩ := iv_nI h4 (by decide)
  intro v ev P hP
  have loop : ∀ m j (x2 : Int32), m + j = c → (∀ x, x < 31 → hb x2 x = (decide (x = h) || ech (tdM M k) h x j)) → P x2 (nI j) := by
    intro m
    induction m with
    | zero =>
      intro j x2 hj hx
      apply hP
      refine e_of (i := 4) hk (by omega) rfl ?_
      rw [show rowM M 0 (nI k) 4 = nI c from hc]
      refine pk_le c j (fun _ => e_of (i := 3) hk (by omega) rfl (hp _ (fun x hx9 => ?_))) (fun h9 => absurd h9 (by omega))
      rw [hb_and, hb_not _ (by omega), hx x hx9]
      unfold hear
      rw [hc, cN_nI (by omega), show c = j by omega, Bool.and_comm]
      rfl
    | succ m ih =>
      intro j x2 hj hx
      apply hP
      refine e_of (i := 4) hk (by omega) rfl ?_
      rw [show rowM M 0 (nI k) 4 = nI c from hc]
      refine pk_le c j (fun h9 => absurd h9 (by omega)) (fun _ => ?_)
      have hi : (43 : Int32) + 2 * nI j = nI (43 + 2 * j) := by rw [show (43 : Int32) = nI 43 from rfl, show (2 : Int32) = nI 2 from rfl, pk_mul, nI_add]
      have st : ∀ y : Int32, (∀ x, x < 31 → hb y x = (decide (tdM M k (43 + 2 * j) = nI h) && decide (tdM M k (44 + 2 * j) = nI x))) → q_m_hearing_48 P (M 5) (nI k) (nI h) (nI j) x2 y post := by
        intro y hy v1 e1 v2 e2
        rw [e1, e2, nI_1]
        refine ih (j + 1) _ (by omega) (fun x hx9 => ?_)
        rw [hb_or, hx x hx9, hy x hx9]
        show _ = (decide (x = h) || (ech (tdM M k) h x j || _))
        rw [Bool.or_assoc]
      refine e_of (i := 43 + 2 * j) hk (by omega) hi ⟨fun hne => st 0 (fun x hx9 => ?_), fun he => ?_⟩
      · rw [hb_0, decide_eq_false hne]; rfl
      · have hy8 : iv 0 8 (tdM M k (44 + 2 * j)) := iv_w (row_iv hL hk (by omega)) (by
          have : mRh (44 + 2 * j) = 8 := by
            have hj4 : j < 4 := by omega
            have hc : j = 0 ∨ j = 1 ∨ j = 2 ∨ j = 3 := by omega
            rcases hc with rfl | rfl | rfl | rfl <;> decide
          rw [this]; decide)
        obtain ⟨y, ey, -, hy, -⟩ := iv_nI hy8 (by decide)
        refine e_of (i := 44 + 2 * j) hk (by omega) (by rw [hi, nI_1, show 43 + 2 * j + 1 = 44 + 2 * j by omega]) (st _ (fun x hx9 => ?_))
        rw [show rowM M 0 (nI k) (44 + 2 * j) = nI y from ey, ey, hb_bit (by omega) hx9, decide_eq_true (show tdM M k (43 + 2 * j) = nI h from he), Bool.true_and]
        by_cases hxy : y = x
        · subst hxy; rw [decide_eq_true rfl, decide_eq_true rfl]
        · rw [decide_eq_false hxy, decide_eq_false (fun h9 => hxy ((nI_eq (by omega) (by omega)).mp h9))]
  have h0 := loop c 0 v (by omega) (fun x hx => ?_)
  · exact h0
  · rw [ev, hb_bit (by omega) hx]
    show decide (h = x) = (decide (x = h) || false)
    rw [Bool.or_false]
    by_cases hxh : h = x
    · rw [decide_eq_true hxh, decide_eq_true hxh.symm]
    · rw [decide_eq_false hxh, decide_eq_false (fun h9 => hxh h9.symm)]
/-- the state's ranges -/
def nR (at_ kn cl sn lv : Nat → Int32) : Prop := (∀ j, j < 6 → iv 0 8 (at_ j)) ∧ (∀ j, j < 6 → cl j = 0 ∨ cl j = 1)
theorem e_soundsM {M : Nat → Nat → Int32} {at_ kn cl lv : Nat → Int32} {be : Int32} {k s t : Nat} {post : (Nat → Int32) → (Nat → Int32) → Int32 → Prop} (hk : k < 2) (hs : s < 6) (ht : t < 5) (hL : mLand (M 5)) (ha : ∀ j, j < 6 → iv 0 8 (at_ j)) (hp : post (knS (tdM M k) at_ kn s t) (upd lv t (hgh (tdM M k) at_ cl s)) (be ||| bitI t)) : q_m_sounds_0 (M 5) (nI k) (tdM M k 1) at_ kn cl lv be (nI s) (nI t) post := by
  have h1 : iv 0 6 (tdM M k 1) := row_iv hL hk (by omega)
  obtain ⟨c, hc, -, hc6, -⟩ := iv_nI h1 (by decide)
  obtain ⟨a, ea, -, ha8, -⟩ := iv_nI (ha s hs) (by decide)
  refine ⟨vp_in_nI hs (by omega), ?_⟩
  rw [nI_clamp (by omega), ea]
  refine e_hearM hk (by omega) hL (fun set hset => e_highM hk hs (ha s hs) ⟨vp_in_nI ht (by omega), fun lv1 e1 v e2 => ?_⟩)
  rw [nI_clamp (by omega)] at e1
  subst e1
  have e3 : v = be ||| bitI t := e2
  subst e3
  intro P hP
  have loop : ∀ m o (kn1 : Nat → Int32), m + o = c → (∀ j, kn1 j = if j < o ∧ hear (tdM M k) a (cN (at_ j)) = true then kn j ||| bitI t else kn j) → P (nI o) kn1 := by
    intro m
    induction m with
    | zero =>
      intro o kn1 ho hq
      apply hP
      rw [hc]
      refine pk_le c o (fun _ => ?_) (fun h9 => absurd h9 (by omega))
      have e : kn1 = knS (tdM M k) at_ kn s t := by
        funext j
        rw [hq j]
        unfold knS
        rw [hc, cN_nI (by omega), ea, cN_nI (by omega), show c = o by omega]
      rw [e]
      exact hp
    | succ m ih =>
      intro o kn1 ho hq
      apply hP
      have hin : vp_in (nI o) 6 := vp_in_nI (by omega) (by omega)
      rw [hc]
      refine pk_le c o (fun h9 => absurd h9 (by omega)) (fun _ => ⟨hin, hin, ?_⟩)
      rw [nI_clamp (by omega)]
      obtain ⟨b, eb, -, hb8, -⟩ := iv_nI (ha o (by omega)) (by decide)
      have hko : kn1 o = kn o := by rw [hq o, if_neg (fun h9 => by omega)]
      have st : ∀ y : Int32, (kn1 o ||| y) = (if hear (tdM M k) a b = true then kn o ||| bitI t else kn o) → q_m_sounds_75 P (M 5) (nI k) (nI c) at_ kn1 cl (upd lv t (hgh (tdM M k) at_ cl s)) (be ||| bitI t) (nI t) set (nI o) (nI o) (kn1 o) y post := by
        intro y hy v1 e1
        refine ⟨hin, fun k1 e2 v2 e3 => ?_⟩
        rw [nI_clamp (by omega), e1, hy] at e2
        rw [e3, nI_1, e2]
        refine ih (o + 1) _ (by omega) (fun j => ?_)
        by_cases hjo : j = o
        · subst hjo
          rw [up_s, eb, cN_nI (by omega)]
          by_cases hh : hear (tdM M k) a b = true
          · rw [if_pos hh, if_pos ⟨by omega, hh⟩]
          · rw [if_neg hh, if_neg (fun h9 => hh h9.2)]
        · rw [up_n hjo, hq j]
          by_cases hh : hear (tdM M k) a (cN (at_ j)) = true
          · by_cases hlt : j < o
            · rw [if_pos ⟨hlt, hh⟩, if_pos ⟨by omega, hh⟩]
            · rw [if_neg (fun h9 => hlt h9.1), if_neg (fun h9 => by omega)]
          · rw [if_neg (fun h9 => hh h9.2), if_neg (fun h9 => hh h9.2)]
      rw [eb]
      refine e_hasM (by omega) (fun h9 => iz (st 0 ?_)) (fun h9 => oi (st _ ?_))
      · rw [hset b (by omega)] at h9
        rw [if_neg (by rw [h9]; decide), hko]
        simp
      · rw [hset b (by omega)] at h9
        rw [if_pos h9, hko]
        rfl
  exact loop c 0 kn (by omega) (fun j => by rw [if_neg (fun h9 => by omega)])
theorem kn_hi : ((List.range 32).all fun m => (List.range 31).all fun x => decide (x < 5) || !hb (nI m) x) = true := by decide +kernel
theorem kn_m1 : ∀ m, m < 32 → ((nI m >>> ((-1 : Int32) &&& 31)) &&& 1) = 0 := by decide +kernel
theorem e_hasK {kn x : Int32} {post : Int32 → Prop} (hkn : iv 0 31 kn) (hx : iv (-1) 8 x) (h0 : (decide (0 ≤ x ∧ x < 5) && hb kn (cN x)) = false → post 0) (h1 : ∀ t, t < 5 → x = nI t → hb kn t = true → post 1) : q_m_has_0 kn x post := by
  obtain ⟨m, rfl, -, hm, -⟩ := iv_nI hkn (by decide)
  by_cases hneg : x < 0
  · have e : x = -1 := by
      apply Int32.toInt_inj.mp
      have := r_lt hneg
      have e0 : (0 : Int32).toInt = 0 := rfl
      have em : (-1 : Int32).toInt = -1 := rfl
      have := hx.1
      omega
    have hf := h0 (by rw [decide_eq_false (fun h9 => absurd hneg (Int32.not_lt.mpr h9.1))]; rfl)
    subst e
    unfold q_m_has_0
    rw [kn_m1 m (by omega)]
    exact ⟨fun _ => hf, fun h9 => absurd h9 (by decide)⟩
  · obtain ⟨t, ht, rfl⟩ := nI_of hneg
    have ht8 : t ≤ 8 := by
      have := hx.2
      rw [nI_toInt ht] at this
      omega
    rw [cN_nI ht] at h0
    refine e_hasM (by omega) (fun h9 => h0 (by rw [h9, Bool.and_false])) (fun h9 => ?_)
    have h5 : t < 5 := by
      have g := List.all_eq_true.mp (List.all_eq_true.mp kn_hi m (List.mem_range.mpr (by omega))) t (List.mem_range.mpr (by omega))
      rw [h9] at g
      simpa using g
    exact h1 t h5 rfl h9
theorem e_mayBeginM {M : Nat → Nat → Int32} {at_ kn : Nat → Int32} {be x : Int32} {k s : Nat} {post : Int32 → Prop} (hk : k < 2) (hs : s < 6) (ha : iv 0 8 (at_ s)) (hkn : iv 0 31 (kn s)) (hx : iv (-1) 8 x) (h0 : mayR (tdM M k) at_ kn be s x false = false → post 0) (h1 : mayR (tdM M k) at_ kn be s x false = true → post 1) : q_m_mayBegin_0 (M 5) (nI k) at_ kn be (nI s) x post := by
  have hin : vp_in (nI s) 6 := vp_in_nI hs (by omega)
  obtain ⟨a, ea, -, ha8, -⟩ := iv_nI ha (by decide)
  unfold mayR at h0 h1
  refine ⟨hin, ?_⟩
  rw [nI_clamp (by omega)]
  refine e_hasK hkn hx (fun h9 => iz (h0 (by rw [h9]; rfl))) (fun t ht ex h9 => oi ?_)
  subst ex
  rw [cN_nI (by omega), h9, decide_eq_true (show 0 ≤ nI t ∧ nI t < 5 from ⟨nI_pos' (by omega), nI_lt (b := 5) ht (by omega)⟩), ea, cN_nI (by omega)] at h0 h1
  refine e_hasM (by omega) (fun hb0 => zi ⟨hin, ?_⟩) (fun hb1 => io (h0 (by rw [hb1]; rfl)))
  rw [ea]
  rw [hb0] at h0 h1
  exact e_damM hk (by omega) (fun hd => zi (h1 (by rw [hd]; rfl))) (fun hd => io (h0 (by rw [hd]; rfl)))
theorem e_maySingM {M : Nat → Nat → Int32} {at_ kn : Nat → Int32} {be x : Int32} {k s : Nat} {post : Int32 → Prop} (hk : k < 2) (hs : s < 6) (ha : iv 0 8 (at_ s)) (hkn : iv 0 31 (kn s)) (hx : iv (-1) 8 x) (h0 : mayR (tdM M k) at_ kn be s x true = false → post 0) (h1 : mayR (tdM M k) at_ kn be s x true = true → post 1) : q_m_maySing_0 (M 5) (nI k) at_ kn be (nI s) x post := by
  have hin : vp_in (nI s) 6 := vp_in_nI hs (by omega)
  obtain ⟨a, ea, -, ha8, -⟩ := iv_nI ha (by decide)
  unfold mayR at h0 h1
  refine ⟨hin, ?_⟩
  rw [nI_clamp (by omega)]
  refine e_hasK hkn hx (fun h9 => iz (h0 (by rw [h9]; rfl))) (fun t ht ex h9 => oi ?_)
  subst ex
  rw [cN_nI (by omega), h9, decide_eq_true (show 0 ≤ nI t ∧ nI t < 5 from ⟨nI_pos' (by omega), nI_lt (b := 5) ht (by omega)⟩), ea, cN_nI (by omega)] at h0 h1
  refine e_hasM (by omega) (fun hb0 => iz (h0 (by rw [hb0]; rfl))) (fun hb1 => oi ⟨hin, ?_⟩)
  rw [ea]
  rw [hb1] at h0 h1
  exact e_damM hk (by omega) (fun hd => zi (h1 (by rw [hd]; rfl))) (fun hd => io (h0 (by rw [hd]; rfl)))
theorem mayR_x {td at_ kn : Nat → Int32} {be x : Int32} {s : Nat} {b : Bool} (h : mayR td at_ kn be s x b = true) : ∃ t, t < 5 ∧ x = nI t := by
  unfold mayR at h
  simp only [Bool.and_eq_true, decide_eq_true_eq] at h
  exact lt_nI (c := 5) (m := 5) (iv_lit (by decide)) h.1.1.1
theorem e_singsM {M : Nat → Nat → Int32} {at_ kn cl sn lv : Nat → Int32} {be av : Int32} {k s t : Nat} {w : Bool} {wi : Int32} {post : (Nat → Int32) → (Nat → Int32) → (Nat → Int32) → Int32 → Int32 → Prop} (hk : k < 2) (hs : s < 6) (ht : t < 5) (hL : mLand (M 5)) (ha : ∀ j, j < 6 → iv 0 8 (at_ j)) (hw : wi = if w = true then 1 else 0)
    (hp : ∀ g, g = wrongR (tdM M k) at_ cl lv s t w → post (knS (tdM M k) at_ kn s t) (upd sn (cN (at_ s)) (sn (cN (at_ s)) + (if g = true then 1 else 0))) (upd lv t (hgh (tdM M k) at_ cl s)) (be ||| bitI t) (av + (if g = true then 1 else 0))) : q_m_sings_0 (M 5) (nI k) (tdM M k 1) at_ kn cl sn lv be av (nI s) (nI t) wi post := by
  obtain ⟨a, ea, -, ha8, -⟩ := iv_nI (ha s hs) (by decide)
  have hin : vp_in (nI s) 6 := vp_in_nI hs (by omega)
  have hin5 : vp_in (nI t) 5 := vp_in_nI ht (by omega)
  have s37 : ∀ (g : Bool) (y : Int32), y = (if g = true then 1 else 0) → g = wrongR (tdM M k) at_ cl lv s t w → q_m_sings_37 (M 5) (nI k) (tdM M k 1) at_ kn cl sn lv be av (nI s) (nI t) y post := by
    intro g y hy hg
    have hq := hp g hg
    rw [ea, cN_nI (by omega)] at hq
    have s61 : q_m_sings_61 (M 5) (nI k) (tdM M k 1) at_ kn cl sn lv be av (nI s) (nI t) y (nI a) (sn a) (if g = true then 1 else 0) post := by
      intro v1 e1
      refine ⟨vp_in_nI (by omega) (by omega), fun sn1 e2 => ?_⟩
      rw [nI_clamp (by omega), e1] at e2
      have s78 : q_m_sings_78 (M 5) (nI k) (tdM M k 1) at_ kn cl sn1 lv be av (nI s) (nI t) av (if g = true then 1 else 0) post := by
        intro v2 e3
        refine e_soundsM hk hs ht hL ha ?_
        rw [e3, e2]
        exact hq
      cases g with
      | true =>
        rw [if_pos rfl] at hy s78
        subst hy
        exact ⟨fun h9 => absurd h9 (by decide), fun _ => s78⟩
      | false =>
        rw [if_neg (by decide)] at hy s78
        subst hy
        exact ⟨fun _ => s78, fun h9 => absurd rfl h9⟩
    refine ⟨hin, ?_⟩
    rw [nI_clamp (by omega), ea]
    refine ⟨vp_in_nI (by omega) (by omega), ?_⟩
    rw [nI_clamp (by omega)]
    cases g with
    | true =>
      rw [if_pos rfl] at hy s61
      subst hy
      exact ⟨fun h9 => absurd h9 (by decide), fun _ => s61⟩
    | false =>
      rw [if_neg (by decide)] at hy s61
      subst hy
      exact ⟨fun _ => s61, fun h9 => absurd rfl h9⟩
  refine e_highM hk hs (ha s hs) ⟨hin5, ?_⟩
  rw [nI_clamp (by omega)]
  unfold wrongR at s37
  refine ⟨fun hlt => s37 true 1 rfl (by rw [decide_eq_true hlt]; rfl), fun hlt => ⟨fun hw1 => s37 false 0 rfl ?_, fun hw0 => ?_⟩⟩
  · have e : w = true := by
      cases w with
      | true => rfl
      | false => rw [if_neg (by decide)] at hw; exact absurd hw hw1
    rw [decide_eq_false hlt, e]; rfl
  · have e : w = false := by
      cases w with
      | true => rw [if_pos rfl] at hw; rw [hw] at hw0; exact absurd hw0 (by decide)
      | false => rfl
    refine e_highM hk hs (ha s hs) ⟨hin5, ?_⟩
    refine ⟨fun hne => s37 false 0 rfl (by rw [decide_eq_false hlt, decide_eq_false hne, e]; rfl), fun he => s37 true 1 rfl (by rw [decide_eq_true he, e]; simp)⟩
end
section
theorem e_walksM {M : Nat → Nat → Int32} {at_ cl sn : Nat → Int32} {mi x : Int32} {k s : Nat} {post : Int32 → (Nat → Int32) → Int32 → Prop} (hk : k < 2) (hs : s < 6) (hL : mLand (M 5)) (ha : iv 0 8 (at_ s)) (h0 : mayW (tdM M k) at_ cl sn s x = false → post 0 at_ mi) (h1 : mayW (tdM M k) at_ cl sn s x = true → post 1 (upd at_ s x) (mi + tdM M k (51 + 9 * cN (at_ s) + cN x))) : q_m_walks_0 (M 5) (nI k) (tdM M k 0) at_ cl sn mi (nI s) x post := by
  obtain ⟨a, ea, -, ha8, -⟩ := iv_nI ha (by decide)
  have hin : vp_in (nI s) 6 := vp_in_nI hs (by omega)
  have b0 : iv 0 9 (tdM M k 0) := row_iv hL hk (by omega)
  unfold mayW at h0 h1
  unfold q_m_walks_0 q_m_isHut_0
  refine sp_in (fun hn => ⟨rfl, iz ?_⟩) (fun g1 g2 => ⟨rfl, oi ⟨hin, ?_⟩⟩)
  · refine ⟨fun _ => h0 ?_, fun h9 => absurd rfl h9⟩
    rw [decide_eq_false (fun h9 => hn ((in_lt (iv_w b0 (by decide))).mpr h9))]
    simp
  · have hlt := (in_lt (iv_w b0 (by decide) : iv 0 1000 (tdM M k 0))).mp ⟨g1, g2⟩
    obtain ⟨y, hy, ex⟩ := lt_nI (m := 9) b0 hlt
    rw [decide_eq_true hlt] at h0 h1
    rw [ea, ex, cN_nI (by omega), cN_nI (by omega)] at h0 h1
    rw [nI_clamp (by omega), ea, ex]
    refine e_of (i := 51 + 9 * a + y) hk (by omega) (ix9 a y) ?_
    refine ⟨fun hz => h0 ?_, fun hz => ⟨hin, ?_⟩⟩
    · rw [decide_eq_true hz]; simp
    · rw [decide_eq_false hz] at h0 h1
      rw [nI_clamp (by omega)]
      refine ⟨fun hc => h0 (by rw [decide_eq_true hc]; simp), fun hc => ⟨hin, ?_⟩⟩
      rw [decide_eq_false hc] at h0 h1
      rw [ea]
      refine e_cutM hk (by omega) (fun hc1 => zi ?_) (fun hc1 => io (h0 (by rw [decide_eq_false hc1]; simp)))
      rw [decide_eq_true hc1] at h0 h1
      refine e_cutM hk (by omega) (fun hc2 => iz ⟨hin, fun at1 e1 v e2 => ?_⟩) (fun hc2 => oi (h0 (by rw [decide_eq_false hc2]; simp)))
      rw [decide_eq_true hc2] at h1
      rw [e1, e2]
      exact h1 (by simp)
/-- the evening's row of the reference: deed j, number i -/
theorem e_deedOfM {M : Nat → Nat → Int32} {e j i : Nat} {x : Int32} {post : Int32 → Prop} (he : e < 2) (hj : j < 40) (hi : i < 3) (hx : x = nI i) (hp : post (rowM M 1 (nI e) (1 + 3 * j + i))) : q_m_deedOf_0 (M 6) (nI e) (nI j) x post := by
  have e9 : (((121 * nI e) + 1) + (3 * nI j)) + x = nI (121 * e + 1 + 3 * j + i) := by rw [hx]; exact ix3 121
  refine ⟨by rw [e9]; exact vp_in_nI (by omega) (by omega), ?_⟩
  rw [e9, nI_clamp (by omega)]
  unfold rowM at hp
  rw [nI_clamp (by omega)] at hp
  rw [show 121 * e + 1 + 3 * j + i = wD 1 * e + (1 + 3 * j + i) from by show _ = 121 * e + (1 + 3 * j + i); omega]
  exact hp
abbrev NT : Type := Int32 → (Nat → Int32) → (Nat → Int32) → (Nat → Int32) → (Nat → Int32) → (Nat → Int32) → Int32 → Int32 → Int32 → Prop
/-- a post of a state -/
def nP (post : NT) (r : Int32) (S : Nat → Nat → Int32) : Prop := post r (S 0) (S 1) (S 2) (S 3) (S 4) (S 5 0) (S 5 1) (S 5 2)
def bI (b : Bool) : Int32 := if b = true then 1 else 0
/-- deed j of an evening's row -/
def actR (td ev : Nat → Int32) (j : Nat) (at_ kn cl sn lv : Nat → Int32) (be mi av : Int32) : Bool × (Nat → Nat → Int32) := act td (ev (1 + 3 * j)) (ev (2 + 3 * j)) (ev (3 + 3 * j)) at_ kn cl sn lv be mi av
end
section
theorem de_ne {a b : Nat} (h : ¬ b = a) : decide (a = b) = false := decide_eq_false (fun h2 => h h2.symm)
theorem eve_iv {M : Nat → Nat → Int32} {e j : Nat} (hE : mEve (M 6)) (he : e < 2) (hj : j < 40) : iv 0 5 (rowM M 1 (nI e) (1 + 3 * j)) ∧ iv 0 5 (rowM M 1 (nI e) (2 + 3 * j)) ∧ iv (-1) 8 (rowM M 1 (nI e) (3 + 3 * j)) := by
  have g := (hE e (by omega)).2 j hj
  have w : ∀ i, rowM M 1 (nI e) i = M 6 (121 * e + i) := by
    intro i
    unfold rowM
    rw [nI_clamp (by omega)]
    rfl
  rw [w, w, w]
  rw [show 121 * e + (1 + 3 * j) = 121 * e + 1 + 3 * j by omega, show 121 * e + (2 + 3 * j) = 121 * e + 1 + 3 * j + 1 by omega, show 121 * e + (3 + 3 * j) = 121 * e + 1 + 3 * j + 2 by omega]
  exact g
theorem iv_k5 {K : Int32} (hK : iv 0 5 K) (h : K.toInt < 0 ∨ 4 < K.toInt) : K = 5 := by
  apply Int32.toInt_inj.mp
  have := hK.1
  have := hK.2
  have e5 : (5 : Int32).toInt = 5 := rfl
  omega
theorem e_beginM {M : Nat → Nat → Int32} {at_ kn cl sn : Nat → Int32} {be mi av : Int32} {k : Nat} {post : (Nat → Int32) → (Nat → Int32) → (Nat → Int32) → (Nat → Int32) → Int32 → Int32 → Int32 → Prop} (hk : k < 2)
    (hp : ∀ at1 kn1 cl1 sn1, (∀ j, j < 6 → at1 j = tdM M k (25 + j) ∧ kn1 j = tdM M k (37 + j) ∧ cl1 j = 0) → (∀ j, j < 9 → sn1 j = 0) → post at1 kn1 cl1 sn1 0 0 0) : q_m_begin_0 (M 5) (nI k) at_ kn cl sn be mi av post := by
  intro P hP
  have loop : ∀ m i (at1 kn1 cl1 : Nat → Int32), m = 6 - i → i ≤ 6 → (∀ j, j < i → at1 j = tdM M k (25 + j) ∧ kn1 j = tdM M k (37 + j) ∧ cl1 j = 0) → P (nI i) at1 kn1 cl1 := by
    intro m
    induction m using Nat.strongRecOn with
    | ind m ih =>
      intro i at1 kn1 cl1 hm hi hI
      apply hP
      refine pk_le 6 i (fun h6 => ?_) (fun h6 => ?_)
      · have e6 : i = 6 := by omega
        subst e6
        intro P2 hP2
        have loop2 : ∀ m i (sn1 : Nat → Int32), m = 9 - i → i ≤ 9 → (∀ j, j < i → sn1 j = 0) → P2 (nI i) sn1 := by
          intro m
          induction m using Nat.strongRecOn with
          | ind m ih2 =>
            intro i sn1 hm hi hS
            apply hP2
            refine pk_le 9 i (fun h9 => ?_) (fun h9 => ⟨vp_in_nI h9 (by omega), fun sn2 e1 v e2 => ?_⟩)
            · exact hp at1 kn1 cl1 sn1 hI (fun j hj => hS j (by omega))
            · rw [e2, nI_1]
              refine ih2 (9 - (i + 1)) (by omega) (i + 1) sn2 rfl (by omega) (fun j hj => ?_)
              rw [e1, nI_clamp (by omega)]
              by_cases hji : j = i
              · rw [hji, up_s]
              · rw [up_n hji]; exact hS j (by omega)
        exact loop2 _ 0 sn rfl (by omega) (fun j hj => absurd hj (by omega))
      · have hin : vp_in (nI i) 6 := vp_in_nI h6 (by omega)
        refine e_of (i := 25 + i) hk (by omega) (jx 25 i) ⟨hin, fun at2 e1 => ?_⟩
        refine e_of (i := 37 + i) hk (by omega) (jx 37 i) ⟨hin, fun kn2 e2 => ⟨hin, fun cl2 e3 v e4 => ?_⟩⟩
        rw [nI_clamp (by omega)] at e1 e2 e3
        rw [e4, nI_1]
        refine ih (6 - (i + 1)) (by omega) (i + 1) at2 kn2 cl2 rfl (by omega) (fun j hj => ?_)
        by_cases hji : j = i
        · subst hji
          rw [e1, e2, e3, up_s, up_s, up_s]
          exact ⟨rfl, rfl, rfl⟩
        · rw [e1, e2, e3, up_n hji, up_n hji, up_n hji]
          exact hI j (by omega)
  exact loop _ 0 at_ kn cl rfl (by omega) (fun j hj => absurd hj (by omega))
theorem e_doesM {M : Nat → Nat → Int32} {k e j : Nat} {at_ kn cl sn lv : Nat → Int32} {be mi av : Int32} {post : NT} (hk : k < 2) (he : e < 2) (hj : j < 40) (hL : mLand (M 5)) (hE : mEve (M 6)) (ha : ∀ j, j < 6 → iv 0 8 (at_ j)) (hkn : ∀ j, j < 6 → iv 0 31 (kn j))
    (hp : nP post (bI (actR (tdM M k) (rowM M 1 (nI e)) j at_ kn cl sn lv be mi av).1) (actR (tdM M k) (rowM M 1 (nI e)) j at_ kn cl sn lv be mi av).2) : q_m_does_0 (M 5) (M 6) (nI k) (tdM M k 0) (tdM M k 1) (nI e) at_ kn cl sn lv be mi av (nI j) post := by
  have hs1 : iv 0 6 (tdM M k 1) := row_iv hL hk (by omega)
  obtain ⟨hK, hS, hX⟩ := eve_iv hE he hj
  unfold actR at hp
  generalize eK : rowM M 1 (nI e) (1 + 3 * j) = K at hp hK
  generalize eS : rowM M 1 (nI e) (2 + 3 * j) = s at hp hS
  generalize eX : rowM M 1 (nI e) (3 + 3 * j) = x at hp hX
  have dK : ∀ {post : Int32 → Prop}, post K → q_m_deedOf_0 (M 6) (nI e) (nI j) 0 post := fun h => e_deedOfM he hj (i := 0) (by omega) rfl (by rw [Nat.add_zero, eK]; exact h)
  have dS : ∀ {post : Int32 → Prop}, post s → q_m_deedOf_0 (M 6) (nI e) (nI j) 1 post := fun h => e_deedOfM he hj (i := 1) (by omega) rfl (by rw [show 1 + 3 * j + 1 = 2 + 3 * j by omega, eS]; exact h)
  have dX : ∀ {post : Int32 → Prop}, post x → q_m_deedOf_0 (M 6) (nI e) (nI j) 2 post := fun h => e_deedOfM he hj (i := 2) (by omega) rfl (by rw [show 1 + 3 * j + 2 = 3 + 3 * j by omega, eX]; exact h)
  clear eS eX
  refine dS (dX ?_)
  unfold q_m_isSinger_0
  unfold act at hp
  refine sp_in (fun hn => ⟨rfl, zi ?_⟩) (fun g1 g2 => ⟨rfl, io ?_⟩)
  · rw [if_pos (fun h9 => hn ((in_lt (iv_w hs1 (by decide))).mpr h9))] at hp
    exact hp
  · have hlt := (in_lt (iv_w hs1 (by decide))).mp ⟨g1, g2⟩
    rw [if_neg (fun h9 => h9 hlt)] at hp
    obtain ⟨s', hs', es⟩ := lt_nI (m := 6) hs1 hlt
    subst es
    rw [cN_nI (by omega)] at hp
    have hin : vp_in (nI s') 6 := vp_in_nI hs' (by omega)
    refine dK ⟨fun hd => ?_, fun h0 => ?_, fun h1 => ?_, fun h2 => ?_, fun h3 => ?_, fun h4 => ?_⟩
    · have h5 : K = 5 := iv_k5 hK hd
      subst h5
      rw [if_neg (by decide), if_neg (by decide), if_neg (by decide), if_neg (by decide)] at hp
      refine ⟨hin, ?_⟩
      rw [nI_clamp (by omega)]
      refine ⟨fun hne => ⟨hin, fun c2 e2 => ?_⟩, fun he0 => ?_⟩
      · rw [if_pos hne] at hp
        rw [e2]
        exact hp
      · rw [if_neg (fun h9 => h9 he0)] at hp
        exact hp
    · subst h0
      rw [if_pos rfl] at hp
      refine e_mayBeginM hk hs' (ha s' hs') (hkn s' hs') hX (fun hf => zi ?_) (fun ht => io ?_)
      · rw [if_neg (by rw [hf]; decide)] at hp
        exact hp
      · rw [if_pos ht] at hp
        obtain ⟨t, ht5, ex⟩ := mayR_x ht
        subst ex
        rw [cN_nI (by omega)] at hp
        exact e_soundsM hk hs' ht5 hL ha hp
    · subst h1
      rw [if_neg (by decide), if_pos (Or.inl rfl)] at hp
      refine e_maySingM hk hs' (ha s' hs') (hkn s' hs') hX (fun hf => zi ?_) (fun ht => io ?_)
      · rw [if_neg (by rw [hf]; decide)] at hp
        exact hp
      · rw [if_pos ht] at hp
        obtain ⟨t, ht5, ex⟩ := mayR_x ht
        subst ex
        rw [cN_nI (by omega)] at hp
        refine dK ⟨fun _ => ?_, fun h9 => absurd h9 (by decide)⟩
        exact e_singsM (w := false) hk hs' ht5 hL ha rfl (fun g eg => by rw [eg]; exact hp)
    · subst h2
      rw [if_neg (by decide), if_pos (Or.inr rfl)] at hp
      refine e_maySingM hk hs' (ha s' hs') (hkn s' hs') hX (fun hf => zi ?_) (fun ht => io ?_)
      · rw [if_neg (by rw [hf]; decide)] at hp
        exact hp
      · rw [if_pos ht] at hp
        obtain ⟨t, ht5, ex⟩ := mayR_x ht
        subst ex
        rw [cN_nI (by omega)] at hp
        refine dK ⟨fun h9 => absurd rfl h9, fun _ => ?_⟩
        exact e_singsM (w := true) hk hs' ht5 hL ha rfl (fun g eg => by rw [eg]; exact hp)
    · subst h3
      rw [if_neg (by decide), if_neg (by decide), if_pos rfl] at hp
      refine e_walksM hk hs' hL (ha s' hs') (fun hf => ⟨rfl, ?_⟩) (fun ht => ⟨rfl, ?_⟩)
      · rw [if_neg (by rw [hf]; decide)] at hp
        exact hp
      · rw [if_pos ht] at hp
        exact hp
    · subst h4
      rw [if_neg (by decide), if_neg (by decide), if_neg (by decide), if_pos rfl] at hp
      obtain ⟨a, ea, -, ha8, -⟩ := iv_nI (ha s' hs') (by decide)
      rw [ea, cN_nI (by omega)] at hp
      refine ⟨hin, ?_⟩
      rw [nI_clamp (by omega), ea]
      refine e_of (i := 16 + a) hk (by omega) (jx 16 a) ⟨fun hz => ?_, fun hz => ⟨hin, fun hc => ⟨hin, fun c2 e2 => ?_⟩, fun hc => ?_⟩⟩
      · rw [if_neg (fun h9 => h9.1 hz)] at hp
        exact hp
      · rw [if_pos ⟨hz, hc⟩] at hp
        rw [e2]
        exact hp
      · rw [if_neg (fun h9 => h9.2 hc)] at hp
        exact hp
/-- a state, packed -/
def actS (td : Nat → Int32) (k s x : Int32) (S : Nat → Nat → Int32) : Bool × (Nat → Nat → Int32) := act td k s x (S 0) (S 1) (S 2) (S 3) (S 4) (S 5 0) (S 5 1) (S 5 2)
/-- a land's row, as told -/
def RNG (td : Nat → Int32) : Prop := ∀ j, j < 132 → iv 0 (mRh j) (td j)
def LOK (td : Nat → Int32) : Prop := (∀ s : Nat, s < 6 → nI s < td 1 → td (25 + s) < td 0) ∧ (∀ k : Nat, k < 4 → nI k < td 4 → td (43 + 2 * k) < td 0 ∧ td (44 + 2 * k) < td 0) ∧ ∀ h : Nat, h < 32 → hb (td 2) h = true → nI h < td 0
/-- a state's ranges -/
def NOK (td : Nat → Int32) (S : Nat → Nat → Int32) : Prop := (∀ j, j < 6 → iv 0 8 (S 0 j)) ∧ (∀ j, j < 6 → iv 0 31 (S 1 j)) ∧ (∀ j, j < 6 → S 2 j = 0 ∨ S 2 j = 1) ∧ iv 0 31 (S 5 0) ∧ (∀ j, j < 6 → nI j < td 1 → S 0 j < td 0) ∧ (∀ t, t < 5 → iv (-9) 108 (S 4 t)) ∧ (∀ t, t < 5 → hb (S 5 0) t = false → S 4 t = -1)
/-- two states are alike in what they show -/
def AGs (S' S : Nat → Nat → Int32) : Prop := (∀ j, j < 6 → S' 0 j = S 0 j ∧ S' 1 j = S 1 j ∧ S' 2 j = S 2 j) ∧ (∀ j, j < 9 → S' 3 j = S 3 j) ∧ (∀ t, t < 5 → hb (S 5 0) t = true → S' 4 t = S 4 t) ∧ S' 5 0 = S 5 0 ∧ S' 5 1 = S 5 1 ∧ S' 5 2 = S 5 2
theorem bit5 : ∀ t, t < 5 → iv 0 31 (bitI t) := by
  intro t ht
  have : t = 0 ∨ t = 1 ∨ t = 2 ∨ t = 3 ∨ t = 4 := by omega
  rcases this with rfl | rfl | rfl | rfl | rfl <;> exact iv_lit (by decide)
theorem hgh_iv {td : Nat → Int32} {at_ cl : Nat → Int32} {s : Nat} (hR : RNG td) (hs : s < 6) (ha : iv 0 8 (at_ s)) (hc : cl s = 0 ∨ cl s = 1) : iv (-9) 108 (hgh td at_ cl s) := by
  obtain ⟨a, ea, -, ha8, -⟩ := iv_nI ha (by decide)
  unfold hgh
  rw [ea, cN_nI (by omega)]
  have r1 : iv 0 99 (td (7 + a)) := iv_w (hR (7 + a) (by omega)) (by
    have h2 : a = 0 ∨ a = 1 ∨ a = 2 ∨ a = 3 ∨ a = 4 ∨ a = 5 ∨ a = 6 ∨ a = 7 ∨ a = 8 := by omega
    rcases h2 with rfl | rfl | rfl | rfl | rfl | rfl | rfl | rfl | rfl <;> decide)
  have r2 : iv 0 9 (td (31 + s)) := iv_w (hR (31 + s) (by omega)) (by
    have h2 : s = 0 ∨ s = 1 ∨ s = 2 ∨ s = 3 ∨ s = 4 ∨ s = 5 := by omega
    rcases h2 with rfl | rfl | rfl | rfl | rfl | rfl <;> decide)
  have r3 : iv 0 9 (td (16 + a)) := iv_w (hR (16 + a) (by omega)) (by
    have h2 : a = 0 ∨ a = 1 ∨ a = 2 ∨ a = 3 ∨ a = 4 ∨ a = 5 ∨ a = 6 ∨ a = 7 ∨ a = 8 := by omega
    rcases h2 with rfl | rfl | rfl | rfl | rfl | rfl | rfl | rfl | rfl <;> decide)
  have r4 : iv 0 9 (cl s * td (16 + a)) := by
    rcases hc with e | e
    · rw [e, Int32.zero_mul]; exact iv_lit (by decide)
    · rw [e, Int32.one_mul]; exact r3
  exact iv_add (l := -9) (h := 108) (iv_sub (l := -9) (h := 99) r1 r2 (by decide)) r4 (by decide)
end
section
theorem hb_bitI {i k : Nat} (hi : i < 31) (hk : k < 31) : hb (bitI i) k = decide (i = k) := hb_bit hi hk
theorem NOK_snd {td : Nat → Int32} {S : Nat → Nat → Int32} {s t : Nat} {sn : Nat → Int32} {mi av : Int32} (hR : RNG td) (h : NOK td S) (hs : s < 6) (ht : t < 5) : NOK td (smk (S 0) (knS td (S 0) (S 1) s t) (S 2) sn (upd (S 4) t (hgh td (S 0) (S 2) s)) (S 5 0 ||| bitI t) mi av) := by
  refine ⟨h.1, fun j hj => ?_, h.2.2.1, ?_, h.2.2.2.2.1, fun t' ht' => ?_, fun t' ht' hf => ?_⟩
  · show iv 0 31 (knS td (S 0) (S 1) s t j)
    unfold knS
    split
    · exact iv_or 5 (h.2.1 j hj) (bit5 t ht) (by decide)
    · exact h.2.1 j hj
  · show iv 0 31 (S 5 0 ||| bitI t)
    exact iv_or 5 h.2.2.2.1 (bit5 t ht) (by decide)
  · show iv (-9) 108 (upd (S 4) t (hgh td (S 0) (S 2) s) t')
    by_cases e : t' = t
    · rw [e, up_s]
      exact hgh_iv hR hs (h.1 s hs) (h.2.2.1 s hs)
    · rw [up_n e]
      exact h.2.2.2.2.2.1 t' ht'
  · show upd (S 4) t (hgh td (S 0) (S 2) s) t' = -1
    have hf' : hb (S 5 0 ||| bitI t) t' = false := hf
    rw [hb_or, Bool.or_eq_false_iff, hb_bitI (by omega) (by omega)] at hf'
    have e : ¬ t' = t := fun e => by
      rw [e] at hf'
      simp at hf'
    rw [up_n e]
    exact h.2.2.2.2.2.2 t' ht' hf'.1
theorem act_ok {td : Nat → Int32} {S : Nat → Nat → Int32} {k s x : Int32} (hR : RNG td) (h : NOK td S) : NOK td (actS td k s x S).2 := by
  have base : NOK td (smk (S 0) (S 1) (S 2) (S 3) (S 4) (S 5 0) (S 5 1) (S 5 2)) := h
  have h1 : iv 0 6 (td 1) := hR 1 (by omega)
  have h0 : iv 0 9 (td 0) := hR 0 (by omega)
  unfold actS act
  by_cases hs : ¬ (0 ≤ s ∧ s < td 1)
  · rw [if_pos hs]; exact base
  rw [if_neg hs]
  obtain ⟨s', hs', es⟩ := lt_nI (m := 6) h1 (Decidable.not_not.mp hs)
  subst es
  rw [cN_nI (by omega)]
  by_cases k0 : k = 0
  · rw [if_pos k0]
    by_cases hm : mayR td (S 0) (S 1) (S 5 0) s' x false = true
    · rw [if_pos hm]
      obtain ⟨t, ht5, ex⟩ := mayR_x hm
      subst ex
      rw [cN_nI (by omega)]
      exact NOK_snd hR h hs' ht5
    · rw [if_neg hm]; exact base
  rw [if_neg k0]
  by_cases k1 : k = 1 ∨ k = 2
  · rw [if_pos k1]
    by_cases hm : mayR td (S 0) (S 1) (S 5 0) s' x true = true
    · rw [if_pos hm]
      obtain ⟨t, ht5, ex⟩ := mayR_x hm
      subst ex
      rw [cN_nI (by omega)]
      exact NOK_snd hR h hs' ht5
    · rw [if_neg hm]; exact base
  rw [if_neg k1]
  by_cases k3 : k = 3
  · rw [if_pos k3]
    by_cases hm : mayW td (S 0) (S 2) (S 3) s' x = true
    · rw [if_pos hm]
      unfold mayW at hm
      simp only [Bool.and_eq_true, decide_eq_true_eq] at hm
      have hx := hm.1.1.1.1
      obtain ⟨y, hy, ex⟩ := lt_nI (m := 9) h0 hx
      refine ⟨fun j hj => ?_, h.2.1, h.2.2.1, h.2.2.2.1, fun j hj hl => ?_, h.2.2.2.2.2⟩
      · show iv 0 8 (upd (S 0) s' x j)
        by_cases e : j = s'
        · rw [e, up_s, ex]; exact iv_ofN (by omega) (by omega) (by omega)
        · rw [up_n e]; exact h.1 j hj
      · show upd (S 0) s' x j < td 0
        by_cases e : j = s'
        · rw [e, up_s]; exact hx.2
        · rw [up_n e]; exact h.2.2.2.2.1 j hj hl
    · rw [if_neg hm]; exact base
  rw [if_neg k3]
  have cl : ∀ v : Int32, v = 0 ∨ v = 1 → NOK td (smk (S 0) (S 1) (upd (S 2) s' v) (S 3) (S 4) (S 5 0) (S 5 1) (S 5 2)) := by
    intro v hv
    refine ⟨h.1, h.2.1, fun j hj => ?_, h.2.2.2⟩
    show upd (S 2) s' v j = 0 ∨ upd (S 2) s' v j = 1
    by_cases e : j = s'
    · rw [e, up_s]; exact hv
    · rw [up_n e]; exact h.2.2.1 j hj
  by_cases k4 : k = 4
  · rw [if_pos k4]
    split
    · exact cl 1 (Or.inr rfl)
    · exact base
  rw [if_neg k4]
  split
  · exact cl 0 (Or.inl rfl)
  · exact base
theorem hgh_ag {td : Nat → Int32} {S' S : Nat → Nat → Int32} {s : Nat} (H : AGs S' S) (hs : s < 6) : hgh td (S' 0) (S' 2) s = hgh td (S 0) (S 2) s := by
  unfold hgh
  rw [(H.1 s hs).1, (H.1 s hs).2.2]
theorem mayR_ag {td : Nat → Int32} {S' S : Nat → Nat → Int32} {s : Nat} {x : Int32} {b : Bool} (H : AGs S' S) (hs : s < 6) : mayR td (S' 0) (S' 1) (S' 5 0) s x b = mayR td (S 0) (S 1) (S 5 0) s x b := by
  unfold mayR
  rw [(H.1 s hs).1, (H.1 s hs).2.1, H.2.2.2.1]
theorem knS_ag {td : Nat → Int32} {S' S : Nat → Nat → Int32} {s t : Nat} (H : AGs S' S) (hs : s < 6) (j : Nat) (hj : j < 6) : knS td (S' 0) (S' 1) s t j = knS td (S 0) (S 1) s t j := by
  unfold knS
  rw [(H.1 s hs).1, (H.1 j hj).1, (H.1 j hj).2.1]
theorem mayR_b {td at_ kn : Nat → Int32} {be : Int32} {s t : Nat} {b : Bool} (ht : t < 5) (h : mayR td at_ kn be s (nI t) b = true) : hb be t = b := by
  unfold mayR at h
  simp only [Bool.and_eq_true, decide_eq_true_eq, beq_iff_eq] at h
  rw [← cN_nI (n := t) (by omega)]
  exact h.1.2
theorem AG_snd {td : Nat → Int32} {S' S : Nat → Nat → Int32} {s t : Nat} {sn' sn : Nat → Int32} {av' av : Int32} (H : AGs S' S) (hs : s < 6) (ht : t < 5) (hsn : ∀ j, j < 9 → sn' j = sn j) (hav : av' = av) : AGs (smk (S' 0) (knS td (S' 0) (S' 1) s t) (S' 2) sn' (upd (S' 4) t (hgh td (S' 0) (S' 2) s)) (S' 5 0 ||| bitI t) (S' 5 1) av') (smk (S 0) (knS td (S 0) (S 1) s t) (S 2) sn (upd (S 4) t (hgh td (S 0) (S 2) s)) (S 5 0 ||| bitI t) (S 5 1) av) := by
  refine ⟨fun j hj => ⟨(H.1 j hj).1, knS_ag H hs j hj, (H.1 j hj).2.2⟩, hsn, fun t' ht' hb' => ?_, ?_, H.2.2.2.2.1, hav⟩
  · show upd (S' 4) t (hgh td (S' 0) (S' 2) s) t' = upd (S 4) t (hgh td (S 0) (S 2) s) t'
    by_cases e : t' = t
    · rw [e, up_s, up_s, hgh_ag H hs]
    · rw [up_n e, up_n e]
      have h2 : hb (S 5 0 ||| bitI t) t' = true := hb'
      rw [hb_or, hb_bitI (by omega) (by omega), de_ne e, Bool.or_false] at h2
      exact H.2.2.1 t' ht' h2
  · show S' 5 0 ||| bitI t = S 5 0 ||| bitI t
    rw [H.2.2.2.1]
theorem mayW_ag {td : Nat → Int32} {S' S : Nat → Nat → Int32} {s : Nat} {x : Int32} (hR : RNG td) (hN : NOK td S) (H : AGs S' S) (hs : s < 6) : mayW td (S' 0) (S' 2) (S' 3) s x = mayW td (S 0) (S 2) (S 3) s x := by
  unfold mayW
  by_cases hx : 0 ≤ x ∧ x < td 0
  · obtain ⟨y, hy, ex⟩ := lt_nI (m := 9) (hR 0 (by omega)) hx
    obtain ⟨a, ea, -, ha8, -⟩ := iv_nI (hN.1 s hs) (by decide)
    rw [(H.1 s hs).1, (H.1 s hs).2.2, ea, ex, cN_nI (by omega), cN_nI (by omega), H.2.1 a (by omega), H.2.1 y hy]
  · rw [decide_eq_false hx]
    simp only [Bool.false_and]
theorem actS_ag {td : Nat → Int32} {S' S : Nat → Nat → Int32} {k s x : Int32} (hR : RNG td) (hN : NOK td S) (H : AGs S' S) : (actS td k s x S').1 = (actS td k s x S).1 ∧ AGs (actS td k s x S').2 (actS td k s x S).2 := by
  have base : AGs (smk (S' 0) (S' 1) (S' 2) (S' 3) (S' 4) (S' 5 0) (S' 5 1) (S' 5 2)) (smk (S 0) (S 1) (S 2) (S 3) (S 4) (S 5 0) (S 5 1) (S 5 2)) := H
  have h1 : iv 0 6 (td 1) := hR 1 (by omega)
  unfold actS act
  by_cases hs : ¬ (0 ≤ s ∧ s < td 1)
  · rw [if_pos hs, if_pos hs]; exact ⟨rfl, base⟩
  rw [if_neg hs, if_neg hs]
  obtain ⟨s', hs', es⟩ := lt_nI (m := 6) h1 (Decidable.not_not.mp hs)
  subst es
  rw [cN_nI (by omega)]
  by_cases k0 : k = 0
  · rw [if_pos k0, if_pos k0, mayR_ag H hs']
    by_cases hm : mayR td (S 0) (S 1) (S 5 0) s' x false = true
    · rw [if_pos hm, if_pos hm]
      obtain ⟨t, ht5, ex⟩ := mayR_x hm
      subst ex
      rw [cN_nI (by omega)]
      exact ⟨rfl, AG_snd H hs' ht5 H.2.1 H.2.2.2.2.2⟩
    · rw [if_neg hm, if_neg hm]; exact ⟨rfl, base⟩
  rw [if_neg k0, if_neg k0]
  by_cases k1 : k = 1 ∨ k = 2
  · rw [if_pos k1, if_pos k1, mayR_ag H hs']
    by_cases hm : mayR td (S 0) (S 1) (S 5 0) s' x true = true
    · rw [if_pos hm, if_pos hm]
      obtain ⟨t, ht5, ex⟩ := mayR_x hm
      subst ex
      rw [cN_nI (by omega)]
      obtain ⟨a, ea, -, ha8, -⟩ := iv_nI (hN.1 s' hs') (by decide)
      have hbt : hb (S 5 0) t = true := mayR_b ht5 hm
      have ew : ∀ w, wrongR td (S' 0) (S' 2) (S' 4) s' t w = wrongR td (S 0) (S 2) (S 4) s' t w := by
        intro w
        unfold wrongR
        rw [hgh_ag H hs', H.2.2.1 t ht5 hbt]
      unfold rais
      rw [ew]
      refine ⟨rfl, AG_snd H hs' ht5 (fun j hj => ?_) (by rw [H.2.2.2.2.2])⟩
      rw [(H.1 s' hs').1, ea, cN_nI (by omega), H.2.1 a (by omega)]
      by_cases e : j = a
      · rw [e, up_s, up_s]
      · rw [up_n e, up_n e]; exact H.2.1 j hj
    · rw [if_neg hm, if_neg hm]; exact ⟨rfl, base⟩
  rw [if_neg k1, if_neg k1]
  by_cases k3 : k = 3
  · rw [if_pos k3, if_pos k3, mayW_ag hR hN H hs']
    by_cases hm : mayW td (S 0) (S 2) (S 3) s' x = true
    · rw [if_pos hm, if_pos hm]
      refine ⟨rfl, fun j hj => ⟨?_, (H.1 j hj).2⟩, H.2.1, H.2.2.1, H.2.2.2.1, ?_, H.2.2.2.2.2⟩
      · show upd (S' 0) s' x j = upd (S 0) s' x j
        by_cases e : j = s'
        · rw [e, up_s, up_s]
        · rw [up_n e, up_n e]; exact (H.1 j hj).1
      · show S' 5 1 + _ = S 5 1 + _
        rw [(H.1 s' hs').1, H.2.2.2.2.1]
    · rw [if_neg hm, if_neg hm]; exact ⟨rfl, base⟩
  rw [if_neg k3, if_neg k3]
  have cl : ∀ v : Int32, AGs (smk (S' 0) (S' 1) (upd (S' 2) s' v) (S' 3) (S' 4) (S' 5 0) (S' 5 1) (S' 5 2)) (smk (S 0) (S 1) (upd (S 2) s' v) (S 3) (S 4) (S 5 0) (S 5 1) (S 5 2)) := by
    intro v
    refine ⟨fun j hj => ⟨(H.1 j hj).1, (H.1 j hj).2.1, ?_⟩, H.2⟩
    show upd (S' 2) s' v j = upd (S 2) s' v j
    by_cases e : j = s'
    · rw [e, up_s, up_s]
    · rw [up_n e, up_n e]; exact (H.1 j hj).2.2
  rw [(H.1 s' hs').1, (H.1 s' hs').2.2]
  by_cases k4 : k = 4
  · rw [if_pos k4, if_pos k4]
    split
    · exact ⟨rfl, cl 1⟩
    · exact ⟨rfl, base⟩
  rw [if_neg k4, if_neg k4]
  split
  · exact ⟨rfl, cl 0⟩
  · exact ⟨rfl, base⟩
/-- an evening from its deed j on, at most m deeds: how many there are, the state behind them -/
def plays (td ev : Nat → Int32) : Nat → Nat → (Nat → Nat → Int32) → Nat × (Nat → Nat → Int32)
  | 0, j, S => (j, S)
  | m + 1, j, S => if (actS td (ev (1 + 3 * j)) (ev (2 + 3 * j)) (ev (3 + 3 * j)) S).1 = true then plays td ev m (j + 1) (actS td (ev (1 + 3 * j)) (ev (2 + 3 * j)) (ev (3 + 3 * j)) S).2 else (j, (actS td (ev (1 + 3 * j)) (ev (2 + 3 * j)) (ev (3 + 3 * j)) S).2)
def S0 (td : Nat → Int32) : Nat → Nat → Int32 := smk (fun j => td (25 + j)) (fun j => td (37 + j)) (fun _ => 0) (fun _ => 0) (fun _ => -1) 0 0 0
theorem S0_ok {td : Nat → Int32} (hR : RNG td) (hL : LOK td) : NOK td (S0 td) := by
  refine ⟨fun j hj => ?_, fun j hj => ?_, fun j hj => Or.inl rfl, iv_lit (l := 0) (h := 31) (x := 0) (by decide), fun j hj hl => hL.1 j hj hl, fun t ht => iv_lit (l := -9) (h := 108) (x := -1) (by decide), fun t ht _ => rfl⟩
  · refine iv_w (hR (25 + j) (by omega)) ?_
    have h2 : j = 0 ∨ j = 1 ∨ j = 2 ∨ j = 3 ∨ j = 4 ∨ j = 5 := by omega
    rcases h2 with rfl | rfl | rfl | rfl | rfl | rfl <;> decide
  · refine iv_w (hR (37 + j) (by omega)) ?_
    have h2 : j = 0 ∨ j = 1 ∨ j = 2 ∨ j = 3 ∨ j = 4 ∨ j = 5 := by omega
    rcases h2 with rfl | rfl | rfl | rfl | rfl | rfl <;> decide
theorem plays_ok {td ev : Nat → Int32} (hR : RNG td) : ∀ m j S, NOK td S → NOK td (plays td ev m j S).2 := by
  intro m
  induction m with
  | zero => intro j S h; exact h
  | succ m ih =>
    intro j S h
    unfold plays
    split
    · exact ih _ _ (act_ok hR h)
    · exact act_ok hR h
theorem plays_le {td ev : Nat → Int32} : ∀ m j S, j ≤ (plays td ev m j S).1 ∧ (plays td ev m j S).1 ≤ j + m := by
  intro m
  induction m with
  | zero => intro j S; exact ⟨Nat.le_refl _, Nat.le_refl _⟩
  | succ m ih =>
    intro j S
    unfold plays
    split
    · have := ih (j + 1) (actS td (ev (1 + 3 * j)) (ev (2 + 3 * j)) (ev (3 + 3 * j)) S).2
      omega
    · exact ⟨Nat.le_refl _, by show j ≤ _; omega⟩
theorem e_playM {M : Nat → Nat → Int32} {k e n : Nat} {at_ kn cl sn lv : Nat → Int32} {be mi av : Int32} {post : NT} (hk : k < 2) (he : e < 2) (hn : n ≤ 40) (hL : mLand (M 5)) (hE : mEve (M 6)) (hO : LOK (tdM M k))
    (hp : ∀ S', AGs S' (plays (tdM M k) (rowM M 1 (nI e)) n 0 (S0 (tdM M k))).2 → nP post (nI (plays (tdM M k) (rowM M 1 (nI e)) n 0 (S0 (tdM M k))).1) S') : q_m_play_0 (M 5) (M 6) (nI k) (tdM M k 0) (tdM M k 1) (nI e) at_ kn cl sn lv be mi av (nI n) post := by
  have hR : RNG (tdM M k) := fun j hj => row_iv hL hk hj
  refine e_beginM hk (fun at1 kn1 cl1 sn1 hI hS => ?_)
  intro P hP
  have loop : ∀ m j (S' S : Nat → Nat → Int32), m = n - j → j ≤ n → NOK (tdM M k) S → AGs S' S → (∀ S2, AGs S2 (plays (tdM M k) (rowM M 1 (nI e)) m j S).2 → nP post (nI (plays (tdM M k) (rowM M 1 (nI e)) m j S).1) S2) → P (nI j) (S' 0) (S' 1) (S' 2) (S' 3) (S' 4) (S' 5 0) (S' 5 1) (S' 5 2) := by
    intro m
    induction m with
    | zero =>
      intro j S' S hm hj hN hA hq
      apply hP
      have e1 : j = n := by omega
      subst e1
      exact pk_le j j (fun _ => hq S' hA) (fun h9 => absurd h9 (by omega))
    | succ m ih =>
      intro j S' S hm hj hN hA hq
      apply hP
      refine pk_le n j (fun h9 => absurd h9 (by omega)) (fun h9 => ?_)
      have g := actS_ag (k := rowM M 1 (nI e) (1 + 3 * j)) (s := rowM M 1 (nI e) (2 + 3 * j)) (x := rowM M 1 (nI e) (3 + 3 * j)) hR hN hA
      have ok := act_ok (k := rowM M 1 (nI e) (1 + 3 * j)) (s := rowM M 1 (nI e) (2 + 3 * j)) (x := rowM M 1 (nI e) (3 + 3 * j)) hR hN
      refine e_doesM hk he (by omega) hL hE (fun i hi => by rw [(hA.1 i hi).1]; exact hN.1 i hi) (fun i hi => by rw [(hA.1 i hi).2.1]; exact hN.2.1 i hi) ?_
      unfold plays at hq
      show nP _ (bI (actS (tdM M k) (rowM M 1 (nI e) (1 + 3 * j)) (rowM M 1 (nI e) (2 + 3 * j)) (rowM M 1 (nI e) (3 + 3 * j)) S').1) (actS (tdM M k) (rowM M 1 (nI e) (1 + 3 * j)) (rowM M 1 (nI e) (2 + 3 * j)) (rowM M 1 (nI e) (3 + 3 * j)) S').2
      rw [g.1]
      by_cases hb1 : (actS (tdM M k) (rowM M 1 (nI e) (1 + 3 * j)) (rowM M 1 (nI e) (2 + 3 * j)) (rowM M 1 (nI e) (3 + 3 * j)) S).1 = true
      · rw [hb1]
        rw [if_pos hb1] at hq
        refine ⟨fun h8 => absurd h8 (by decide), fun _ v ev => ?_⟩
        rw [ev, nI_1]
        exact ih (j + 1) _ _ (by omega) (by omega) ok g.2 hq
      · rw [Bool.not_eq_true] at hb1
        rw [hb1]
        rw [if_neg (by rw [hb1]; decide)] at hq
        exact ⟨fun _ => hq _ g.2, fun h8 => absurd rfl h8⟩
  refine loop n 0 (smk at1 kn1 cl1 sn1 lv 0 0 0) (S0 (tdM M k)) (by omega) (by omega) (S0_ok hR hO) ?_ hp
  exact ⟨hI, hS, fun t ht h9 => absurd (show hb 0 t = true from h9) (by rw [hb_0]; decide), rfl, rfl, rfl⟩
end
section
/-- the class's night is as a state -/
def XG (td : Nat → Int32) (S : Nat → Nat → Int32) (mi av be cl : Int32) (hu kn lv sn : Nat → Int32) : Prop := (∀ j, j < 6 → hb cl j = decide (S 2 j = 1)) ∧ (∀ j, j < 6 → nI j < td 1 → hu j = S 0 j) ∧ (∀ j, j < 6 → kn j = S 1 j) ∧ (∀ t, t < 5 → lv t = S 4 t) ∧ (∀ j, j < 9 → sn j = S 3 j) ∧ be = S 5 0 ∧ mi = S 5 1 ∧ av = S 5 2
/-- the class's land is as a row; its heights, homes, talls in their places -/
def LX (td : Nat → Int32) (huts singers dams echoes deep : Int32) (heights ladders minutes echoFrom echoTo talls : Nat → Int32) : Prop := huts = td 0 ∧ singers = td 1 ∧ dams = td 3 ∧ echoes = td 4 ∧ deep = td 5 ∧ (∀ j : Nat, j < 9 → nI j < td 0 → heights j = td (7 + j)) ∧ (∀ j, j < 9 → ladders j = td (16 + j)) ∧ (∀ j, j < 81 → minutes j = td (51 + j)) ∧ (∀ j : Nat, j < 4 → nI j < td 4 → echoFrom j = td (43 + 2 * j) ∧ echoTo j = td (44 + 2 * j)) ∧ (∀ j : Nat, j < 6 → nI j < td 1 → talls j = td (31 + j))
theorem lt_cln {j m : Nat} {x : Int32} (hx : iv 0 m x) (hm : m < 1000) (h : nI j < x) (hj : j < 1000) : j < x.toNatClampNeg := by
  obtain ⟨n, rfl, -, hn, hn2⟩ := iv_nI hx (by decide)
  rw [nI_clamp hn2]
  exact (nI_ltI (by omega) hn2).mp h
theorem LX_of {td : Nat → Int32} {huts singers villages dams echoes deep slide : Int32} {heights ladders minutes echoFrom echoTo homes talls known : Nat → Int32} (hR : RNG td) (h : LDR huts singers villages dams echoes deep slide heights ladders minutes echoFrom echoTo homes talls known td) : LX td huts singers dams echoes deep heights ladders minutes echoFrom echoTo talls := by
  obtain ⟨e0, e1, e2, e3, e4, e5, e6, f1, f2, f3, f4, f5, f6⟩ := h
  have b0 : iv 0 (9 : Nat) (td 0) := hR 0 (by omega)
  have b1 : iv 0 (6 : Nat) (td 1) := hR 1 (by omega)
  have b4 : iv 0 (4 : Nat) (td 4) := hR 4 (by omega)
  exact ⟨e0, e1, e3, e4, e5, fun j hj hl => f1 j (lt_cln b0 (by omega) hl (by omega)), f2, f3, fun j hj hl => f4 j (lt_cln b4 (by omega) hl (by omega)), fun j hj hl => (f5 j (lt_cln b1 (by omega) hl (by omega))).2⟩
section
variable {td : Nat → Int32} {S : Nat → Nat → Int32} {mi av be cl : Int32} {hu kn lv sn : Nat → Int32} {huts singers dams echoes deep : Int32} {heights ladders minutes echoFrom echoTo talls : Nat → Int32}
theorem e_highX {s : Nat} {post : Int32 → Prop} (hR : RNG td) (hN : NOK td S) (hG : XG td S mi av be cl hu kn lv sn) (hD : LX td huts singers dams echoes deep heights ladders minutes echoFrom echoTo talls) (hs : s < 6) (hl : nI s < td 1) (hp : post (hgh td (S 0) (S 2) s)) : q_wn_X3_high_6_0 cl hu heights ladders talls (nI s) post := by
  obtain ⟨a, ea, -, ha8, -⟩ := iv_nI (hN.1 s hs) (by decide)
  have hin : vp_in (nI s) 6 := vp_in_nI hs (by omega)
  have ha0 : nI a < td 0 := by rw [← ea]; exact hN.2.2.2.2.1 s hs hl
  unfold hgh at hp
  rw [ea, cN_nI (by omega)] at hp
  refine ⟨hin, fun v1 e1 => ?_⟩
  rw [nI_clamp (by omega), hG.2.1 s hs hl, ea] at e1
  subst e1
  have hin9 : vp_in (nI a) 9 := vp_in_nI (by omega) (by omega)
  refine ⟨hin9, hin, fun v2 e2 => ?_⟩
  rw [nI_clamp (by omega), nI_clamp (by omega), hD.2.2.2.2.2.1 a (by omega) ha0, hD.2.2.2.2.2.2.2.2.2 s hs hl] at e2
  subst e2
  refine e_hasX (by omega) (fun h0 => iz ?_) (fun h1 => oi ⟨hin9, ?_⟩)
  · rw [hG.1 s hs] at h0
    have hz : S 2 s = 0 := by
      rcases hN.2.2.1 s hs with h | h
      · exact h
      · rw [h] at h0; exact absurd h0 (by decide)
    rw [hz, Int32.zero_mul, Int32.add_zero] at hp
    exact hp
  · rw [hG.1 s hs] at h1
    rw [of_decide_eq_true h1, Int32.one_mul] at hp
    rw [nI_clamp (by omega), hD.2.2.2.2.2.2.1 a (by omega)]
    exact hp
theorem e_earX {h : Nat} {post : Int32 → Prop} (hR : RNG td) (hd : dams = td 3) (he : echoes = td 4) (hf : ∀ j : Nat, j < 4 → nI j < td 4 → echoFrom j = td (43 + 2 * j) ∧ echoTo j = td (44 + 2 * j)) (hh : h < 9) (hp : ∀ set, (∀ x, x < 31 → hb set x = hear td h x) → post set) : q_wl_X2_earshot_0 dams echoes echoFrom echoTo (nI h) post := by
  have h4 : iv 0 4 (td 4) := hR 4 (by omega)
  obtain ⟨c, hc, -, hc4, -⟩ := iv_nI h4 (by decide)
  have st : ∀ y : Int32, (∀ x, x < 31 → hb y x = (!dam td x && decide (x = h))) → q_wl_X2_earshot_15 dams echoes echoFrom echoTo (nI h) y post := by
    intro y hy P hP
    have loop : ∀ m j (x2 : Int32), m = c - j → j ≤ c → (∀ x, x < 31 → hb x2 x = (!dam td x && (decide (x = h) || ech td h x j))) → P x2 (nI j) := by
      intro m
      induction m using Nat.strongRecOn with
      | ind m ih =>
        intro j x2 hm hj hx
        apply hP
        rw [he, hc]
        refine pk_le c j (fun h9 => ?_) (fun h9 => ?_)
        · refine hp x2 (fun x hx9 => ?_)
          rw [hx x hx9]
          unfold hear
          rw [hc, cN_nI (by omega), show j = c by omega]
        · have hin : vp_in (nI j) 4 := vp_in_nI (by omega) (by omega)
          have hl4 : nI j < td 4 := by rw [hc]; exact nI_lt h9 (by omega)
          obtain ⟨f1, f2⟩ := hf j (by omega) hl4
          have nx : ∀ x2' : Int32, (∀ x, x < 31 → hb x2' x = (!dam td x && (decide (x = h) || ech td h x (j + 1)))) → q_wl_X2_earshot_60 P dams (nI c) echoFrom echoTo (nI h) x2' (nI j) post := by
            intro x2' h2 v ev
            rw [ev, nI_1]
            exact ih (c - (j + 1)) (by omega) (j + 1) x2' rfl (by omega) h2
          have st1 : ∀ x, ech td h x (j + 1) = (ech td h x j || (decide (td (43 + 2 * j) = nI h) && decide (td (44 + 2 * j) = nI x))) := fun x => rfl
          refine ⟨hin, ?_⟩
          rw [nI_clamp (by omega), f1, f2]
          refine ⟨fun hne => nx x2 (fun x hx9 => ?_), fun heq => ⟨hin, ?_⟩⟩
          · rw [hx x hx9, st1, decide_eq_false hne, Bool.false_and, Bool.or_false]
          · have hy8 : iv 0 8 (td (44 + 2 * j)) := iv_w (hR (44 + 2 * j) (by omega)) (by
              have hcs : j = 0 ∨ j = 1 ∨ j = 2 ∨ j = 3 := by omega
              rcases hcs with rfl | rfl | rfl | rfl <;> decide)
            obtain ⟨y2, ey, -, hy2, -⟩ := iv_nI hy8 (by decide)
            rw [ey]
            have ex : ∀ x, x < 31 → (decide (td (43 + 2 * j) = nI h) && decide (td (44 + 2 * j) = nI x)) = decide (y2 = x) := by
              intro x hx9
              rw [decide_eq_true heq, Bool.true_and, ey]
              by_cases e : y2 = x
              · subst e; rw [decide_eq_true rfl, decide_eq_true rfl]
              · rw [decide_eq_false e, decide_eq_false (fun h8 => e ((nI_eq (by omega) (by omega)).mp h8))]
            refine e_damX (by omega) (fun hd0 => zi ⟨hin, fun v ev => nx v (fun x hx9 => ?_)⟩) (fun hd1 => io (nx x2 (fun x hx9 => ?_)))
            · rw [ev, hb_or, hx x hx9, hb_bit (by omega) hx9, st1, ex x hx9]
              rw [hd] at hd0
              by_cases e : y2 = x
              · subst e
                unfold dam
                rw [hd0, decide_eq_true rfl]
                simp
              · rw [decide_eq_false e, Bool.or_false, Bool.or_false]
            · rw [hx x hx9, st1, ex x hx9]
              rw [hd] at hd1
              by_cases e : y2 = x
              · subst e
                unfold dam
                rw [hd1]
                rfl
              · rw [decide_eq_false e, Bool.or_false]
    exact loop _ 0 y rfl (by omega) (fun x hx9 => by rw [hy x hx9]; show _ = (!dam td x && (decide (x = h) || false)); rw [Bool.or_false])
  refine e_damX (by omega) (fun hd0 => iz (st _ (fun x hx9 => ?_))) (fun hd1 => oi (st 0 (fun x hx9 => ?_)))
  · rw [hb_bit (by omega) hx9]
    rw [hd] at hd0
    by_cases e : h = x
    · subst e
      unfold dam
      rw [hd0, decide_eq_true rfl]
      rfl
    · rw [decide_eq_false e, de_ne e, Bool.and_false]
  · rw [hb_0]
    rw [hd] at hd1
    by_cases e : h = x
    · subst e
      unfold dam
      rw [hd1]
      rfl
    · rw [de_ne e, Bool.and_false]
theorem e_singersInX {bits : Int32} {post : Int32 → Prop} (hR : RNG td) (hN : NOK td S) (hG : XG td S mi av be cl hu kn lv sn) (hd : singers = td 1) (hp : ∀ set, (∀ o, o < 31 → hb set o = (decide (nI o < td 1) && hb bits (cN (S 0 o)))) → post set) : q_wn_X3_singersIn_6_0 hu singers bits post := by
  have h1 : iv 0 6 (td 1) := hR 1 (by omega)
  obtain ⟨c, hc, -, hc6, -⟩ := iv_nI h1 (by decide)
  intro P hP
  have loop : ∀ m j (x3 : Int32), m = c - j → j ≤ c → (∀ o, o < 31 → hb x3 o = (decide (o < j) && hb bits (cN (S 0 o)))) → P x3 (nI j) := by
    intro m
    induction m using Nat.strongRecOn with
    | ind m ih =>
      intro j x3 hm hj hx
      apply hP
      rw [hd, hc]
      refine pk_le c j (fun h9 => ?_) (fun h9 => ?_)
      · refine hp x3 (fun o ho => ?_)
        rw [hx o ho, hc, show j = c by omega]
        by_cases e : o < c
        · rw [decide_eq_true e, decide_eq_true (nI_lt e (by omega))]
        · rw [decide_eq_false e, decide_eq_false (fun h8 => e ((nI_ltI (by omega) (by omega)).mp h8))]
      · have hin : vp_in (nI j) 6 := vp_in_nI (by omega) (by omega)
        have hl : nI j < td 1 := by rw [hc]; exact nI_lt h9 (by omega)
        obtain ⟨a, ea, -, ha8, -⟩ := iv_nI (hN.1 j (by omega)) (by decide)
        have nx : ∀ x3' : Int32, (∀ o, o < 31 → hb x3' o = (decide (o < j + 1) && hb bits (cN (S 0 o)))) → q_wn_X3_singersIn_6_35 P hu (nI c) bits x3' (nI j) post := by
          intro x3' h2 v ev
          rw [ev, nI_1]
          exact ih (c - (j + 1)) (by omega) (j + 1) x3' rfl (by omega) h2
        have ex : ∀ o, ¬ o = j → decide (o < j + 1) = decide (o < j) := by
          intro o ho
          by_cases e : o < j
          · rw [decide_eq_true e, decide_eq_true (by omega)]
          · rw [decide_eq_false e, decide_eq_false (by omega)]
        refine ⟨hin, ?_⟩
        rw [nI_clamp (by omega), hG.2.1 j (by omega) hl, ea]
        refine e_hasX (by omega) (fun h0 => iz (nx x3 (fun o ho => ?_))) (fun h0 => oi (fun v ev => nx v (fun o ho => ?_)))
        · rw [hx o ho]
          by_cases e : o = j
          · subst e
            rw [ea, cN_nI (by omega), h0, Bool.and_false, Bool.and_false]
          · rw [ex o e]
        · rw [ev, hb_or, hx o ho, hb_bit (by omega) ho]
          by_cases e : o = j
          · subst e
            rw [ea, cN_nI (by omega), h0, decide_eq_true rfl, decide_eq_true (show o < o + 1 by omega)]
            simp
          · rw [ex o e, de_ne e, Bool.or_false]
  exact loop _ 0 0 rfl (by omega) (fun o ho => by rw [hb_0, decide_eq_false (by omega)]; rfl)
theorem i_le {x y : Int32} : (x ≤ y) ↔ ¬ y < x := by
  rw [Int32.le_iff_toInt_le, Int32.lt_iff_toInt_lt]; omega
theorem i_eq {x y : Int32} : (x = y) ↔ (¬ y < x ∧ ¬ x < y) := by
  rw [Int32.lt_iff_toInt_lt, Int32.lt_iff_toInt_lt, ← Int32.toInt_inj]; omega
/-- whether it is wrong -/
theorem e_wrongX {K h l : Int32} {post : Int32 → Prop} (hK : K = 0 ∨ K = 1 ∨ K = 2) (hp : ∀ w : Bool, w = (!decide (K = 0) && (decide (l < h) || (!decide (K = 2) && decide (h = l)))) → post (bI w)) : q_z_X3_isWrong_0 K h l post := by
  rcases hK with rfl | rfl | rfl
  · exact ⟨fun _ => ⟨fun _ => hp false (by rfl), fun h9 => absurd h9 (by decide)⟩, fun h9 => absurd h9 (by decide)⟩
  · refine ⟨fun h9 => absurd rfl h9, fun _ => ⟨fun hlt => hp false ?_, fun hlt => hp true ?_⟩⟩
    · rw [decide_eq_false (fun h9 : l < h => by have := r_lt h9; have := r_lt hlt; omega), decide_eq_false (fun h9 : h = l => by rw [h9] at hlt; have := r_lt hlt; omega)]
      rfl
    · by_cases e : l < h
      · rw [decide_eq_true e]; rfl
      · rw [decide_eq_true (i_eq.mpr ⟨e, hlt⟩)]
        rw [decide_eq_false e]; rfl
  · refine ⟨fun _ => ⟨fun h9 => absurd rfl h9, fun _ => ⟨fun hle => hp false ?_, fun hle => hp true ?_⟩⟩, fun h9 => absurd h9 (by decide)⟩
    · rw [decide_eq_false (i_le.mp hle)]
      rfl
    · rw [decide_eq_true (Decidable.not_not.mp (fun h9 => hle (i_le.mpr h9)))]
      rfl
def wI (b : Bool) : Int32 := if b = true then 1 else 0
theorem e_raiseX {K x : Int32} {s : Nat} {b : Bool} {post : Int32 → Int32 → Int32 → (Nat → Int32) → (Nat → Int32) → (Nat → Int32) → Prop} (hR : RNG td) (hN : NOK td S) (hG : XG td S mi av be cl hu kn lv sn) (hD : LX td huts singers dams echoes deep heights ladders minutes echoFrom echoTo talls) (hs : s < 6) (hl : nI s < td 1) (hK : K = 0 ∨ K = 1 ∨ K = 2) (hb1 : b = !decide (K = 0))
    (h0 : mayR td (S 0) (S 1) (S 5 0) s x b = false → post 0 av be kn lv sn)
    (h1 : ∀ t, t < 5 → x = nI t → mayR td (S 0) (S 1) (S 5 0) s (nI t) b = true → ∀ w, w = (!decide (K = 0) && wrongR td (S 0) (S 2) (S 4) s t (decide (K = 2))) → ∀ kn' lv' sn', (∀ j, j < 6 → kn' j = knS td (S 0) (S 1) s t j) → (∀ j, j < 5 → lv' j = upd (S 4) t (hgh td (S 0) (S 2) s) j) → (∀ j, j < 9 → sn' j = upd (S 3) (cN (S 0 s)) (S 3 (cN (S 0 s)) + wI w) j) → post 1 (S 5 2 + wI w) (S 5 0 ||| bitI t) kn' lv' sn') :
    q_wn_X3_raise_6_0 av be cl hu kn lv sn singers dams echoes heights ladders echoFrom echoTo talls K (nI s) x post := by
  obtain ⟨a, ea, -, ha8, -⟩ := iv_nI (hN.1 s hs) (by decide)
  have hin : vp_in (nI s) 6 := vp_in_nI hs (by omega)
  have hin9 : vp_in (nI a) 9 := vp_in_nI (by omega) (by omega)
  refine ⟨hin, fun v1 e1 => ?_⟩
  rw [nI_clamp (by omega), hG.2.1 s hs hl, ea] at e1
  subst e1
  refine ⟨fun hneg => h0 ?_, fun hneg => ⟨fun h5 => h0 ?_, fun h5 => ⟨hin, ?_⟩⟩⟩
  · unfold mayR
    rw [decide_eq_false (fun h9 => absurd hneg (Int32.not_lt.mpr h9.1))]
    rfl
  · unfold mayR
    rw [decide_eq_false (fun h9 => absurd h9.2 (Int32.not_lt.mpr h5))]
    rfl
  obtain ⟨t, ht, rfl⟩ := lt_nI (c := 5) (m := 5) (iv_lit (by decide)) ⟨Int32.not_lt.mp hneg, Int32.not_le.mp h5⟩
  have em : ∀ b, mayR td (S 0) (S 1) (S 5 0) s (nI t) b = (hb (S 1 s) t && (hb (S 5 0) t == b) && !dam td a) := by
    intro b
    unfold mayR
    rw [decide_eq_true ⟨nI_pos' (by omega), nI_lt (b := 5) ht (by omega)⟩, cN_nI (by omega), ea, cN_nI (by omega), Bool.true_and]
  rw [em] at h0
  rw [nI_clamp (by omega), hG.2.2.1 s hs]
  refine e_hasX (by omega) (fun hk0 => iz (h0 (by rw [hk0]; rfl))) (fun hk1 => oi ?_)
  rw [hD.2.2.1]
  refine e_damX (by omega) (fun hd0 => iz ?_) (fun hd1 => oi (h0 (by unfold dam; rw [hd1, Bool.not_true, Bool.and_false])))
  rw [hG.2.2.2.2.2.1]
  have hd0' : dam td a = false := hd0
  -- the sound itself
  have go : ∀ y0 y1 : Int32, ¬ y0 = y1 → (hb (S 5 0) t == b) = true → q_wn_X3_raise_6_62 av (S 5 0) cl hu kn lv sn singers (td 3) echoes heights ladders echoFrom echoTo talls K (nI s) (nI t) (nI a) y0 y1 post := by
    intro y0 y1 hy hbb
    refine ⟨fun _ => ?_, fun h9 => absurd h9 hy⟩
    have hm : mayR td (S 0) (S 1) (S 5 0) s (nI t) b = true := by rw [em, hk1, hbb, hd0']; rfl
    refine e_highX hR hN hG hD hs hl ⟨vp_in_nI ht (by omega), ?_⟩
    rw [nI_clamp (by omega), hG.2.2.2.1 t ht]
    refine e_wrongX hK (fun w ew => ?_)
    have h1' := h1 t ht rfl hm w (by rw [ew]; rfl)
    rw [ea, cN_nI (by omega)] at h1'
    have s112 : ∀ sn' : Nat → Int32, (∀ j, j < 9 → sn' j = upd (S 3) a (S 3 a + wI w) j) → q_wn_X3_raise_6_112 (S 5 2 + wI w) (S 5 0) cl hu kn lv sn' singers (td 3) echoes heights ladders echoFrom echoTo talls (nI t) (nI a) (hgh td (S 0) (S 2) s) post := by
      intro sn' hsn v1 e1
      refine ⟨vp_in_nI ht (by omega), fun lv1 e2 => ?_⟩
      rw [nI_clamp (by omega)] at e2
      refine e_earX hR rfl hD.2.2.2.1 hD.2.2.2.2.2.2.2.2.1 (by omega) (fun set hset => ?_)
      refine e_singersInX hR hN hG hD.2.1 (fun set2 hset2 => ?_)
      have b1 : iv 0 6 (td 1) := hR 1 (by omega)
      obtain ⟨c, hc, -, hc6, -⟩ := iv_nI b1 (by decide)
      have e1' : v1 = S 5 0 ||| bitI t := e1
      have e2' : ∀ j, j < 5 → lv1 j = upd (S 4) t (hgh td (S 0) (S 2) s) j := by
        intro j hj
        rw [e2]
        by_cases e : j = t
        · rw [e, up_s, up_s]
        · rw [up_n e, up_n e]; exact hG.2.2.2.1 j hj
      intro P hP
      have loop : ∀ m j (kn1 : Nat → Int32), m = c - j → j ≤ c → (∀ o, o < 6 → kn1 o = if o < j ∧ hear td a (cN (S 0 o)) = true then S 1 o ||| bitI t else S 1 o) → P (nI j) kn1 := by
        intro m
        induction m using Nat.strongRecOn with
        | ind m ih =>
          intro j kn1 hm2 hj hx
          apply hP
          rw [hD.2.1, hc]
          refine pk_le c j (fun h9 => ?_) (fun h9 => ?_)
          · rw [e1']
            refine h1' kn1 lv1 sn' (fun o ho => ?_) e2' hsn
            rw [hx o ho]
            unfold knS
            rw [hc, cN_nI (by omega), ea, cN_nI (by omega), show j = c by omega]
          · have hinj : vp_in (nI j) 6 := vp_in_nI (by omega) (by omega)
            have hlj : nI j < td 1 := by rw [hc]; exact nI_lt h9 (by omega)
            obtain ⟨a2, ea2, -, ha28, -⟩ := iv_nI (hN.1 j (by omega)) (by decide)
            have hs2 : hb set2 j = hear td a a2 := by
              rw [hset2 j (by omega), decide_eq_true hlj, Bool.true_and, ea2, cN_nI (by omega), hset a2 (by omega)]
            have nx : ∀ kn2 : Nat → Int32, (∀ o, o < 6 → kn2 o = if o < j + 1 ∧ hear td a (cN (S 0 o)) = true then S 1 o ||| bitI t else S 1 o) → q_wn_X3_raise_6_183 P (S 5 2 + wI w) v1 cl hu kn2 lv1 sn' (nI c) (td 3) echoes heights ladders echoFrom echoTo talls (nI t) set2 (nI j) post := by
              intro kn2 h2 v ev
              rw [ev, nI_1]
              exact ih (c - (j + 1)) (by omega) (j + 1) kn2 rfl (by omega) h2
            have ot : ∀ o, o < 6 → ¬ o = j → (if o < j + 1 ∧ hear td a (cN (S 0 o)) = true then S 1 o ||| bitI t else S 1 o) = (if o < j ∧ hear td a (cN (S 0 o)) = true then S 1 o ||| bitI t else S 1 o) := by
              intro o ho hoj
              by_cases e : o < j ∧ hear td a (cN (S 0 o)) = true
              · rw [if_pos e, if_pos ⟨by omega, e.2⟩]
              · rw [if_neg e, if_neg (fun h8 => e ⟨by omega, h8.2⟩)]
            refine e_hasX (by omega) (fun hh0 => iz (nx kn1 (fun o ho => ?_))) (fun hh1 => oi ⟨hinj, fun v ev => ⟨hinj, fun kn2 ek => nx kn2 (fun o ho => ?_)⟩⟩)
            · by_cases e : o = j
              · subst e
                rw [hx o ho, if_neg (fun h8 => absurd h8.1 (by omega)), if_neg (fun h8 => ?_)]
                rw [ea2, cN_nI (by omega), ← hs2, hh0] at h8
                exact absurd h8.2 (by decide)
              · rw [hx o ho, ot o ho e]
            · rw [nI_clamp (by omega)] at ev ek
              rw [ek]
              by_cases e : o = j
              · subst e
                rw [up_s, ev, hx o ho, if_neg (fun h8 => absurd h8.1 (by omega)), if_pos ⟨by omega, by rw [ea2, cN_nI (by omega), ← hs2, hh1]⟩]
                rfl
              · rw [up_n e, hx o ho, ot o ho e]
      exact loop _ 0 kn rfl (by omega) (fun o ho => by rw [if_neg (fun h8 => absurd h8.1 (by omega))]; exact hG.2.2.1 o ho)
    cases w with
    | false =>
      refine iz ?_
      have e9 : av = S 5 2 + wI false := by rw [hG.2.2.2.2.2.2.2]; show S 5 2 = S 5 2 + 0; rw [Int32.add_zero]
      rw [e9]
      refine s112 sn (fun j hj => ?_)
      show sn j = upd (S 3) a (S 3 a + 0) j
      rw [Int32.add_zero, hG.2.2.2.2.1 j hj]
      by_cases e : j = a
      · rw [e, up_s]
      · rw [up_n e]
    | true =>
      refine oi (fun v2 e2 => ⟨hin9, fun v3 e3 => ⟨hin9, fun sn1 e4 => ?_⟩⟩)
      rw [nI_clamp (by omega)] at e3 e4
      have e9 : v2 = S 5 2 + wI true := by rw [e2, hG.2.2.2.2.2.2.2]; rfl
      rw [e9]
      refine s112 sn1 (fun j hj => ?_)
      rw [e4, e3]
      by_cases e : j = a
      · rw [e, up_s, up_s, hG.2.2.2.2.1 a (by omega)]; rfl
      · rw [up_n e, up_n e]; exact hG.2.2.2.2.1 j hj
  have no : ∀ y : Int32, (hb (S 5 0) t == b) = false → q_wn_X3_raise_6_62 av (S 5 0) cl hu kn lv sn singers (td 3) echoes heights ladders echoFrom echoTo talls K (nI s) (nI t) (nI a) y y post := by
    intro y hbb
    refine ⟨fun h9 => absurd rfl h9, fun _ => ?_⟩
    have := h0 (by rw [hbb, Bool.and_false]; rfl)
    rw [hG.2.2.2.2.2.1] at this
    exact this
  refine e_hasX (by omega) (fun hb0 => ⟨fun hk0 => no 0 ?_, fun hk0 => go 0 1 (by decide) ?_⟩) (fun hb0 => ⟨fun hk0 => go 1 0 (by decide) ?_, fun hk0 => no 1 ?_⟩)
  · rw [hb0, hb1, decide_eq_false hk0]; rfl
  · rw [hb0, hb1, decide_eq_true hk0]; rfl
  · rw [hb0, hb1, decide_eq_false hk0]; rfl
  · rw [hb0, hb1, decide_eq_true hk0]; rfl
end
end
section
theorem e_hsX {c x : Int32} {post : Int32 → Prop} (h0 : ¬ (0 ≤ x ∧ x < c) → post 0) (h1 : 0 ≤ x ∧ x < c → post 1) : q_wl_X2_hasSinger_0 c x post := ⟨fun h => h0 (fun h9 => absurd h (Int32.not_lt.mpr h9.1)), fun h => ⟨fun h9 => h0 (fun h8 => absurd h8.2 (Int32.not_lt.mpr h9)), fun h9 => h1 ⟨Int32.not_lt.mp h, Int32.not_le.mp h9⟩⟩⟩
theorem e_hhX {c x : Int32} {post : Int32 → Prop} (h0 : ¬ (0 ≤ x ∧ x < c) → post 0) (h1 : 0 ≤ x ∧ x < c → post 1) : q_wl_X2_hasHut_0 c x post := ⟨fun h => h0 (fun h9 => absurd h (Int32.not_lt.mpr h9.1)), fun h => ⟨fun h9 => h0 (fun h8 => absurd h8.2 (Int32.not_lt.mpr h9)), fun h9 => h1 ⟨Int32.not_lt.mp h, Int32.not_le.mp h9⟩⟩⟩
section
variable {td : Nat → Int32} {S : Nat → Nat → Int32} {mi av be cl : Int32} {hu kn lv sn : Nat → Int32} {huts singers dams echoes deep : Int32} {heights ladders minutes echoFrom echoTo talls : Nat → Int32}
theorem e_cutX {h : Nat} {sn' : Nat → Int32} {post : Int32 → Prop} (hd : deep = td 5) (hh : h < 9) (hs : sn h = sn' h) (h0 : decide (sn' h < td 5) = true → post 0) (h1 : decide (sn' h < td 5) = false → post 1) : q_wn_X3_isCut_6_0 sn deep (nI h) post := by
  refine ⟨vp_in_nI hh (by omega), ?_⟩
  rw [nI_clamp (by omega), hd, hs]
  exact ⟨fun h => h0 (decide_eq_true h), fun h => h1 (decide_eq_false h)⟩
theorem e_walkX {s : Nat} {x : Int32} {post : Int32 → Int32 → (Nat → Int32) → Prop} (hR : RNG td) (hN : NOK td S) (hG : XG td S mi av be cl hu kn lv sn) (hD : LX td huts singers dams echoes deep heights ladders minutes echoFrom echoTo talls) (hs : s < 6) (hl : nI s < td 1)
    (h0 : mayW td (S 0) (S 2) (S 3) s x = false → post 0 mi hu) (h1 : mayW td (S 0) (S 2) (S 3) s x = true → ∀ hu', (∀ j, j < 6 → nI j < td 1 → hu' j = upd (S 0) s x j) → post 1 (S 5 1 + td (51 + 9 * cN (S 0 s) + cN x)) hu') : q_wn_X3_walk_6_0 mi cl hu sn huts deep minutes (nI s) x post := by
  obtain ⟨a, ea, -, ha8, -⟩ := iv_nI (hN.1 s hs) (by decide)
  have hin : vp_in (nI s) 6 := vp_in_nI hs (by omega)
  unfold mayW at h0 h1
  refine ⟨hin, fun v1 e1 => ?_⟩
  rw [nI_clamp (by omega), hG.2.1 s hs hl, ea] at e1
  subst e1
  rw [hD.1]
  refine e_hhX (fun hn => iz (h0 (by rw [decide_eq_false hn]; rfl))) (fun hy => oi ?_)
  obtain ⟨y, hy9, rfl⟩ := lt_nI (m := 9) (hR 0 (by omega)) hy
  rw [decide_eq_true hy, ea, cN_nI (by omega), cN_nI (by omega)] at h0 h1
  have ec : decide (S 2 s = 1) = hb cl s := (hG.1 s hs).symm
  rw [ec] at h0 h1
  refine e_hasX (by omega) (fun hc => zi ?_) (fun hc => io (h0 (by rw [hc]; simp)))
  rw [hc] at h0 h1
  refine e_cutX hD.2.2.2.2.1 (by omega) (hG.2.2.2.2.1 a (by omega)) (fun q1 => zi ?_) (fun q1 => io (h0 (by rw [q1]; simp)))
  rw [q1] at h0 h1
  refine e_cutX hD.2.2.2.2.1 (by omega) (hG.2.2.2.2.1 y (by omega)) (fun q2 => iz ?_) (fun q2 => oi (h0 (by rw [q2]; simp)))
  rw [q2] at h0 h1
  have ei : (nI a * 9) + nI y = nI (9 * a + y) := by rw [jx9, Nat.mul_comm]
  rw [ei]
  refine ⟨vp_in_nI (by omega) (by omega), fun v2 e2 => ?_⟩
  rw [nI_clamp (by omega), hD.2.2.2.2.2.2.2.1 (9 * a + y) (by omega), show 51 + (9 * a + y) = 51 + 9 * a + y by omega] at e2
  subst e2
  refine ⟨fun hz => fun v3 e3 => ⟨hin, fun hu1 e4 => ?_⟩, fun hz => h0 (by rw [decide_eq_true hz]; rfl)⟩
  rw [decide_eq_false hz] at h1
  rw [nI_clamp (by omega)] at e4
  rw [e3, hG.2.2.2.2.2.2.1]
  refine h1 rfl hu1 (fun j hj hlj => ?_)
  rw [e4]
  by_cases e : j = s
  · rw [e, up_s, up_s]
  · rw [up_n e, up_n e]; exact hG.2.1 j hj hlj
theorem e_actX {K s x : Int32} {post : Int32 → Int32 → Int32 → Int32 → Int32 → (Nat → Int32) → (Nat → Int32) → (Nat → Int32) → (Nat → Int32) → Prop} (hR : RNG td) (hN : NOK td S) (hG : XG td S mi av be cl hu kn lv sn) (hD : LX td huts singers dams echoes deep heights ladders minutes echoFrom echoTo talls) (hK : iv 0 5 K)
    (hp : ∀ mi' av' be' cl' hu' kn' lv' sn', XG td (actS td K s x S).2 mi' av' be' cl' hu' kn' lv' sn' → post (bI (actS td K s x S).1) mi' av' be' cl' hu' kn' lv' sn') : q_wn_X3_act_6_0 mi av be cl hu kn lv sn huts singers dams echoes deep heights ladders minutes echoFrom echoTo talls K s x post := by
  have h1 : iv 0 6 (td 1) := hR 1 (by omega)
  unfold actS act at hp
  refine e_hsX (fun hn => zi ?_) (fun hy => io ?_)
  · rw [hD.2.1] at hn
    rw [if_pos hn] at hp
    exact hp mi av be cl hu kn lv sn hG
  rw [hD.2.1] at hy
  rw [if_neg (fun h9 => h9 hy)] at hp
  obtain ⟨s', hs', rfl⟩ := lt_nI (m := 6) h1 hy
  rw [cN_nI (by omega)] at hp
  have hl : nI s' < td 1 := hy.2
  have hin : vp_in (nI s') 6 := vp_in_nI hs' (by omega)
  refine ⟨fun hr => ?_, fun h3 => ?_, fun h4 => ?_, fun h5 => ?_⟩
  · have hK3 : K = 0 ∨ K = 1 ∨ K = 2 := by
      have := hK.1
      have := hK.2
      have e0 : (0 : Int32).toInt = 0 := rfl
      have e1 : (1 : Int32).toInt = 1 := rfl
      have e2 : (2 : Int32).toInt = 2 := rfl
      have hc : K.toInt = 0 ∨ K.toInt = 1 ∨ K.toInt = 2 := by omega
      rcases hc with h | h | h
      · exact Or.inl (Int32.toInt_inj.mp (h.trans e0.symm))
      · exact Or.inr (Or.inl (Int32.toInt_inj.mp (h.trans e1.symm)))
      · exact Or.inr (Or.inr (Int32.toInt_inj.mp (h.trans e2.symm)))
    refine e_raiseX hR hN hG hD hs' hl hK3 rfl (fun hf => ⟨rfl, ?_⟩) (fun t ht ex hm w ew kn' lv' sn' ekn elv esn => ⟨rfl, ?_⟩)
    · rcases hK3 with rfl | rfl | rfl
      · rw [if_pos rfl, if_neg (by rw [show mayR td (S 0) (S 1) (S 5 0) s' x false = false from hf]; decide)] at hp
        exact hp mi av be cl hu kn lv sn hG
      · rw [if_neg (by decide), if_pos (Or.inl rfl), if_neg (by rw [show mayR td (S 0) (S 1) (S 5 0) s' x true = false from hf]; decide)] at hp
        exact hp mi av be cl hu kn lv sn hG
      · rw [if_neg (by decide), if_pos (Or.inr rfl), if_neg (by rw [show mayR td (S 0) (S 1) (S 5 0) s' x true = false from hf]; decide)] at hp
        exact hp mi av be cl hu kn lv sn hG
    · subst ex
      rw [cN_nI (by omega)] at hp
      rcases hK3 with rfl | rfl | rfl
      · rw [if_pos rfl, if_pos (show mayR td (S 0) (S 1) (S 5 0) s' (nI t) false = true from hm)] at hp
        have ew' : w = false := ew
        subst ew'
        refine hp mi _ _ cl hu kn' lv' sn' ⟨hG.1, hG.2.1, ekn, elv, fun j hj => ?_, rfl, hG.2.2.2.2.2.2.1, ?_⟩
        · rw [esn j hj]
          show upd (S 3) _ (S 3 _ + 0) j = S 3 j
          rw [Int32.add_zero]
          by_cases e : j = cN (S 0 s')
          · rw [e, up_s]
          · rw [up_n e]
        · show S 5 2 + 0 = S 5 2
          rw [Int32.add_zero]
      · rw [if_neg (by decide), if_pos (Or.inl rfl), if_pos (show mayR td (S 0) (S 1) (S 5 0) s' (nI t) true = true from hm)] at hp
        have ew' : w = wrongR td (S 0) (S 2) (S 4) s' t (decide ((1 : Int32) = 2)) := ew
        subst ew'
        exact hp mi _ _ cl hu kn' lv' sn' ⟨hG.1, hG.2.1, ekn, elv, esn, rfl, hG.2.2.2.2.2.2.1, rfl⟩
      · rw [if_neg (by decide), if_pos (Or.inr rfl), if_pos (show mayR td (S 0) (S 1) (S 5 0) s' (nI t) true = true from hm)] at hp
        have ew' : w = wrongR td (S 0) (S 2) (S 4) s' t (decide ((2 : Int32) = 2)) := ew
        subst ew'
        exact hp mi _ _ cl hu kn' lv' sn' ⟨hG.1, hG.2.1, ekn, elv, esn, rfl, hG.2.2.2.2.2.2.1, rfl⟩
  · subst h3
    rw [if_neg (by decide), if_neg (by decide), if_pos rfl] at hp
    refine e_walkX hR hN hG hD hs' hl (fun hf => ⟨rfl, ?_⟩) (fun ht hu' ehu => ⟨rfl, ?_⟩)
    · rw [if_neg (by rw [hf]; decide)] at hp
      exact hp mi av be cl hu kn lv sn hG
    · rw [if_pos ht] at hp
      exact hp _ av be cl hu' kn lv sn ⟨hG.1, ehu, hG.2.2.1, hG.2.2.2.1, hG.2.2.2.2.1, hG.2.2.2.2.2.1, rfl, hG.2.2.2.2.2.2.2⟩
  · subst h4
    rw [if_neg (by decide), if_neg (by decide), if_neg (by decide), if_pos rfl] at hp
    obtain ⟨a, ea, -, ha8, -⟩ := iv_nI (hN.1 s' hs') (by decide)
    rw [ea, cN_nI (by omega)] at hp
    refine e_hasX (by omega) (fun hc => zi ⟨hin, ?_⟩) (fun hc => io ⟨rfl, ?_⟩)
    · rw [nI_clamp (by omega), hG.2.1 s' hs' hl, ea]
      refine ⟨vp_in_nI (by omega) (by omega), ?_⟩
      rw [nI_clamp (by omega), hD.2.2.2.2.2.2.1 a (by omega)]
      rw [hG.1 s' hs'] at hc
      have hc1 := of_decide_eq_false hc
      refine ⟨fun hz v ev => ⟨rfl, ?_⟩, fun hz => ⟨rfl, ?_⟩⟩
      · rw [if_pos ⟨hz, hc1⟩] at hp
        refine hp mi av be v hu kn lv sn ⟨fun j hj => ?_, hG.2⟩
        show hb v j = decide (upd (S 2) s' 1 j = 1)
        rw [ev, hb_or, hb_bit (by omega) (by omega), hG.1 j hj]
        by_cases e : j = s'
        · subst e; rw [up_s, decide_eq_true (rfl : j = j), Bool.or_true]; rfl
        · rw [up_n e, de_ne e, Bool.or_false]
      · rw [if_neg (fun h9 => h9.1 hz)] at hp
        exact hp mi av be cl hu kn lv sn hG
    · rw [hG.1 s' hs'] at hc
      rw [if_neg (fun h9 => h9.2 (of_decide_eq_true hc))] at hp
      exact hp mi av be cl hu kn lv sn hG
  · subst h5
    rw [if_neg (by decide), if_neg (by decide), if_neg (by decide), if_neg (by decide)] at hp
    have hz2 : S 2 s' = 0 ↔ hb cl s' = false := by
      rw [hG.1 s' hs']
      rcases hN.2.2.1 s' hs' with h | h
      · rw [h]; decide
      · rw [h]; decide
    refine e_hasX (by omega) (fun hc => zi ⟨rfl, ?_⟩) (fun hc => io (fun v ev => ⟨rfl, ?_⟩))
    · rw [if_neg (fun h9 => h9 (hz2.mpr hc))] at hp
      exact hp mi av be cl hu kn lv sn hG
    · rw [if_pos (fun h9 => by rw [hz2.mp h9] at hc; exact absurd hc (by decide))] at hp
      refine hp mi av be v hu kn lv sn ⟨fun j hj => ?_, hG.2⟩
      show hb v j = decide (upd (S 2) s' 0 j = 1)
      rw [ev, hb_and, hb_not _ (by omega), hb_bit (by omega) (by omega), hG.1 j hj]
      by_cases e : j = s'
      · subst e; rw [up_s, decide_eq_true (rfl : j = j), Bool.not_true, Bool.and_false]; rfl
      · rw [up_n e, de_ne e, Bool.not_false, Bool.and_true]
theorem e_startX {homes known : Nat → Int32} {post : Int32 → Int32 → Int32 → Int32 → (Nat → Int32) → (Nat → Int32) → (Nat → Int32) → (Nat → Int32) → Prop} (hh : ∀ j : Nat, j < 6 → nI j < td 1 → homes j = td (25 + j)) (hk : ∀ j, j < 6 → known j = td (37 + j)) (hp : ∀ hu' kn' lv' sn', XG td (S0 td) 0 0 0 0 hu' kn' lv' sn' → post 0 0 0 0 hu' kn' lv' sn') : q_wn_X3_start_6_0 mi av be cl hu kn lv sn homes known post := by
  intro hu1 e1 kn1 e2
  have c1 : ∀ j, j < 6 → hu1 j = homes j := cpy0 e1 rfl
  have c2 : ∀ j, j < 6 → kn1 j = known j := cpy0 e2 rfl
  intro P hP
  have loop : ∀ m i (lv1 : Nat → Int32), m = 5 - i → i ≤ 5 → (∀ j, j < i → lv1 j = -1) → P (nI i) lv1 := by
    intro m
    induction m using Nat.strongRecOn with
    | ind m ih =>
      intro i lv1 hm hi hI
      apply hP
      refine pk_le 5 i (fun h5 => ?_) (fun h5 => ⟨vp_in_nI h5 (by omega), fun lv2 e3 v e4 => ?_⟩)
      · intro P2 hP2
        have loop2 : ∀ m i (sn1 : Nat → Int32), m = 9 - i → i ≤ 9 → (∀ j, j < i → sn1 j = 0) → P2 (nI i) sn1 := by
          intro m
          induction m using Nat.strongRecOn with
          | ind m ih2 =>
            intro i sn1 hm hi hS
            apply hP2
            refine pk_le 9 i (fun h9 => ?_) (fun h9 => ⟨vp_in_nI h9 (by omega), fun sn2 e1 v e2 => ?_⟩)
            · refine hp hu1 kn1 lv1 sn1 ⟨fun j hj => by rw [hb_0]; rfl, fun j hj hl => (c1 j hj).trans (hh j hj hl), fun j hj => (c2 j hj).trans (hk j hj), fun t ht => hI t (by omega), fun j hj => hS j (by omega), rfl, rfl, rfl⟩
            · rw [e2, nI_1]
              refine ih2 (9 - (i + 1)) (by omega) (i + 1) sn2 rfl (by omega) (fun j hj => ?_)
              rw [e1, nI_clamp (by omega)]
              by_cases hji : j = i
              · rw [hji, up_s]
              · rw [up_n hji]; exact hS j (by omega)
        exact loop2 _ 0 sn rfl (by omega) (fun j hj => absurd hj (by omega))
      · rw [e4, nI_1]
        refine ih (5 - (i + 1)) (by omega) (i + 1) lv2 rfl (by omega) (fun j hj => ?_)
        rw [e3, nI_clamp (by omega)]
        by_cases hji : j = i
        · rw [hji, up_s]
        · rw [up_n hji]; exact hI j (by omega)
  exact loop _ 0 lv rfl (by omega) (fun j hj => absurd hj (by omega))
theorem e_playX {ev : Nat → Int32} {villages slide : Int32} {homes known : Nat → Int32} {deeds : Int32} {kinds firsts seconds : Nat → Int32} {n : Nat} {post : Int32 → Int32 → Int32 → Int32 → Int32 → (Nat → Int32) → (Nat → Int32) → (Nat → Int32) → (Nat → Int32) → Prop} (hR : RNG td) (hO : LOK td) (hD : LDR huts singers villages dams echoes deep slide heights ladders minutes echoFrom echoTo homes talls known td) (hE : R3 deeds kinds firsts seconds ev) (hEi : iv 0 40 (ev 0)) (hEk : ∀ j, j < 40 → iv 0 5 (ev (1 + 3 * j))) {x : Int32} (hx : x = nI n) (hn : nI n ≤ deeds) (hn40 : n ≤ 40)
    (hp : ∀ mi' av' be' cl' hu' kn' lv' sn', XG td (plays td ev n 0 (S0 td)).2 mi' av' be' cl' hu' kn' lv' sn' → post (nI (plays td ev n 0 (S0 td)).1) mi' av' be' cl' hu' kn' lv' sn') : q_wn_X3_play_6_15_0 mi av be cl hu kn lv sn huts singers dams echoes deep heights ladders minutes echoFrom echoTo homes talls known deeds kinds firsts seconds x post := by
  subst hx
  have hX := LX_of hR hD
  obtain ⟨c, hc, -, hc40, -⟩ := iv_nI hEi (by decide)
  have hdc : deeds = nI c := hE.1.trans hc
  have hnc : n ≤ c := by rw [hdc] at hn; exact (nI_leI (by omega) (by omega)).mp hn
  have b1 : iv 0 (6 : Nat) (td 1) := hR 1 (by omega)
  refine e_startX (fun j hj hl => (hD.2.2.2.2.2.2.2.2.2.2.2.1 j (lt_cln b1 (by omega) hl (by omega))).1) hD.2.2.2.2.2.2.2.2.2.2.2.2 (fun hu1 kn1 lv1 sn1 hG1 => ?_)
  intro P hP
  have loop : ∀ m j (S : Nat → Nat → Int32) mi av be cl hu kn lv sn, m = n - j → j ≤ n → NOK td S → XG td S mi av be cl hu kn lv sn → (∀ mi' av' be' cl' hu' kn' lv' sn', XG td (plays td ev m j S).2 mi' av' be' cl' hu' kn' lv' sn' → post (nI (plays td ev m j S).1) mi' av' be' cl' hu' kn' lv' sn') → P (nI j) mi av be cl hu kn lv sn := by
    intro m
    induction m with
    | zero =>
      intro j S mi av be cl hu kn lv sn hm hj hN hG hq
      apply hP
      have e1 : j = n := by omega
      subst e1
      exact pk_le j j (fun _ => hq _ _ _ _ _ _ _ _ hG) (fun h9 => absurd h9 (by omega))
    | succ m ih =>
      intro j S mi av be cl hu kn lv sn hm hj hN hG hq
      apply hP
      refine pk_le n j (fun h9 => absurd h9 (by omega)) (fun h9 => ?_)
      rw [hdc]
      refine pk_le c j (fun h8 => absurd h8 (by omega)) (fun h8 => ?_)
      have hin : vp_in (nI j) 40 := vp_in_nI (by omega) (by omega)
      refine ⟨hin, hin, hin, ?_⟩
      obtain ⟨k1, k2, k3⟩ := hE.2 j (by rw [hc, nI_clamp (by omega)]; omega)
      rw [nI_clamp (by omega), k1, k2, k3]
      unfold plays at hq
      refine e_actX hR hN hG hX (hEk j (by omega)) (fun mi' av' be' cl' hu' kn' lv' sn' hG' => ?_)
      have ok := act_ok (k := ev (1 + 3 * j)) (s := ev (2 + 3 * j)) (x := ev (3 + 3 * j)) hR hN
      by_cases hb1 : (actS td (ev (1 + 3 * j)) (ev (2 + 3 * j)) (ev (3 + 3 * j)) S).1 = true
      · rw [hb1]
        rw [if_pos hb1] at hq
        refine ⟨fun _ v ev2 => ?_, fun h7 => absurd h7 (by decide)⟩
        rw [ev2, nI_1]
        exact ih (j + 1) _ _ _ _ _ _ _ _ _ (by omega) (by omega) ok hG' hq
      · rw [Bool.not_eq_true] at hb1
        rw [hb1]
        rw [if_neg (by rw [hb1]; decide)] at hq
        exact ⟨fun h7 => absurd rfl h7, fun _ => hq _ _ _ _ _ _ _ _ hG'⟩
  exact loop n 0 (S0 td) _ _ _ _ _ _ _ _ (by omega) (by omega) (S0_ok hR hO) hG1 hp
end
end
section
theorem bit32_tab' : ((List.range 31).all fun i => (List.range 32).all fun k => hb (bitI i) k == decide (i = k)) = true := by decide +kernel
theorem hb_b32' {i k : Nat} (hi : i < 31) (hk : k < 32) : hb (bitI i) k = decide (i = k) := by
  have h := List.all_eq_true.mp (List.all_eq_true.mp bit32_tab' i (List.mem_range.mpr hi)) k (List.mem_range.mpr hk)
  exact eq_of_beq h
theorem lt_le3 {x y z : Int32} (h : x ≤ y) (h2 : y < z) : x < z := by
  rw [Int32.lt_iff_toInt_lt]
  have := r_le h
  have := r_lt h2
  omega
theorem le_tr {x y z : Int32} (h : x ≤ y) (h2 : y ≤ z) : x ≤ z := by
  rw [Int32.le_iff_toInt_le]
  have := r_le h
  have := r_le h2
  omega
theorem le_rf (x : Int32) : x ≤ x := by rw [Int32.le_iff_toInt_le]; omega
theorem gr_l (a b : Int32) : a ≤ gr a b := by
  unfold gr
  split
  · exact le_rf a
  · next h => rw [Int32.le_iff_toInt_le]; exact r_nlt h
theorem gr_r (a b : Int32) : b ≤ gr a b := by
  unfold gr
  split
  · next h => rw [Int32.le_iff_toInt_le]; have := r_lt h; omega
  · exact le_rf b
theorem lH_ge (w : Nat) (a b fh : Int32) : fh ≤ lH w a b fh := by
  unfold lH
  split
  · exact le_tr (gr_l fh a) (gr_l _ b)
  · split
    · exact gr_l fh a
    · exact le_rf fh
/-- huts told of so far are not beyond fh -/
def GO (td : Nat → Int32) (fh : Int32) : Prop := CB 0 td ∧ (∀ s : Nat, s < 6 → nI s < td 1 → td (25 + s) ≤ fh) ∧ (∀ k : Nat, k < 4 → nI k < td 4 → td (43 + 2 * k) ≤ fh ∧ td (44 + 2 * k) ≤ fh) ∧ ∀ h : Nat, h < 32 → hb (td 2) h = true → nI h ≤ fh
theorem GO_of {t td : Nat → Int32} {fh fh' : Int32} (h : GO td fh) (hC : CB 0 t) (h1 : t 1 = td 1) (h4 : t 4 = td 4) (hs : ∀ j, 25 ≤ j → j ≤ 30 → t j = td j) (hk : ∀ j, 43 ≤ j → j ≤ 50 → t j = td j) (hf : fh ≤ fh') (hv : ∀ h : Nat, h < 32 → hb (t 2) h = true → nI h ≤ fh') : GO t fh' := by
  refine ⟨hC, fun s hs6 hl => ?_, fun k hk4 hl => ?_, hv⟩
  · rw [h1] at hl
    rw [hs _ (by omega) (by omega)]
    exact le_tr (h.2.1 s hs6 hl) hf
  · rw [h4] at hl
    rw [hk _ (by omega) (by omega), hk _ (by omega) (by omega)]
    exact ⟨le_tr (h.2.2.1 k hk4 hl).1 hf, le_tr (h.2.2.1 k hk4 hl).2 hf⟩
theorem GO_ln {B : Nat → Int32} {n r w : Nat} {td : Nat → Int32} {fh : Int32} (hw : w < 10) (h : GO td fh) : GO (lD w (gd B n r w (nW w)) (tV B n (ps B n r 1)) (tV B n (ps B n r 2)) (tV B n (ps B n r 3)) td) (lH w (tV B n (ps B n r 1)) (tV B n (ps B n r 2)) fh) := by
  have hC : CB 0 (lD w (gd B n r w (nW w)) (tV B n (ps B n r 1)) (tV B n (ps B n r 2)) (tV B n (ps B n r 3)) td) := CB_ln (by omega) ⟨Nat.zero_le _, hw⟩ h.1
  have hf := lH_ge w (tV B n (ps B n r 1)) (tV B n (ps B n r 2)) fh
  have vv : ∀ {t : Nat → Int32} {fh' : Int32}, fh ≤ fh' → t 2 = td 2 → ∀ h : Nat, h < 32 → hb (t 2) h = true → nI h ≤ fh' := by
    intro t fh' hf e x hx hb1
    rw [e] at hb1
    exact le_tr (h.2.2.2 x hx hb1) hf
  have c0 : iv 0 (9 : Nat) (td 0) := h.1.1
  have c1 : iv 0 (6 : Nat) (td 1) := (h.1.2 rfl).1
  have c4 : iv 0 (4 : Nat) (td 4) := (h.1.2 rfl).2
  obtain ⟨n0, e0, -, hn0, -⟩ := iv_nI c0 (by decide)
  obtain ⟨n1, e1, -, hn1, -⟩ := iv_nI c1 (by decide)
  obtain ⟨n4, e4, -, hn4, -⟩ := iv_nI c4 (by decide)
  have hg : gd B n r w (nW w) = true → ∀ k, k < nW w → cW w k (tV B n (ps B n r 1)) (tV B n (ps B n r (k + 1))) = true := fun hg k hk => gd_c _ hg k hk
  generalize eg : gd B n r w (nW w) = g at hC hg ⊢
  generalize ea : tV B n (ps B n r 1) = a at hC hf hg ⊢
  have hg0 : g = true → cW w 0 a a = true := fun hh => by
    have h9 := hg hh 0 (by have := (nW_tb w (by omega)).2.1; omega)
    rw [show 0 + 1 = 1 from rfl, ea] at h9
    exact h9
  have hg1 : g = true → w = 5 → cW w 1 a (tV B n (ps B n r 2)) = true := fun hh h5 => by
    have h9 := hg hh 1 (by rw [h5]; decide)
    exact h9
  generalize eb : tV B n (ps B n r 2) = b at hC hf hg1 ⊢
  generalize ec : tV B n (ps B n r 3) = c at hC ⊢
  clear hg eg ea eb ec
  have hc : w = 0 ∨ w = 1 ∨ w = 2 ∨ w = 3 ∨ w = 4 ∨ w = 5 ∨ w = 6 ∨ w = 7 ∨ w = 8 ∨ w = 9 := by omega
  rcases hc with rfl | rfl | rfl | rfl | rfl | rfl | rfl | rfl | rfl | rfl
  · have e : ∀ j, ¬ j = 0 → ¬ (7 ≤ j ∧ j ≤ 15) → lD 0 g a b c td j = td j := by
      intro j hj hj2
      show (if td 0 = 9 then td else upd (upd td 0 (td 0 + 1)) (Int32.toNatClampNeg (7 + td 0)) a) j = td j
      split
      · rfl
      · next h9 =>
        have : ¬ n0 = 9 := fun e => h9 (by rw [e0, e]; rfl)
        rw [e0, show (7 : Int32) + nI n0 = nI (7 + n0) from jx 7 n0, nI_clamp (by omega), up_n (by omega), up_n hj]
    exact GO_of h hC (e 1 (by omega) (by omega)) (e 4 (by omega) (by omega)) (fun j _ _ => e j (by omega) (by omega)) (fun j _ _ => e j (by omega) (by omega)) hf (vv hf (e 2 (by omega) (by omega)))
  · have e : ∀ j, ¬ j = 2 → lD 1 g a b c td j = td j := fun j hj => up_n hj
    refine GO_of h hC (e 1 (by omega)) (e 4 (by omega)) (fun j _ _ => e j (by omega)) (fun j _ _ => e j (by omega)) hf (fun x hx hbx => ?_)
    have e2 : lD 1 g a b c td 2 = td 2 ||| (if g = true then 1 <<< (a &&& 31) else 0) := by
      show upd td 2 (td 2 ||| (if g = true then 1 <<< (a &&& 31) else 0)) 2 = _
      rw [up_s]
    rw [e2, hb_or, Bool.or_eq_true] at hbx
    rcases hbx with hbx | hbx
    · exact le_tr (h.2.2.2 x hx hbx) hf
    · by_cases hh : g = true
      · rw [if_pos hh] at hbx
        obtain ⟨p, rfl, -, hp, -⟩ := iv_nI (iv_hut (hg0 hh) (by decide +kernel)) (by decide)
        have e3 : hb (bitI p) x = true := hbx
        rw [hb_b32' (by omega) hx] at e3
        rw [← of_decide_eq_true e3]
        exact gr_r fh (nI p)
      · rw [if_neg hh, hb_0] at hbx
        exact absurd hbx (by decide)
  · have e : ∀ j, ¬ j = 3 → lD 2 g a b c td j = td j := fun j hj => up_n hj
    exact GO_of h hC (e 1 (by omega)) (e 4 (by omega)) (fun j _ _ => e j (by omega)) (fun j _ _ => e j (by omega)) hf (vv hf (e 2 (by omega)))
  · have e : ∀ j, ¬ j = 5 → lD 3 g a b c td j = td j := fun j hj => up_n hj
    exact GO_of h hC (e 1 (by omega)) (e 4 (by omega)) (fun j _ _ => e j (by omega)) (fun j _ _ => e j (by omega)) hf (vv hf (e 2 (by omega)))
  · have e : ∀ j, ¬ j = 6 → lD 4 g a b c td j = td j := fun j hj => up_n hj
    exact GO_of h hC (e 1 (by omega)) (e 4 (by omega)) (fun j _ _ => e j (by omega)) (fun j _ _ => e j (by omega)) hf (vv hf (e 2 (by omega)))
  · have e : ∀ j, j ≤ 50 → lD 5 g a b c td j = td j := by
      intro j hj
      show (if g = true then upd (upd td (Int32.toNatClampNeg ((51 + 9 * a) + b)) c) (Int32.toNatClampNeg ((51 + 9 * b) + a)) c else td) j = td j
      split
      · next hh =>
        obtain ⟨p, rfl, -, hp, -⟩ := iv_nI (iv_hut (hg0 hh) (by decide +kernel)) (by decide)
        obtain ⟨q, rfl, -, hq, -⟩ := iv_nI (iv_hut (hg1 hh rfl) (by decide +kernel)) (by decide)
        rw [ix9, ix9, nI_clamp (by omega), nI_clamp (by omega), up_n (by omega), up_n (by omega)]
      · rfl
    exact GO_of h hC (e 1 (by omega)) (e 4 (by omega)) (fun j _ _ => e j (by omega)) (fun j _ _ => e j (by omega)) hf (vv hf (e 2 (by omega)))
  · have hl1 : a ≤ lH 6 a b fh := le_tr (gr_r fh a) (gr_l _ b)
    have hl2 : b ≤ lH 6 a b fh := gr_r _ b
    have ev : lD 6 g a b c td = (if td 4 = 4 then td else upd (upd (upd td 4 (td 4 + 1)) (Int32.toNatClampNeg (43 + 2 * td 4)) a) (Int32.toNatClampNeg (43 + 2 * td 4 + 1)) b) := rfl
    by_cases h9 : td 4 = 4
    · rw [if_pos h9] at ev
      rw [ev] at hC ⊢
      exact GO_of h hC rfl rfl (fun _ _ _ => rfl) (fun _ _ _ => rfl) hf (vv hf rfl)
    · rw [if_neg h9] at ev
      have hn : ¬ n4 = 4 := fun e => h9 (by rw [e4, e]; rfl)
      have hi : (43 : Int32) + 2 * nI n4 = nI (43 + 2 * n4) := by rw [show (43 : Int32) = nI 43 from rfl, show (2 : Int32) = nI 2 from rfl, pk_mul, nI_add]
      rw [e4, hi, nI_1 n4, nI_1 (43 + 2 * n4), nI_clamp (by omega), nI_clamp (by omega)] at ev
      rw [ev] at hC ⊢
      refine ⟨hC, fun s hs6 hl => ?_, fun k hk4 hl => ?_, vv hf (by rw [up_n (by omega), up_n (by omega), up_n (by omega)])⟩
      · rw [up_n (by omega), up_n (by omega), up_n (by omega)] at hl ⊢
        exact le_tr (h.2.1 s hs6 hl) hf
      · rw [up_n (by omega), up_n (by omega), up_s] at hl
        by_cases hkn : k = n4
        · subst hkn
          rw [up_n (by omega), up_s, show 44 + 2 * k = 43 + 2 * k + 1 by omega, up_s]
          exact ⟨hl1, hl2⟩
        · have hlt : nI k < td 4 := by
            rw [e4]
            have := (nI_ltI (by omega) (by omega)).mp hl
            exact nI_lt (by omega) (by omega)
          rw [up_n (by omega), up_n (by omega), up_n (by omega), up_n (by omega), up_n (by omega), up_n (by omega)]
          exact ⟨le_tr (h.2.2.1 k hk4 hlt).1 hf, le_tr (h.2.2.1 k hk4 hlt).2 hf⟩
  · have e : ∀ j, ¬ (16 ≤ j ∧ j ≤ 24) → lD 7 g a b c td j = td j := by
      intro j hj
      show (if g = true then upd td (Int32.toNatClampNeg (16 + a)) b else td) j = td j
      split
      · next hh =>
        obtain ⟨p, rfl, -, hp, -⟩ := iv_nI (iv_hut (hg0 hh) (by decide +kernel)) (by decide)
        rw [show (16 : Int32) + nI p = nI (16 + p) from jx 16 p, nI_clamp (by omega), up_n (by omega)]
      · rfl
    exact GO_of h hC (e 1 (by omega)) (e 4 (by omega)) (fun j _ _ => e j (by omega)) (fun j _ _ => e j (by omega)) hf (vv hf (e 2 (by omega)))
  · have hl1 : a ≤ lH 8 a b fh := gr_r fh a
    have ev : lD 8 g a b c td = (if td 1 = 6 then td else upd (upd (upd td 1 (td 1 + 1)) (Int32.toNatClampNeg (25 + td 1)) a) (Int32.toNatClampNeg (31 + td 1)) b) := rfl
    by_cases h9 : td 1 = 6
    · rw [if_pos h9] at ev
      rw [ev] at hC ⊢
      exact GO_of h hC rfl rfl (fun _ _ _ => rfl) (fun _ _ _ => rfl) hf (vv hf rfl)
    · rw [if_neg h9] at ev
      have hn : ¬ n1 = 6 := fun e => h9 (by rw [e1, e]; rfl)
      rw [e1, show (25 : Int32) + nI n1 = nI (25 + n1) from jx 25 n1, show (31 : Int32) + nI n1 = nI (31 + n1) from jx 31 n1, nI_1 n1, nI_clamp (by omega), nI_clamp (by omega)] at ev
      rw [ev] at hC ⊢
      refine ⟨hC, fun s hs6 hl => ?_, fun k hk4 hl => ?_, vv hf (by rw [up_n (by omega), up_n (by omega), up_n (by omega)])⟩
      · rw [up_n (by omega), up_n (by omega), up_s] at hl
        by_cases hsn : s = n1
        · subst hsn
          rw [up_n (by omega), up_s]
          exact hl1
        · have hlt : nI s < td 1 := by
            rw [e1]
            have := (nI_ltI (by omega) (by omega)).mp hl
            exact nI_lt (by omega) (by omega)
          rw [up_n (by omega), up_n (by omega), up_n (by omega)]
          exact le_tr (h.2.1 s hs6 hlt) hf
      · rw [up_n (by omega), up_n (by omega), up_n (by omega)] at hl
        rw [up_n (by omega), up_n (by omega), up_n (by omega), up_n (by omega), up_n (by omega), up_n (by omega)]
        exact ⟨le_tr (h.2.2.1 k hk4 hl).1 hf, le_tr (h.2.2.1 k hk4 hl).2 hf⟩
  · have e : ∀ j, ¬ (37 ≤ j ∧ j ≤ 42) → lD 9 g a b c td j = td j := by
      intro j hj
      show (if g = true then upd td (Int32.toNatClampNeg (37 + a)) (td (Int32.toNatClampNeg (37 + a)) ||| 1 <<< (b &&& 31)) else td) j = td j
      split
      · next hh =>
        have h5 : iv 0 5 a := iv_w (cW_iv (hg0 hh)) (by decide +kernel)
        obtain ⟨p, rfl, -, hp, -⟩ := iv_nI h5 (by decide)
        rw [show (37 : Int32) + nI p = nI (37 + p) from jx 37 p, nI_clamp (by omega), up_n (by omega)]
      · rfl
    exact GO_of h hC (e 1 (by omega)) (e 4 (by omega)) (fun j _ _ => e j (by omega)) (fun j _ _ => e j (by omega)) hf (vv hf (e 2 (by omega)))
theorem go_LO {B : Nat → Int32} {n : Nat} : ∀ m r fa pl td fh fs, r ≤ n → n < m + r → GO td fh → (go B n 0 m r fa pl td fh fs).1 = 0 → LOK (go B n 0 m r fa pl td fh fs).2.2 := by
  intro m
  induction m with
  | zero => intro r fa pl td fh fs hr hm; omega
  | succ m ih =>
    intro r fa pl td fh fs hr hm hG h0
    unfold go at h0 ⊢
    by_cases hk : tK B n r = 0
    · rw [if_pos hk] at h0 ⊢
      unfold fin4 at h0 ⊢
      by_cases h4 : fa = 0 ∧ 0 = 0 ∧ (td 0 ≤ fh ∨ td 1 ≤ fs)
      · rw [if_pos h4] at h0
        exact absurd (show (4 : Int32) = 0 from h0) (by decide)
      · rw [if_neg h4] at h0 ⊢
        have hlt : fh < td 0 := by
          rw [← Int32.not_le]
          intro h9
          exact h4 ⟨h0, rfl, Or.inl h9⟩
        exact ⟨fun s hs hl => lt_le3 (hG.2.1 s hs hl) hlt, fun k hk4 hl => ⟨lt_le3 (hG.2.2.1 k hk4 hl).1 hlt, lt_le3 (hG.2.2.1 k hk4 hl).2 hlt⟩, fun x hx hbx => lt_le3 (hG.2.2.2 x hx hbx) hlt⟩
    · rw [if_neg hk] at h0 ⊢
      by_cases h9 : lb B n r 0 = 9
      · rw [if_pos h9] at h0 ⊢
        have hw : wOf B n r 0 < 10 := by
          rcases wd_cases (B := B) (n := n) (r := r) (o := 0) (by omega) with ⟨e, _⟩ | ⟨_, hP⟩
          · unfold lb at h9
            rw [if_pos e] at h9
            omega
          · exact hP.2.1
        have hp1 := (ps_le (B := B) hr (nW (wOf B n r 0) + 2)).2
        have hp2 := ps_lt (B := B) hr hk (nW (wOf B n r 0) + 1)
        have hp3 : r + 1 ≤ ps B n r (nW (wOf B n r 0) + 2) := hp2
        exact ih _ _ _ _ _ _ hp1 (by omega) (GO_ln hw hG) h0
      · rw [if_neg h9] at h0
        exact absurd (show (1 : Int32) = 0 from h0) (by decide)
theorem tx_LO {B : Nat → Int32} {n : Nat} (h : (tx B n 0).1 = 0) : LOK (tx B n 0).2.2 := by
  unfold tx at h ⊢
  refine go_LO _ _ _ _ _ _ _ (Nat.zero_le _) (by omega) ⟨CB_ini (by omega) (fun _ _ => rfl), fun s hs hl => ?_, fun k hk hl => ?_, fun x _ hbx => by rw [show ini 0 2 = 0 from rfl, hb_0] at hbx; exact absurd hbx (by decide)⟩ h
  · exact absurd hl (nI_pos (by omega))
  · exact absurd hl (nI_pos (by omega))
theorem LOK_ext {td td' : Nat → Int32} (h : LOK td) (e : ∀ j, j < 132 → td' j = td j) : LOK td' := by
  refine ⟨fun s hs hl => ?_, fun k hk hl => ?_, fun x hx hbx => by rw [e 0 (by omega)]; rw [e 2 (by omega)] at hbx; exact h.2.2 x hx hbx⟩
  · rw [e 1 (by omega)] at hl
    rw [e _ (by omega), e 0 (by omega)]
    exact h.1 s hs hl
  · rw [e 4 (by omega)] at hl
    rw [e (43 + 2 * k) (by omega), e (44 + 2 * k) (by omega), e 0 (by omega)]
    exact h.2.1 k hk hl
/-- the lands of a slot are as told -/
def LKs (M : Nat → Nat → Int32) (s : Nat) : Prop := ∀ k : Nat, k < 2 → nI k < M 4 (4 * s) → LOK (fun j => M 5 (264 * s + 132 * k + j))
def LK (M : Nat → Nat → Int32) : Prop := LKs M 0 ∧ ∀ j, j < 3 → ¬ M 9 j = 0 → LKs M (j + 1)
theorem LKs_mv {M M' : Nat → Nat → Int32} {s s' : Nat} (h : ∀ c, c < 9 → ∀ i, i < wR c → M' c (wR c * s' + i) = M c (wR c * s + i)) (hT : LKs M s) : LKs M' s' := by
  intro k hk hl
  have e4 : M' 4 (4 * s') = M 4 (4 * s) := h 4 (by omega) 0 (by decide)
  rw [e4] at hl
  refine LOK_ext (hT k hk hl) (fun j hj => ?_)
  have g := h 5 (by omega) (132 * k + j) (by show 132 * k + j < 264; omega)
  have w5 : wR 5 = 264 := rfl
  rw [w5] at g
  show M' 5 (264 * s' + 132 * k + j) = M 5 (264 * s + 132 * k + j)
  rw [Nat.add_assoc, Nat.add_assoc]
  exact g
theorem LK_eq {M M' : Nat → Nat → Int32} (h : ∀ i, i < 10 → 2 ≤ i → M' i = M i) (hK : LK M) : LK M' := by
  refine ⟨fun k hk hl => ?_, fun j hj hn k hk hl => ?_⟩
  · rw [h 4 (by omega) (by omega)] at hl
    rw [h 5 (by omega) (by omega)]
    exact hK.1 k hk hl
  · rw [h 9 (by omega) (by omega)] at hn
    rw [h 4 (by omega) (by omega)] at hl
    rw [h 5 (by omega) (by omega)]
    exact hK.2 j hj hn k hk hl
theorem LK_fd {M M' : Nat → Nat → Int32} {a b c d e r : Int32} (h : mFD M M' a b c d e r) (hK : LK M) : LK M' := LK_eq (fun i h1 h2 => h.1.1 i h2 h1) hK
theorem LK_en {M M' : Nat → Nat → Int32} {a r : Int32} (h : mEN M M' a r) (hK : LK M) : LK M' := LK_eq (fun i h1 h2 => h.1.1 i h2 h1) hK
theorem LK_im {M M' : Nat → Nat → Int32} {a r : Int32} (h : mIM M M' a r) (hK : LK M) : LK M' := by
  by_cases hj : imJ a
  · obtain ⟨k, hk, e⟩ := imJ_nI.mp hj
    obtain ⟨_, hc, h1, hs⟩ := h.2 k hk e
    refine ⟨LKs_mv (mCP_out hc (by omega)) hK.1, fun j hj3 hn => ?_⟩
    by_cases hjk : j = k
    · subst hjk
      exact LKs_mv (fun c hc9 i hi => (hc c hc9).1 i hi) hK.1
    · rw [hs j hjk] at hn
      exact LKs_mv (mCP_out hc (by omega)) (hK.2 j hj3 hn)
  · exact LK_eq (fun i h1 _ => (h.1 hj).2 i h1) hK
theorem LK_ag {M M' : Nat → Nat → Int32} {a r : Int32} (h : mAG M M' a r) (hK : LK M) : LK M' := by
  by_cases hx : ∃ k, k < 3 ∧ a = nI k ∧ ¬ M 9 k = 0
  · obtain ⟨k, hk, e, hn⟩ := hx
    obtain ⟨_, hc, h9⟩ := h.2 k hk e hn
    refine ⟨LKs_mv (fun c hc9 i hi => (hc c hc9).1 i hi) (hK.2 k hk hn), fun j hj3 hn2 => ?_⟩
    rw [h9] at hn2
    exact LKs_mv (mCP_out hc (by omega)) (hK.2 j hj3 hn2)
  · exact LK_eq (fun i h1 _ => (h.1 hx).2 i h1) hK
theorem LK_tx {M M' : Nat → Nat → Int32} {a1 a2 r : Int32} (h : mTX M M' a1 a2 r) (hc : ∀ o, o < 4 → iv 0 2 (M 4 o)) (hK : LK M) : LK M' := by
  obtain ⟨m0, m9, ml, ms, mn, my⟩ := h
  have stay : (∀ i, 4 ≤ i → i < 9 → M' i = M i) → LK M' := by
    intro h
    refine ⟨fun k hk hl => ?_, fun j hj hn k hk hl => ?_⟩
    · rw [h 4 (by omega) (by omega)] at hl
      rw [h 5 (by omega) (by omega)]
      exact hK.1 k hk hl
    · rw [m9] at hn
      rw [h 4 (by omega) (by omega)] at hl
      rw [h 5 (by omega) (by omega)]
      exact hK.2 j hj hn k hk hl
  by_cases hx : ∃ o k, o < 4 ∧ k < 2 ∧ a1 = nI o ∧ NUM (M 4 o) a2 k
  · obtain ⟨o, k, ho, hk, e, hN⟩ := hx
    obtain ⟨_, _, hf, hg⟩ := my o k ho hk e hN
    by_cases h0 : (MXr M o).1 = 0
    · obtain ⟨_, e4, ein, eout, eo⟩ := hg h0
      by_cases ho0 : o = 0
      · subst ho0
        have w0 : wD 0 = 132 := rfl
        rw [w0] at ein eout
        refine ⟨fun k' hk' hl => ?_, fun j hj hn k' hk' hl => ?_⟩
        · by_cases hkk : k' = k
          · subst hkk
            refine LOK_ext (tx_LO h0) (fun j hj => ?_)
            have g := ein j hj
            show M' 5 (264 * 0 + 132 * k' + j) = _
            rw [Nat.mul_zero, Nat.zero_add]
            exact g
          · have hlt : nI k' < M 4 (4 * 0) := by
              rw [e4, up_s] at hl
              unfold cmx at hl
              obtain ⟨c, ec, -, hc2, -⟩ := iv_nI (hc 0 (by omega)) (by decide)
              show nI k' < M 4 0
              rw [ec] at hl ⊢
              rcases hN with ⟨_, q⟩ | ⟨_, _, q⟩
              · rw [ec] at q
                have : c = k := (nI_eq (by omega) (by omega)).mp q
                subst this
                rw [nI_1, if_pos (nI_lt (by omega) (by omega))] at hl
                have := (nI_ltI (by omega) (by omega)).mp hl
                exact nI_lt (by omega) (by omega)
              · rw [ec] at q
                have := (nI_ltI (by omega) (by omega)).mp q
                rw [nI_1, if_neg (fun h9 => by have := (nI_ltI (by omega) (by omega)).mp h9; omega)] at hl
                exact hl
            refine LOK_ext (hK.1 k' hk' hlt) (fun j hj => ?_)
            show M' 5 (264 * 0 + 132 * k' + j) = M 5 (264 * 0 + 132 * k' + j)
            exact eout _ (by omega)
        · rw [m9] at hn
          have e44 : M' 4 (4 * (j + 1)) = M 4 (4 * (j + 1)) := by rw [e4, up_n (by omega)]
          rw [e44] at hl
          refine LOK_ext (hK.2 j hj hn k' hk' hl) (fun i hi => ?_)
          show M' 5 (264 * (j + 1) + 132 * k' + i) = M 5 (264 * (j + 1) + 132 * k' + i)
          exact eout _ (by omega)
      · have e5 : M' 5 = M 5 := eo 5 (by omega) (by omega) (by omega)
        refine ⟨fun k' hk' hl => ?_, fun j hj hn k' hk' hl => ?_⟩
        · rw [e4, up_n (by omega)] at hl
          rw [e5]
          exact hK.1 k' hk' hl
        · rw [m9] at hn
          rw [e4, up_n (by omega)] at hl
          rw [e5]
          exact hK.2 j hj hn k' hk' hl
    · exact stay (hf h0).2
  · exact stay (mn hx).2.2.2
/-- land k of the reference's rows is as told -/
theorem LK_row {M : Nat → Nat → Int32} {k : Nat} (hK : LK M) (hk : k < 2) (hl : nI k < M 4 0) : LOK (rowM M 0 (nI k)) := by
  refine LOK_ext (hK.1 k hk hl) (fun j hj => ?_)
  unfold rowM
  rw [nI_clamp (by omega)]
  show M 5 (132 * k + j) = M 5 (264 * 0 + 132 * k + j)
  rw [Nat.mul_zero, Nat.zero_add]
/-- what all calls keep: both sides are told alike, lands as told -/
def RG (T : TT) (M : Nat → Nat → Int32) (I : Nat → TT) (mi : Nat → Option Nat) : Prop := RF T M I mi ∧ LK M
theorem RG_fd {T T' : TT} {M M' : Nat → Nat → Int32} {I : Nat → TT} {mi : Nat → Option Nat} {a b c d e r1 r2 : Int32} (h : RG T M I mi) (hB : tB T) (hI : tBI I mi) (h1 : xFD T T' a b c d e r1) (h2 : mFD M M' a b c d e r2) : r1 = r2 ∧ RG T' M' I mi := ⟨(RF_fd h.1 hB hI h1 h2).1, (RF_fd h.1 hB hI h1 h2).2, LK_fd h2 h.2⟩
theorem RG_en {T T' : TT} {M M' : Nat → Nat → Int32} {I : Nat → TT} {mi : Nat → Option Nat} {a r1 r2 : Int32} (h : RG T M I mi) (hB : tB T) (hI : tBI I mi) (h1 : xEN T T' a r1) (h2 : mEN M M' a r2) : r1 = r2 ∧ RG T' M' I mi := ⟨(RF_en h.1 hB hI h1 h2).1, (RF_en h.1 hB hI h1 h2).2, LK_en h2 h.2⟩
theorem RG_im {T : TT} {M M' : Nat → Nat → Int32} {I I' : Nat → TT} {mi mi' : Nat → Option Nat} {a r1 r2 : Int32} (h : RG T M I mi) (hB : tB T) (hI : tBI I mi) (h1 : xIM mi mi' I I' T a r1) (h2 : mIM M M' a r2) : r1 = r2 ∧ RG T M' I' mi' := ⟨(RF_im h.1 hB hI h1 h2).1, (RF_im h.1 hB hI h1 h2).2, LK_im h2 h.2⟩
theorem RG_ag {T T' : TT} {M M' : Nat → Nat → Int32} {I : Nat → TT} {mi : Nat → Option Nat} {a r1 r2 : Int32} (h : RG T M I mi) (hB : tB T) (hI : tBI I mi) (h1 : xAG mi I T T' a r1) (h2 : mAG M M' a r2) : r1 = r2 ∧ RG T' M' I mi := ⟨(RF_ag h.1 hB hI h1 h2).1, (RF_ag h.1 hB hI h1 h2).2, LK_ag h2 h.2⟩
theorem RG_tx {T T' : TT} {M M' : Nat → Nat → Int32} {I : Nat → TT} {mi : Nat → Option Nat} {a1 a2 r1 r2 : Int32} (h : RG T M I mi) (hB : tB T) (hB' : tB T') (hI : tBI I mi) (h1 : xTX T T' a1 a2 r1) (h2 : mTX M M' a1 a2 r2) : r1 = r2 ∧ RG T' M' I mi := ⟨(RF_tx h.1 hB hB' hI h1 h2).1, (RF_tx h.1 hB hB' hI h1 h2).2, LK_tx h2 (fun o ho => by rw [TM_cnt h.1.1 o ho]; exact hB.2.2.1 o) h.2⟩
end
section
def ANc (M : Nat → Nat → Int32) (a b : Int32) : Prop := (0 ≤ a ∧ a < M 4 0) ∧ (0 ≤ b ∧ b < M 4 1)
def PL (M : Nat → Nat → Int32) (a b : Int32) (n : Nat) : Nat × (Nat → Nat → Int32) := plays (rowM M 0 a) (rowM M 1 b) n 0 (S0 (rowM M 0 a))
def AN_stop (M : Nat → Nat → Int32) (a b : Int32) : Int32 := if (0 ≤ a ∧ a < M 4 0) ∧ (0 ≤ b ∧ b < M 4 1) then nI (PL M a b (cN (rowM M 1 b 0))).1 else -1
theorem RNG_M {M : Nat → Nat → Int32} {k : Nat} (hL : mLand (M 5)) (hk : k < 2) : RNG (rowM M 0 (nI k)) := fun j hj => row_iv hL hk hj
theorem ev0_iv {M : Nat → Nat → Int32} {e : Nat} (hE : mEve (M 6)) (he : e < 2) : iv 0 40 (rowM M 1 (nI e) 0) := by
  have g := (hE e (by omega)).1
  unfold rowM
  rw [nI_clamp (by omega)]
  exact g
theorem e_deedsM {M : Nat → Nat → Int32} {e : Nat} {post : Int32 → Prop} (he : e < 2) (hp : post (rowM M 1 (nI e) 0)) : q_m_deeds_0 (M 6) (nI e) post := by
  have e9 : (121 : Int32) * nI e = nI (121 * e) := pk_mul 121 e
  refine ⟨by rw [e9]; exact vp_in_nI (by omega) (by omega), ?_⟩
  unfold rowM at hp
  rw [nI_clamp (by omega)] at hp
  rw [e9, nI_clamp (by omega)]
  exact hp
theorem e_layAllM {M : Nat → Nat → Int32} {ld hu si ev a b : Int32} {post : Int32 → Int32 → Int32 → Int32 → Int32 → Prop} (hc : ∀ o, iv 0 2 (M 4 o)) (h0 : ¬ ((0 ≤ a ∧ a < M 4 0) ∧ (0 ≤ b ∧ b < M 4 1)) → ∀ x y z w, post 0 x y z w) (h1 : ∀ k e, k < 2 → e < 2 → a = nI k → b = nI e → (0 ≤ a ∧ a < M 4 0) → (0 ≤ b ∧ b < M 4 1) → post 1 (nI k) (tdM M k 0) (tdM M k 1) (nI e)) : q_m_layAll_0 (M 4) (M 5) ld hu si ev a b post := by
  refine e_is (o := 1) (by omega) (hc 1) (fun hn => ⟨rfl, iz (h0 (fun h9 => hn h9.2) _ _ _ _)⟩) (fun hy => ⟨rfl, oi ?_⟩)
  refine e_hand (hc 0) (fun hn => iz (h0 (fun h9 => hn h9.1) _ _ _ _)) (fun k hk ea hy0 => oi ?_)
  obtain ⟨e, he, eb⟩ := lt_nI (m := 2) (hc 1) hy
  have h2 := h1 k e hk he ea eb hy0 hy
  rw [← eb] at h2
  exact h2

theorem e_m_stop {M : Nat → Nat → Int32} {cd ld hu si ev be mi av a b : Int32} {at_ kn cl sn lv : Nat → Int32} {post : Int32 → Int32 → Int32 → Int32 → Int32 → Int32 → (Nat → Int32) → (Nat → Int32) → (Nat → Int32) → (Nat → Int32) → (Nat → Int32) → Int32 → Int32 → Int32 → Prop} (hc : ∀ o, iv 0 2 (M 4 o)) (hL : mLand (M 5)) (hE : mEve (M 6)) (hK : LK M) (hp : ∀ x1 x2 x3 x4 x5 x6 x7 x8 x9 x10 x11 x12 x13, post (AN_stop M a b) x1 x2 x3 x4 x5 x6 x7 x8 x9 x10 x11 x12 x13) : q_m_stop_0 cd (M 4) (M 5) (M 6) ld hu si ev at_ kn cl sn lv be mi av a b post := by
  unfold AN_stop at hp
  refine e_layAllM hc (fun hn x y z w => iz ?_) (fun k e hk he ea eb h1 h2 => oi ?_)
  · rw [if_neg hn] at hp
    exact hp _ _ _ _ _ _ _ _ _ _ _ _ _
  · rw [if_pos ⟨h1, h2⟩, ea, eb] at hp
    refine e_deedsM he ?_
    obtain ⟨c, ec, -, hc40, -⟩ := iv_nI (ev0_iv hE he) (by decide)
    rw [ec] at hp ⊢
    rw [cN_nI (by omega)] at hp
    exact e_playM hk he (by omega) hL hE (LK_row hK hk (by rw [← ea]; exact h1.2)) (fun S' hS => hp _ _ _ _ _ _ _ _ _ _ _ _ _)
set_option maxRecDepth 40000 in
set_option maxHeartbeats 4000000 in
theorem e_x_stop {T : TT} {M : Nat → Nat → Int32} {nf_minute nf_avalanches nf_begun nf_climbed a b : Int32} {na_huts na_known na_levels na_snow : Nat → Int32} {post : Int32 → (Int32) → (Int32) → (Int32) → (Int32) → (Nat → Int32) → (Nat → Int32) → (Nat → Int32) → (Nat → Int32) → Prop} (h : TM T M 0) (hB : tB T) (hK : LK M) (hL : mLand (M 5)) (hE : mEve (M 6)) (hp : ∀ z0 z1 z2 z3 z4 z5 z6 z7, post (AN_stop M a b) z0 z1 z2 z3 z4 z5 z6 z7) : q_wx_X10_stop_0 (T.2 1) (T.1 3) (T.1 4) (T.1 6) (T.1 7) (T.1 8) (T.2 2) (T.2 3) (T.2 4) (T.2 5) (T.2 6) (T.2 7) (T.2 8) (T.2 9) (T.1 10) (T.1 11) (T.1 13) (T.1 14) (T.1 15) (T.2 10) (T.2 11) (T.2 12) (T.2 13) (T.2 14) (T.2 15) (T.2 16) (T.2 17) (T.1 17) (T.2 18) (T.2 19) (T.2 20) (T.1 18) (T.2 21) (T.2 22) (T.2 23) nf_minute nf_avalanches nf_begun nf_climbed na_huts na_known na_levels na_snow a b post := by
  unfold AN_stop at hp
  rw [TM_cnt h 0 (by decide), TM_cnt h 1 (by decide)] at hp
  refine e_at (hB.2.2.1 0) (fun (hn : ¬ (0 ≤ a ∧ a < T.2 1 0)) => ?_) (fun ea hla => ?_) (fun ea hla => ?_)
  · rw [if_neg (fun h9 => hn h9.1)] at hp
    refine ⟨fun _ => ?_, fun h9 => absurd h9 (by decide), fun h9 => absurd rfl h9⟩
    refine e_at (hB.2.2.1 1) (fun (hm : ¬ (0 ≤ b ∧ b < T.2 1 1)) => ?_) (fun eb hlb => ?_) (fun eb hlb => ?_)
    · exact ⟨fun _ => hp _ _ _ _ _ _ _ _, fun h9 => absurd h9 (by decide), fun h9 => absurd rfl h9⟩
    · exact ⟨fun h9 => absurd h9 (by decide), fun h9 => absurd h9 (by decide), fun _ _ => hp _ _ _ _ _ _ _ _⟩
    · exact ⟨fun h9 => absurd h9 (by decide), fun _ => hp _ _ _ _ _ _ _ _, fun _ h9 => absurd rfl h9⟩
  · refine ⟨fun h9 => absurd h9 (by decide), fun h9 => absurd h9 (by decide), fun _ _ => ?_⟩
    refine e_at (hB.2.2.1 1) (fun (hm : ¬ (0 ≤ b ∧ b < T.2 1 1)) => ?_) (fun eb hlb => ?_) (fun eb hlb => ?_)
    · rw [if_neg (fun h9 => hm h9.2)] at hp
      exact ⟨fun _ => hp _ _ _ _ _ _ _ _, fun h9 => absurd h9 (by decide), fun h9 => absurd rfl h9⟩
    · rw [if_pos (by rw [ea, eb]; exact ⟨⟨by decide, hla⟩, by decide, hlb⟩), ea, eb] at hp
      have hLD : LDR (T.1 3) (T.1 4) (T.1 5) (T.1 6) (T.1 7) (T.1 8) (T.1 9) (T.2 2) (T.2 3) (T.2 4) (T.2 5) (T.2 6) (T.2 7) (T.2 8) (T.2 9) (rowM M 0 (nI 0)) := TM_sl h 0 0 (by decide) (by decide) hla
      have hEV : R3 (T.1 17) (T.2 18) (T.2 19) (T.2 20) (rowM M 1 (nI 0)) := TM_sl h 1 0 (by decide) (by decide) hlb
      have hOK : LOK (rowM M 0 (nI 0)) := LK_row hK (by decide) (by rw [TM_cnt h 0 (by decide)]; exact hla)
      refine ⟨fun h9 => absurd h9 (by decide), fun h9 => absurd h9 (by decide), fun _ _ => ?_⟩
      obtain ⟨c, ec, -, hc40, -⟩ := iv_nI (ev0_iv hE (e := 0) (by decide)) (by decide)
      have edc : (T.1 17) = nI c := hEV.1.trans ec
      rw [ec, cN_nI (by omega)] at hp
      exact e_playX (n := c) (RNG_M hL (by decide)) hOK hLD hEV (ev0_iv hE (by decide)) (fun j hj => (eve_iv hE (by decide) hj).1) edc (by rw [edc]; exact le_rf _) (by omega) (fun _ _ _ _ _ _ _ _ _ => hp _ _ _ _ _ _ _ _)
    · rw [if_pos (by rw [ea, eb]; exact ⟨⟨by decide, hla⟩, by decide, hlb⟩), ea, eb] at hp
      have hLD : LDR (T.1 3) (T.1 4) (T.1 5) (T.1 6) (T.1 7) (T.1 8) (T.1 9) (T.2 2) (T.2 3) (T.2 4) (T.2 5) (T.2 6) (T.2 7) (T.2 8) (T.2 9) (rowM M 0 (nI 0)) := TM_sl h 0 0 (by decide) (by decide) hla
      have hEV : R3 (T.1 18) (T.2 21) (T.2 22) (T.2 23) (rowM M 1 (nI 1)) := TM_sl h 1 1 (by decide) (by decide) hlb
      have hOK : LOK (rowM M 0 (nI 0)) := LK_row hK (by decide) (by rw [TM_cnt h 0 (by decide)]; exact hla)
      refine ⟨fun h9 => absurd h9 (by decide), fun _ => ?_, fun _ h9 => absurd rfl h9⟩
      obtain ⟨c, ec, -, hc40, -⟩ := iv_nI (ev0_iv hE (e := 1) (by decide)) (by decide)
      have edc : (T.1 18) = nI c := hEV.1.trans ec
      rw [ec, cN_nI (by omega)] at hp
      exact e_playX (n := c) (RNG_M hL (by decide)) hOK hLD hEV (ev0_iv hE (by decide)) (fun j hj => (eve_iv hE (by decide) hj).1) edc (by rw [edc]; exact le_rf _) (by omega) (fun _ _ _ _ _ _ _ _ _ => hp _ _ _ _ _ _ _ _)
  · refine ⟨fun h9 => absurd h9 (by decide), fun _ => ?_, fun _ h9 => absurd rfl h9⟩
    refine e_at (hB.2.2.1 1) (fun (hm : ¬ (0 ≤ b ∧ b < T.2 1 1)) => ?_) (fun eb hlb => ?_) (fun eb hlb => ?_)
    · rw [if_neg (fun h9 => hm h9.2)] at hp
      exact ⟨fun _ => hp _ _ _ _ _ _ _ _, fun h9 => absurd h9 (by decide), fun h9 => absurd rfl h9⟩
    · rw [if_pos (by rw [ea, eb]; exact ⟨⟨by decide, hla⟩, by decide, hlb⟩), ea, eb] at hp
      have hLD : LDR (T.1 10) (T.1 11) (T.1 12) (T.1 13) (T.1 14) (T.1 15) (T.1 16) (T.2 10) (T.2 11) (T.2 12) (T.2 13) (T.2 14) (T.2 15) (T.2 16) (T.2 17) (rowM M 0 (nI 1)) := TM_sl h 0 1 (by decide) (by decide) hla
      have hEV : R3 (T.1 17) (T.2 18) (T.2 19) (T.2 20) (rowM M 1 (nI 0)) := TM_sl h 1 0 (by decide) (by decide) hlb
      have hOK : LOK (rowM M 0 (nI 1)) := LK_row hK (by decide) (by rw [TM_cnt h 0 (by decide)]; exact hla)
      refine ⟨fun h9 => absurd h9 (by decide), fun h9 => absurd h9 (by decide), fun _ _ => ?_⟩
      obtain ⟨c, ec, -, hc40, -⟩ := iv_nI (ev0_iv hE (e := 0) (by decide)) (by decide)
      have edc : (T.1 17) = nI c := hEV.1.trans ec
      rw [ec, cN_nI (by omega)] at hp
      exact e_playX (n := c) (RNG_M hL (by decide)) hOK hLD hEV (ev0_iv hE (by decide)) (fun j hj => (eve_iv hE (by decide) hj).1) edc (by rw [edc]; exact le_rf _) (by omega) (fun _ _ _ _ _ _ _ _ _ => hp _ _ _ _ _ _ _ _)
    · rw [if_pos (by rw [ea, eb]; exact ⟨⟨by decide, hla⟩, by decide, hlb⟩), ea, eb] at hp
      have hLD : LDR (T.1 10) (T.1 11) (T.1 12) (T.1 13) (T.1 14) (T.1 15) (T.1 16) (T.2 10) (T.2 11) (T.2 12) (T.2 13) (T.2 14) (T.2 15) (T.2 16) (T.2 17) (rowM M 0 (nI 1)) := TM_sl h 0 1 (by decide) (by decide) hla
      have hEV : R3 (T.1 18) (T.2 21) (T.2 22) (T.2 23) (rowM M 1 (nI 1)) := TM_sl h 1 1 (by decide) (by decide) hlb
      have hOK : LOK (rowM M 0 (nI 1)) := LK_row hK (by decide) (by rw [TM_cnt h 0 (by decide)]; exact hla)
      refine ⟨fun h9 => absurd h9 (by decide), fun _ => ?_, fun _ h9 => absurd rfl h9⟩
      obtain ⟨c, ec, -, hc40, -⟩ := iv_nI (ev0_iv hE (e := 1) (by decide)) (by decide)
      have edc : (T.1 18) = nI c := hEV.1.trans ec
      rw [ec, cN_nI (by omega)] at hp
      exact e_playX (n := c) (RNG_M hL (by decide)) hOK hLD hEV (ev0_iv hE (by decide)) (fun j hj => (eve_iv hE (by decide) hj).1) edc (by rw [edc]; exact le_rf _) (by omega) (fun _ _ _ _ _ _ _ _ _ => hp _ _ _ _ _ _ _ _)
end
section
/-- how many are below n -/
def cntB (p : Nat → Bool) : Nat → Nat
  | 0 => 0
  | n + 1 => cntB p n + (if p n = true then 1 else 0)
theorem cnt_le (p : Nat → Bool) : ∀ n, cntB p n ≤ n
  | 0 => Nat.le_refl 0
  | n + 1 => by
    have := cnt_le p n
    show cntB p n + (if p n = true then 1 else 0) ≤ n + 1
    split <;> omega
theorem cnt_ext {p q : Nat → Bool} : ∀ n, (∀ k, k < n → p k = q k) → cntB p n = cntB q n
  | 0, _ => rfl
  | n + 1, h => by
    show cntB p n + _ = cntB q n + _
    rw [cnt_ext n (fun k hk => h k (by omega)), h n (by omega)]
theorem cnt_mono {p q : Nat → Bool} : ∀ n, (∀ k, k < n → p k = true → q k = true) → cntB p n ≤ cntB q n
  | 0, _ => Nat.le_refl 0
  | n + 1, h => by
    have := cnt_mono n (fun k hk => h k (by omega))
    show cntB p n + (if p n = true then 1 else 0) ≤ cntB q n + (if q n = true then 1 else 0)
    by_cases hp : p n = true
    · rw [if_pos hp, if_pos (h n (by omega) hp)]; omega
    · rw [if_neg hp]; omega
theorem cnt_lt {p q : Nat → Bool} : ∀ n, (∀ k, k < n → p k = true → q k = true) → (∃ k, k < n ∧ q k = true ∧ p k = false) → cntB p n + 1 ≤ cntB q n
  | 0, _, ⟨k, hk, _⟩ => absurd hk (Nat.not_lt_zero k)
  | n + 1, h, ⟨k, hk, hq, hp⟩ => by
    show cntB p n + (if p n = true then 1 else 0) + 1 ≤ cntB q n + (if q n = true then 1 else 0)
    by_cases e : k = n
    · subst e
      have := cnt_mono k (fun j hj => h j (by omega))
      rw [if_pos hq, if_neg (by rw [hp]; decide)]
      omega
    · have := cnt_lt n (fun j hj => h j (by omega)) ⟨k, by omega, hq, hp⟩
      by_cases hpn : p n = true
      · rw [if_pos hpn, if_pos (h n (by omega) hpn)]; omega
      · rw [if_neg hpn]; omega
theorem cnt_tr {p : Nat → Bool} {c : Nat} : ∀ n, c ≤ n → cntB (fun o => decide (o < c) && p o) n = cntB p c
  | 0, h => by
    have : c = 0 := by omega
    subst this
    rfl
  | n + 1, h => by
    by_cases e : c = n + 1
    · subst e
      exact cnt_ext (n + 1) (fun k hk => by rw [decide_eq_true hk, Bool.true_and])
    · show cntB (fun o => decide (o < c) && p o) n + (if (decide (n < c) && p n) = true then 1 else 0) = cntB p c
      rw [cnt_tr n (by omega), decide_eq_false (by omega), Bool.false_and, if_neg (by decide)]
      rfl
/-- the set of those below n -/
def mkB (p : Nat → Bool) : Nat → Int32
  | 0 => 0
  | n + 1 => mkB p n ||| (if p n = true then bitI n else 0)
theorem bit32_tab : ((List.range 31).all fun i => (List.range 32).all fun k => hb (bitI i) k == decide (i = k)) = true := by decide +kernel
theorem hb_b32 {i k : Nat} (hi : i < 31) (hk : k < 32) : hb (bitI i) k = decide (i = k) := by
  have h := List.all_eq_true.mp (List.all_eq_true.mp bit32_tab i (List.mem_range.mpr hi)) k (List.mem_range.mpr hk)
  exact eq_of_beq h
theorem hb_mkB {p : Nat → Bool} {k : Nat} (hk : k < 32) : ∀ n, n ≤ 31 → hb (mkB p n) k = (decide (k < n) && p k)
  | 0, _ => by
    show hb 0 k = _
    rw [hb_0, decide_eq_false (Nat.not_lt_zero k)]; rfl
  | n + 1, hn => by
    show hb (mkB p n ||| _) k = _
    rw [hb_or, hb_mkB hk n (by omega)]
    by_cases e : k = n
    · subst e
      rw [decide_eq_false (Nat.lt_irrefl k), Bool.false_and, Bool.false_or, decide_eq_true (Nat.lt_succ_self k), Bool.true_and]
      by_cases hp : p k = true
      · rw [if_pos hp, hb_b32 (by omega) hk, hp, decide_eq_true rfl]
      · rw [if_neg hp, hb_0]
        rw [Bool.not_eq_true] at hp
        exact hp.symm
    · have e1 : hb (if p n = true then bitI n else 0) k = false := by
        split
        · rw [hb_b32 (by omega) hk, de_ne e]
        · exact hb_0 k
      rw [e1, Bool.or_false]
      by_cases h : k < n
      · rw [decide_eq_true h, decide_eq_true (by omega)]
      · rw [decide_eq_false h, decide_eq_false (by omega)]
theorem hb_eq {s t : Int32} (h : ∀ k, k < 32 → hb s k = hb t k) : s = t := by
  apply Int32.toBitVec_inj.mp
  apply BitVec.eq_of_getLsbD_eq
  intro i hi
  exact h i hi
theorem mkB_ext {p q : Nat → Bool} : ∀ n, (∀ k, k < n → p k = q k) → mkB p n = mkB q n
  | 0, _ => rfl
  | n + 1, h => by
    show mkB p n ||| _ = mkB q n ||| _
    rw [mkB_ext n (fun k hk => h k (by omega)), h n (by omega)]
theorem mkB_iv {p : Nat → Bool} : ∀ n, n ≤ 9 → iv 0 511 (mkB p n)
  | 0, _ => iv_lit (l := 0) (h := 511) (x := 0) (by decide)
  | n + 1, h => by
    have hb9 : ∀ n, n < 9 → iv 0 511 (bitI n) := by
      intro n hn
      have : n = 0 ∨ n = 1 ∨ n = 2 ∨ n = 3 ∨ n = 4 ∨ n = 5 ∨ n = 6 ∨ n = 7 ∨ n = 8 := by omega
      rcases this with rfl | rfl | rfl | rfl | rfl | rfl | rfl | rfl | rfl <;> exact iv_lit (by decide)
    have h2 : iv 0 511 (if p n = true then bitI n else 0) := by
      split
      · exact hb9 n (by omega)
      · exact iv_lit (by decide)
    exact iv_or 9 (mkB_iv n (by omega)) h2 (by decide)
theorem or_0 (x : Int32) : x ||| 0 = x := by
  apply hb_eq
  intro k hk
  rw [hb_or, hb_0, Bool.or_false]
/-- bitCount -/
def bcF (x0 : Int32) : Int32 :=
  let v1 := x0 - ((Int32.toUInt32 x0 >>> (Int32.toUInt32 1 &&& Int32.toUInt32 31)).toInt32 &&& 1431655765)
  let v2 := (v1 &&& 858993459) + ((Int32.toUInt32 v1 >>> (Int32.toUInt32 2 &&& Int32.toUInt32 31)).toInt32 &&& 858993459)
  let v3 := (v2 + (Int32.toUInt32 v2 >>> (Int32.toUInt32 4 &&& Int32.toUInt32 31)).toInt32) &&& 252645135
  let v4 := v3 + (Int32.toUInt32 v3 >>> (Int32.toUInt32 8 &&& Int32.toUInt32 31)).toInt32
  let v5 := v4 + (Int32.toUInt32 v4 >>> (Int32.toUInt32 16 &&& Int32.toUInt32 31)).toInt32
  v5 &&& 63
theorem bc_tab : ((List.range 512).all fun n => bcF (nI n) == nI (cntB (hb (nI n)) 9)) = true := by decide +kernel
theorem e_bc {s : Int32} {post : Int32 → Prop} (hs : iv 0 511 s) (hp : post (nI (cntB (hb s) 9))) : q_z_J6_bitCount_0f7a4_0 s post := by
  intro v1 e1 v2 e2 v3 e3 v4 e4 v5 e5
  obtain ⟨n, rfl, -, hn, -⟩ := iv_nI hs (by decide)
  have h : bcF (nI n) = nI (cntB (hb (nI n)) 9) := eq_of_beq (List.all_eq_true.mp bc_tab n (List.mem_range.mpr (by omega)))
  rw [← h] at hp
  subst e1 e2 e3 e4 e5
  exact hp
theorem e_onesM {s : Int32} {post : Int32 → Prop} (hp : post (nI (cntB (hb s) 9))) : q_m_ones_0 s post := by
  intro P hP
  have loop : ∀ m j, m = 9 - j → j ≤ 9 → P (nI (cntB (hb s) j)) (nI j) := by
    intro m
    induction m using Nat.strongRecOn with
    | ind m ih =>
      intro j hm hj
      apply hP
      refine pk_le 9 j (fun h9 => ?_) (fun h9 => ?_)
      · rw [show j = 9 by omega]; exact hp
      · have nx : ∀ y : Int32, nI (cntB (hb s) j) + y = nI (cntB (hb s) (j + 1)) → q_m_ones_24 P s (nI j) (nI (cntB (hb s) j)) y post := by
          intro y hy v e v2 e2
          rw [e, e2, hy, nI_1]
          exact ih (9 - (j + 1)) (by omega) (j + 1) rfl (by omega)
        have e : cntB (hb s) (j + 1) = cntB (hb s) j + (if hb s j = true then 1 else 0) := rfl
        refine e_hasM (by omega) (fun h0 => iz (nx 0 ?_)) (fun h1 => oi (nx 1 ?_))
        · rw [e, if_neg (by rw [h0]; decide)]; exact Int32.add_zero _
        · rw [e, if_pos h1, nI_1]
  exact loop _ 0 rfl (by omega)
/-- the least set that holds f and is closed under E -/
noncomputable def clB (E : Nat → Nat → Bool) (n f h : Nat) : Bool := @decide (∀ C : Nat → Bool, C f = true → (∀ a b, a < n → b < n → C a = true → E a b = true → C b = true) → C h = true) (Classical.propDecidable _)
theorem cl_eq {E : Nat → Nat → Bool} {n f : Nat} {S : Nat → Bool} (h1 : S f = true) (h2 : ∀ a b, a < n → b < n → S a = true → E a b = true → S b = true) (h3 : ∀ C : Nat → Bool, C f = true → (∀ a b, a < n → b < n → C a = true → E a b = true → C b = true) → ∀ h, h < n → S h = true → C h = true) (h : Nat) (hh : h < n) : S h = clB E n f h := by
  unfold clB
  by_cases hs : S h = true
  · rw [hs]
    exact (@decide_eq_true _ (Classical.propDecidable _) (fun C c1 c2 => h3 C c1 c2 h hh hs)).symm
  · have e : S h = false := by rw [← Bool.not_eq_true]; exact hs
    rw [e]
    exact (@decide_eq_false _ (Classical.propDecidable _) (fun hc => hs (hc S h1 h2))).symm
end
section
def cS (s : Int32) : Nat := cntB (hb s) 9
theorem hb_nI {s k : Nat} (hs : s < 2 ^ 31) : hb (nI s) k = s.testBit k := by
  unfold hb
  rw [BitVec.getLsbD, iv_tn hs]
theorem pow_b {n : Nat} (hn : n ≤ 9) : 2 ^ n ≤ 512 := Nat.le_trans (Nat.pow_le_pow_right (by decide) hn) (by decide)
theorem hb_lo {s n k : Nat} (hs : s < 2 ^ n) (hn : n ≤ 9) (hk : n ≤ k) : hb (nI s) k = false := by
  have := pow_b hn
  rw [hb_nI (by omega)]
  exact Nat.testBit_lt_two_pow (Nat.lt_of_lt_of_le hs (Nat.pow_le_pow_right (by decide) hk))
theorem cntB_cut {p : Nat → Bool} {n : Nat} (h : ∀ k, n ≤ k → p k = false) : ∀ m, cntB p (n + m) = cntB p n
  | 0 => rfl
  | m + 1 => by
    show cntB p (n + m) + (if p (n + m) = true then 1 else 0) = _
    rw [h (n + m) (by omega), if_neg (by decide), cntB_cut h m]
    rfl
theorem cS_le {s n : Nat} (hs : s < 2 ^ n) (hn : n ≤ 9) : cS (nI s) ≤ n := by
  unfold cS
  have e : cntB (hb (nI s)) (n + (9 - n)) = cntB (hb (nI s)) n := cntB_cut (fun k hk => hb_lo hs hn hk) (9 - n)
  rw [show n + (9 - n) = 9 by omega] at e
  rw [e]
  exact cnt_le _ n
theorem sh_pow {n : Nat} (hn : n ≤ 9) : (1 : Int32) <<< (nI n &&& 31) = nI (2 ^ n) := iv_sh1 n (by omega)
theorem full_bit {n k : Nat} (hn : n ≤ 9) (hk : k < n) : hb (nI (2 ^ n - 1)) k = true := by
  have := pow_b hn
  rw [hb_nI (by omega), Nat.testBit_two_pow_sub_one]
  exact decide_eq_true hk
theorem nIm1' {h : Nat} (hh : h < 1000) : ¬ nI h = -1 := fun e => by
  have := congrArg Int32.toInt e
  rw [nI_toInt (by omega)] at this
  have e1 : (-1 : Int32).toInt = -1 := rfl
  omega
end
section
/-- sums, greatest, least over the huts -/
def sm (g : Nat → Nat) : Nat → Nat
  | 0 => 0
  | m + 1 => sm g m + g m
theorem sm_ext {g g' : Nat → Nat} : ∀ m, (∀ a, a < m → g a = g' a) → sm g m = sm g' m
  | 0, _ => rfl
  | m + 1, h => by
    show sm g m + g m = sm g' m + g' m
    rw [sm_ext m (fun a ha => h a (by omega)), h m (by omega)]
theorem sm_add {g g' : Nat → Nat} : ∀ m, sm (fun a => g a + g' a) m = sm g m + sm g' m
  | 0 => rfl
  | m + 1 => by
    show sm (fun a => g a + g' a) m + (g m + g' m) = (sm g m + g m) + (sm g' m + g' m)
    rw [sm_add m]
    omega
theorem sm_z {g : Nat → Nat} : ∀ m, (∀ a, a < m → g a = 0) → sm g m = 0
  | 0, _ => rfl
  | m + 1, h => by
    show sm g m + g m = 0
    rw [sm_z m (fun a ha => h a (by omega)), h m (by omega)]
theorem sm_ex {g : Nat → Nat} : ∀ m, 0 < sm g m → ∃ a, a < m ∧ 0 < g a
  | 0, h => absurd h (Nat.lt_irrefl 0)
  | m + 1, h => by
    have h' : 0 < sm g m + g m := h
    by_cases q : 0 < g m
    · exact ⟨m, by omega, q⟩
    · obtain ⟨a, ha, hg⟩ := sm_ex (g := g) m (by omega)
      exact ⟨a, by omega, hg⟩
theorem sm_ge {g : Nat → Nat} {a : Nat} : ∀ m, a < m → g a ≤ sm g m
  | 0, h => absurd h (Nat.not_lt_zero a)
  | m + 1, h => by
    show g a ≤ sm g m + g m
    by_cases q : a = m
    · subst q; omega
    · have := sm_ge (g := g) (a := a) m (by omega); omega
theorem sm_le {g : Nat → Nat} {c : Nat} : ∀ m, (∀ a, a < m → g a ≤ c) → sm g m ≤ m * c
  | 0, _ => by rw [Nat.zero_mul]; exact Nat.le_refl _
  | m + 1, h => by
    show sm g m + g m ≤ (m + 1) * c
    have h1 := sm_le m (fun a ha => h a (by omega))
    have h2 := h m (by omega)
    rw [Nat.succ_mul]
    omega
theorem sm_mono {g g' : Nat → Nat} : ∀ m, (∀ a, a < m → g a ≤ g' a) → sm g m ≤ sm g' m
  | 0, _ => Nat.le_refl _
  | m + 1, h => by
    show sm g m + g m ≤ sm g' m + g' m
    have h1 := sm_mono m (fun a ha => h a (by omega))
    have h2 := h m (by omega)
    omega
theorem sm_upd {g g' : Nat → Nat} {x v : Nat} : ∀ m, x < m → (∀ a, a < m → ¬ a = x → g' a = g a) → g' x = g x + v → sm g' m = sm g m + v
  | 0, h, _, _ => absurd h (Nat.not_lt_zero x)
  | m + 1, h, h1, h2 => by
    show sm g' m + g' m = sm g m + g m + v
    by_cases q : x = m
    · subst q
      rw [sm_ext (g := g') (g' := g) x (fun a ha => h1 a (by omega) (by omega)), h2]
      omega
    · rw [sm_upd m (by omega) (fun a ha => h1 a (by omega)) h2, h1 m (by omega) (fun e => q e.symm)]
      omega
def mx (g : Nat → Nat) : Nat → Nat
  | 0 => 0
  | m + 1 => max (mx g m) (g m)
theorem mx_ext {g g' : Nat → Nat} : ∀ m, (∀ a, a < m → g a = g' a) → mx g m = mx g' m
  | 0, _ => rfl
  | m + 1, h => by
    show max (mx g m) (g m) = max (mx g' m) (g' m)
    rw [mx_ext m (fun a ha => h a (by omega)), h m (by omega)]
theorem mx_ge {g : Nat → Nat} {a : Nat} : ∀ m, a < m → g a ≤ mx g m
  | 0, h => absurd h (Nat.not_lt_zero a)
  | m + 1, h => by
    show g a ≤ max (mx g m) (g m)
    by_cases q : a = m
    · subst q; omega
    · have := mx_ge (g := g) (a := a) m (by omega); omega
theorem mx_ex {g : Nat → Nat} : ∀ m, mx g m = 0 ∨ ∃ a, a < m ∧ mx g m = g a
  | 0 => Or.inl rfl
  | m + 1 => by
    have e : mx g (m + 1) = max (mx g m) (g m) := rfl
    rcases mx_ex (g := g) m with h | ⟨a, ha, h⟩
    · by_cases q : g m = 0
      · exact Or.inl (by omega)
      · exact Or.inr ⟨m, by omega, by omega⟩
    · by_cases q : mx g m ≤ g m
      · exact Or.inr ⟨m, by omega, by omega⟩
      · exact Or.inr ⟨a, by omega, by omega⟩
theorem mx_upd {g g' : Nat → Nat} {x v : Nat} : ∀ m, x < m → (∀ a, a < m → ¬ a = x → g' a = g a) → g x = 0 → g' x = v → mx g' m = max (mx g m) v
  | 0, h, _, _, _ => absurd h (Nat.not_lt_zero x)
  | m + 1, h, h1, h0, h2 => by
    show max (mx g' m) (g' m) = max (max (mx g m) (g m)) v
    by_cases q : x = m
    · subst q
      rw [mx_ext (g := g') (g' := g) x (fun a ha => h1 a (by omega) (by omega)), h2, h0]
      omega
    · rw [mx_upd m (by omega) (fun a ha => h1 a (by omega)) h0 h2, h1 m (by omega) (fun e => q e.symm)]
      omega
theorem mx_le {g : Nat → Nat} {c : Nat} : ∀ m, (∀ a, a < m → g a ≤ c) → mx g m ≤ c
  | 0, _ => Nat.zero_le _
  | m + 1, h => by
    show max (mx g m) (g m) ≤ c
    have h1 := mx_le m (fun a ha => h a (by omega))
    have h2 := h m (by omega)
    omega
def mn (g : Nat → Nat) : Nat → Nat
  | 0 => 1000
  | m + 1 => min (mn g m) (g m)
theorem mn_ext {g g' : Nat → Nat} : ∀ m, (∀ a, a < m → g a = g' a) → mn g m = mn g' m
  | 0, _ => rfl
  | m + 1, h => by
    show min (mn g m) (g m) = min (mn g' m) (g' m)
    rw [mn_ext m (fun a ha => h a (by omega)), h m (by omega)]
theorem mn_b {g : Nat → Nat} : ∀ m, mn g m ≤ 1000
  | 0 => Nat.le_refl _
  | m + 1 => by
    show min (mn g m) (g m) ≤ 1000
    have := mn_b (g := g) m
    omega
theorem mn_le {g : Nat → Nat} {a : Nat} : ∀ m, a < m → mn g m ≤ g a
  | 0, h => absurd h (Nat.not_lt_zero a)
  | m + 1, h => by
    show min (mn g m) (g m) ≤ g a
    by_cases q : a = m
    · subst q; omega
    · have := mn_le (g := g) (a := a) m (by omega); omega
theorem mn_hi {g : Nat → Nat} : ∀ m, (∀ a, a < m → 1000 ≤ g a) → mn g m = 1000
  | 0, _ => rfl
  | m + 1, h => by
    show min (mn g m) (g m) = 1000
    have h1 := mn_hi m (fun a ha => h a (by omega))
    have h2 := h m (by omega)
    omega
theorem mn_mono {g g' : Nat → Nat} : ∀ m, (∀ a, a < m → g a ≤ g' a) → mn g m ≤ mn g' m
  | 0, _ => Nat.le_refl _
  | m + 1, h => by
    show min (mn g m) (g m) ≤ min (mn g' m) (g' m)
    have h1 := mn_mono m (fun a ha => h a (by omega))
    have h2 := h m (by omega)
    omega
theorem mn_upd {g g' : Nat → Nat} {x v : Nat} : ∀ m, x < m → (∀ a, a < m → ¬ a = x → g' a = g a) → 1000 ≤ g x → g' x = v → mn g' m = min (mn g m) v
  | 0, h, _, _, _ => absurd h (Nat.not_lt_zero x)
  | m + 1, h, h1, h0, h2 => by
    show min (mn g' m) (g' m) = min (min (mn g m) (g m)) v
    by_cases q : x = m
    · subst q
      rw [mn_ext (g := g') (g' := g) x (fun a ha => h1 a (by omega) (by omega)), h2]
      have := mn_b (g := g) x
      omega
    · rw [mn_upd m (by omega) (fun a ha => h1 a (by omega)) h0 h2, h1 m (by omega) (fun e => q e.symm)]
      omega
end
section
/-- whether b may stand behind a -/
def flw (cd : Nat → Int32) (a b : Nat) : Bool := !decide (cd (1 + 2 * a) = cd (1 + 2 * b)) && !decide (cd (2 + 2 * a) + cd 19 < cd (2 + 2 * b))
/-- the ways to go on: k voices are left, those of s stand, the last of them is `last` -/
def RW (cd : Nat → Int32) (n : Nat) : Nat → Int32 → Nat → Nat
  | 0, _, _ => 1
  | k + 1, s, last => sm (fun v => if (!hb s v && flw cd last v) = true then RW cd n k (s ||| bitI v) v else 0) n
theorem RW_le {cd : Nat → Int32} {n : Nat} (hn : n ≤ 9) : ∀ k s last, RW cd n k s last ≤ 9 ^ k
  | 0, _, _ => Nat.le_refl _
  | k + 1, s, last => by
    show sm (fun v => if (!hb s v && flw cd last v) = true then RW cd n k (s ||| bitI v) v else 0) n ≤ 9 ^ (k + 1)
    have g := sm_le (g := fun v => if (!hb s v && flw cd last v) = true then RW cd n k (s ||| bitI v) v else 0) (c := 9 ^ k) n (fun v _ => by
      show (if (!hb s v && flw cd last v) = true then RW cd n k (s ||| bitI v) v else 0) ≤ 9 ^ k
      split
      · exact RW_le hn k _ _
      · exact Nat.zero_le _)
    have : n * 9 ^ k ≤ 9 * 9 ^ k := Nat.mul_le_mul_right _ hn
    rw [Nat.pow_succ, Nat.mul_comm (9 ^ k) 9]
    omega
def CRg (cd : Nat → Int32) : Prop := iv 0 9 (cd 0) ∧ iv 0 9 (cd 19) ∧ ∀ j, j < 9 → iv 0 3 (cd (1 + 2 * j)) ∧ iv 0 9 (cd (2 + 2 * j))
theorem e_stepX {cd parts heights : Nat → Int32} {a b n : Nat} {post : Int32 → Prop} (hC : CRg cd) (hn9 : n ≤ 9) (ha : a < n) (hb1 : b < n) (hp1 : ∀ j, j < n → parts j = cd (1 + 2 * j)) (hp2 : ∀ j, j < n → heights j = cd (2 + 2 * j)) (hp : ∀ r, (¬ cd 19 < r ↔ flw cd a b = true) → post r) : q_wc_X0_stepBetween_0 parts heights (nI a) (nI b) post := by
  have via : vp_in (nI a) 9 := vp_in_nI (by omega) (by omega)
  have vib : vp_in (nI b) 9 := vp_in_nI (by omega) (by omega)
  obtain ⟨x, ex, -, hx9, -⟩ := iv_nI (hC.2.2 a (by omega)).2 (by decide)
  obtain ⟨y, ey, -, hy9, -⟩ := iv_nI (hC.2.2 b (by omega)).2 (by decide)
  obtain ⟨st, est, -, hs9, -⟩ := iv_nI hC.2.1 (by decide)
  refine ⟨via, vib, ?_⟩
  rw [nI_clamp (by omega), nI_clamp (by omega), hp1 a ha, hp1 b hb1, hp2 a ha, hp2 b hb1, ex, ey]
  refine ⟨fun hne => ⟨vib, via, hp _ ?_⟩, fun heq => hp _ ?_⟩
  · unfold flw
    rw [decide_eq_false hne, ex, ey, est, Bool.not_false, Bool.true_and, Bool.not_eq_true', decide_eq_false_iff_not, nI_add]
    by_cases q : x < y
    · rw [pk_sub (by omega), if_pos (show (0 : Int32) < nI (y - x) from nI_lt (a := 0) (show 0 < y - x by omega) (by omega)), nI_ltI (by omega) (by omega), nI_ltI (by omega) (by omega)]
      omega
    · rw [if_neg (fun h => by
        have h1 := Int32.lt_iff_toInt_lt.mp h
        rw [pk_sub_toInt (by omega) (by omega)] at h1
        have z0 : (0 : Int32).toInt = 0 := rfl
        omega)]
      have e1 : ¬ nI st < 0 := nI_pos (by omega)
      have e2 : ¬ nI (x + st) < nI y := fun h => by
        have := (nI_ltI (by omega) (by omega)).mp h
        omega
      exact ⟨fun _ => e2, fun _ => e1⟩
  · unfold flw
    rw [decide_eq_true heq, est]
    constructor
    · intro h
      exact absurd (nI_lt (b := 1000) (show st < 1000 by omega) (by omega)) h
    · intro h
      exact absurd h (by simp)
theorem e_measureX {cd parts heights gaps behind : Nat → Int32} {voices step : Int32} {n : Nat} {post : (Nat → Int32) → (Nat → Int32) → Prop} (hC : CRg cd) (hn9 : n ≤ 9) (h0 : voices = nI n) (hst : step = cd 19) (hp1 : ∀ j, j < n → parts j = cd (1 + 2 * j)) (hp2 : ∀ j, j < n → heights j = cd (2 + 2 * j)) (hp : ∀ gaps' behind', (∀ a b, a < n → b < 32 → hb (behind' a) b = (decide (b < n) && flw cd a b)) → post gaps' behind') : q_wk_X5_measure_3_0 gaps behind voices step parts heights post := by
  intro P hP
  have loop : ∀ d a (gaps behind : Nat → Int32), d = n - a → a ≤ n → (∀ a' b, a' < a → b < 32 → hb (behind a') b = (decide (b < n) && flw cd a' b)) → P (nI a) gaps behind := by
    intro d
    induction d using Nat.strongRecOn with
    | ind d ih =>
      intro a gaps behind hd ha hI
      apply hP
      refine pk_le n a (fun h9 => hp gaps behind (fun a' b ha' hb1 => hI a' b (by omega) hb1)) (fun h9 => ⟨vp_in_nI (by omega) (by omega), fun be1 e1 => ?_⟩) h0
      rw [nI_clamp (by omega)] at e1
      intro P2 hP2
      have loop2 : ∀ d b (gaps behind : Nat → Int32), d = n - b → b ≤ n → (∀ a' b, a' < a → b < 32 → hb (behind a') b = (decide (b < n) && flw cd a' b)) → (∀ b', b' < 32 → hb (behind a) b' = (decide (b' < b) && flw cd a b')) → P2 (nI b) gaps behind := by
        intro d
        induction d using Nat.strongRecOn with
        | ind d ih2 =>
          intro b gaps behind hd2 hbn hI2 hrow
          apply hP2
          refine pk_le n b (fun h8 v ev => ?_) (fun h8 => ?_) h0
          · rw [ev, nI_1]
            refine ih (n - (a + 1)) (by omega) (a + 1) gaps behind rfl (by omega) (fun a' b' ha' hb1 => ?_)
            by_cases e : a' = a
            · subst e
              rw [hrow b' hb1, show b = n by omega]
            · exact hI2 a' b' (by omega) hb1
          · have ei : (nI a * 9) + nI b = nI (9 * a + b) := by rw [jx9, Nat.mul_comm]
            have via : vp_in (nI a) 9 := vp_in_nI (by omega) (by omega)
            refine e_stepX hC hn9 h9 h8 hp1 hp2 (fun r hr => ?_)
            rw [ei]
            refine ⟨vp_in_nI (by omega) (by omega), fun g1 eg => ?_⟩
            have nx : ∀ be' : Nat → Int32, (∀ a' b, a' < a → b < 32 → hb (be' a') b = (decide (b < n) && flw cd a' b)) → (∀ b', b' < 32 → hb (be' a) b' = (decide (b' < b + 1) && flw cd a b')) → q_wk_X5_measure_3_69 P P2 g1 be' voices step parts heights (nI a) (nI b) post := by
              intro be' k1 k2 v ev
              rw [ev, nI_1]
              exact ih2 (n - (b + 1)) (by omega) (b + 1) g1 be' rfl (by omega) k1 k2
            have ext : ∀ b', ¬ b' = b → decide (b' < b + 1) = decide (b' < b) := fun b' e => by
              by_cases e2 : b' < b
              · rw [decide_eq_true e2, decide_eq_true (by omega)]
              · rw [decide_eq_false e2, decide_eq_false (by omega)]
            rw [hst]
            refine ⟨fun hlt => nx behind hI2 (fun b' hb1 => ?_), fun hge => ⟨via, fun v ev => ⟨via, fun be' ebe => nx be' (fun a' b' ha' hb1 => ?_) (fun b' hb1 => ?_)⟩⟩⟩
            · rw [hrow b' hb1]
              by_cases e : b' = b
              · subst e
                have hf : flw cd a b' = false := by
                  rw [← Bool.not_eq_true]
                  exact fun h => hr.mpr h hlt
                rw [hf, Bool.and_false, Bool.and_false]
              · rw [ext b' e]
            · rw [ebe, nI_clamp (by omega), up_n (by omega)]; exact hI2 a' b' ha' hb1
            · rw [nI_clamp (by omega)] at ev ebe
              rw [ebe, up_s, ev, hb_or, hrow b' hb1, show hb ((1 : Int32) <<< (nI b &&& 31)) b' = decide (b = b') from hb_b32' (by omega) hb1]
              by_cases e : b' = b
              · subst e
                rw [hr.mp hge, decide_eq_true (rfl : b' = b'), decide_eq_true (show b' < b' + 1 by omega)]
                simp
              · rw [decide_eq_false (show ¬ b = b' from fun h => e h.symm), Bool.or_false, ext b' e]
      exact loop2 _ 0 gaps be1 rfl (by omega) (fun a' b ha' hb1 => by rw [e1, up_n (by omega)]; exact hI a' b ha' hb1) (fun b' hb1 => by rw [e1, up_s, hb_0, decide_eq_false (Nat.not_lt_zero b')]; rfl)
  exact loop _ 0 gaps behind rfl (by omega) (fun a' b ha' => absurd ha' (Nat.not_lt_zero a'))
end
section
theorem or_nI {s v : Nat} (hs : s < 512) (hv : v < 9) : nI s ||| bitI v = nI (s ||| 2 ^ v) := by
  have hb2 : 2 ^ v < 2 ^ 9 := Nat.pow_lt_pow_right (by decide) hv
  have ho : s ||| 2 ^ v < 2 ^ 9 := Nat.or_lt_two_pow (by omega) hb2
  apply hb_eq
  intro k hk
  rw [hb_or, hb_nI (by omega), hb_nI (by omega), hb_b32' (by omega) hk, Nat.testBit_or, Nat.testBit_two_pow]
theorem or_gt {s v : Nat} (hv : s.testBit v = false) : s < s ||| 2 ^ v := by
  have h1 : s ≤ s ||| 2 ^ v := Nat.left_le_or
  apply Nat.lt_of_le_of_ne h1
  intro e
  have : (s ||| 2 ^ v).testBit v = false := by rw [← e]; exact hv
  rw [Nat.testBit_or, Nat.testBit_two_pow_self, Bool.or_true] at this
  exact absurd this (by decide)
theorem cS_or {s v n : Nat} (hn : n ≤ 9) (hs : s < 2 ^ n) (hv : v < n) (hv0 : s.testBit v = false) : cS (nI (s ||| 2 ^ v)) = cS (nI s) + 1 := by
  have hp := pow_b hn
  have ho : s ||| 2 ^ v < 2 ^ n := Nat.or_lt_two_pow hs (Nat.pow_lt_pow_right (by decide) hv)
  have key : ∀ m, m ≤ 9 → cntB (hb (nI (s ||| 2 ^ v))) m = cntB (hb (nI s)) m + (if v < m then 1 else 0) := by
    intro m
    induction m with
    | zero => intro _; rfl
    | succ m ih =>
      intro hm
      show cntB (hb (nI (s ||| 2 ^ v))) m + (if hb (nI (s ||| 2 ^ v)) m = true then 1 else 0) = cntB (hb (nI s)) m + (if hb (nI s) m = true then 1 else 0) + (if v < m + 1 then 1 else 0)
      rw [ih (by omega), hb_nI (by omega), hb_nI (by omega), Nat.testBit_or, Nat.testBit_two_pow]
      by_cases e : v = m
      · subst e
        rw [hv0, if_neg (Nat.lt_irrefl v), if_pos (show v < v + 1 by omega), decide_eq_true (rfl : v = v)]
        rfl
      · rw [decide_eq_false e, Bool.or_false]
        by_cases e2 : v < m
        · rw [if_pos e2, if_pos (show v < m + 1 by omega)]; omega
        · rw [if_neg e2, if_neg (show ¬ v < m + 1 by omega)]; omega
  have := key 9 (Nat.le_refl 9)
  rw [if_pos (show v < 9 by omega)] at this
  exact this
/-- the ways on behind the voices of s, the last of them v -/
def RN (cd : Nat → Int32) (n s v : Nat) : Nat := RW cd n (n - cS (nI s)) (nI s) v
theorem RN_full {cd : Nat → Int32} {n v : Nat} (hn : n ≤ 9) : RN cd n (2 ^ n - 1) v = 1 := by
  have hp := Nat.two_pow_pos n
  have hpw := pow_b hn
  have e : cS (nI (2 ^ n - 1)) = n := by
    have c := cntB_cut (p := hb (nI (2 ^ n - 1))) (n := n) (fun k hk => hb_lo (s := 2 ^ n - 1) (by omega) hn hk) (9 - n)
    rw [show n + (9 - n) = 9 by omega] at c
    unfold cS
    rw [c]
    have full : ∀ m, m ≤ n → cntB (hb (nI (2 ^ n - 1))) m = m := by
      intro m
      induction m with
      | zero => intro _; rfl
      | succ m ih =>
        intro hm
        show cntB (hb (nI (2 ^ n - 1))) m + (if hb (nI (2 ^ n - 1)) m = true then 1 else 0) = m + 1
        rw [ih (by omega), if_pos (full_bit hn (by omega))]
    exact full n (Nat.le_refl n)
  unfold RN
  rw [e, Nat.sub_self]
  rfl
theorem cS_part {s n : Nat} (hn : n ≤ 9) (hs : s < 2 ^ n) (hne : ¬ s = 2 ^ n - 1) : cS (nI s) < n := by
  have hp := Nat.two_pow_pos n
  have hpw := pow_b hn
  have hx : ∃ k, k < n ∧ hb (nI s) k = false := by
    apply Classical.byContradiction
    intro hno
    apply hne
    have e : nI s = nI (2 ^ n - 1) := by
      apply hb_eq
      intro k hk
      by_cases q : k < n
      · rw [full_bit hn q]
        apply Classical.byContradiction
        intro h
        exact hno ⟨k, q, by rw [← Bool.not_eq_true]; exact h⟩
      · rw [hb_lo hs hn (by omega), hb_lo (s := 2 ^ n - 1) (by omega) hn (by omega)]
    exact (nI_eq (by omega) (by omega)).mp e
  obtain ⟨k, hk, h0⟩ := hx
  have c := cntB_cut (p := hb (nI s)) (n := n) (fun k hk => hb_lo hs hn hk) (9 - n)
  rw [show n + (9 - n) = 9 by omega] at c
  unfold cS
  rw [c]
  have g := cnt_lt (p := hb (nI s)) (q := fun _ => true) n (fun _ _ _ => rfl) ⟨k, hk, rfl, h0⟩
  have l := cnt_le (fun _ => true) n
  omega
theorem RN_rec {cd : Nat → Int32} {n s v : Nat} (hn : n ≤ 9) (hs : s < 2 ^ n) (hne : ¬ s = 2 ^ n - 1) : RN cd n s v = sm (fun w => if (!s.testBit w && flw cd v w) = true then RN cd n (s ||| 2 ^ w) w else 0) n := by
  have hpw := pow_b hn
  have c := cS_part hn hs hne
  unfold RN
  rw [show n - cS (nI s) = (n - cS (nI s) - 1) + 1 by omega]
  show sm (fun w => if (!hb (nI s) w && flw cd v w) = true then RW cd n (n - cS (nI s) - 1) (nI s ||| bitI w) w else 0) n = _
  refine sm_ext n (fun w hw => ?_)
  show (if (!hb (nI s) w && flw cd v w) = true then RW cd n (n - cS (nI s) - 1) (nI s ||| bitI w) w else 0) = (if (!s.testBit w && flw cd v w) = true then RW cd n (n - cS (nI (s ||| 2 ^ w))) (nI (s ||| 2 ^ w)) w else 0)
  rw [hb_nI (by omega)]
  by_cases q : (!s.testBit w && flw cd v w) = true
  · rw [if_pos q, if_pos q, or_nI (by omega) (by omega)]
    rw [Bool.and_eq_true, Bool.not_eq_true'] at q
    rw [cS_or hn hs hw q.1, Nat.sub_sub]
  · rw [if_neg q, if_neg q]
theorem RN_b {cd : Nat → Int32} {n s v : Nat} (hn : n ≤ 9) (h1 : 1 ≤ cS (nI s)) : RN cd n s v ≤ 43046721 := by
  have g := RW_le (cd := cd) hn (n - cS (nI s)) (nI s) v
  have g2 : 9 ^ (n - cS (nI s)) ≤ 9 ^ 8 := Nat.pow_le_pow_right (by decide) (by omega)
  exact Nat.le_trans g g2
def ORD (cd : Nat → Int32) (n : Nat) : Nat := if n = 0 then 1 else sm (fun v => RN cd n (2 ^ v) v) n
theorem sm_tab' : ∀ k, k < 31 → ((nI k &&& 31).toBitVec.smod 32).toNat = k := by decide +kernel
theorem e_waysOnX {tab : Nat → Int32} {g : Nat → Nat} {s c n : Nat} {x1 x2 : Int32} {post : Int32 → Prop} (hn : n ≤ 9) (hs : s < 2 ^ n) (hc : c < 2 ^ n) (e1 : x1 = nI s) (e2 : x2 = nI c) (ht : ∀ w, w < n → c.testBit w = true → tab ((s ||| 2 ^ w) * 9 + w) = nI (g w)) (hp : post (nI (sm (fun w => if c.testBit w = true then g w else 0) n))) : q_wk_X5_waysOn_6_0 tab x1 x2 post := by
  subst e1 e2
  have hpw := pow_b hn
  have hi : ∀ w, n ≤ w → c.testBit w = false := fun w hw => Nat.testBit_lt_two_pow (Nat.lt_of_lt_of_le hc (Nat.pow_le_pow_right (by decide) hw))
  have cut : ∀ m, (∀ w, m ≤ w → c.testBit w = false) → ∀ d, sm (fun w => if c.testBit w = true then g w else 0) (m + d) = sm (fun w => if c.testBit w = true then g w else 0) m := by
    intro m h d
    induction d with
    | zero => rfl
    | succ d ih =>
      show sm (fun w => if c.testBit w = true then g w else 0) (m + d) + (if c.testBit (m + d) = true then g (m + d) else 0) = _
      rw [ih, h (m + d) (by omega), if_neg (by decide), Nat.add_zero]
  intro P hP
  have loop : ∀ d w, d = 9 - w → w ≤ 9 → P (nI (sm (fun w => if c.testBit w = true then g w else 0) w)) (nI w) := by
    intro d
    induction d using Nat.strongRecOn with
    | ind d ih =>
      intro w hd hw
      apply hP
      refine pk_le 9 w (fun h9 => ?_) (fun h9 => ⟨fun q => ?_, fun q => ?_⟩)
      · have e := cut n hi (w - n)
        rw [show n + (w - n) = w by omega] at e
        rw [e]
        exact hp
      · have hz : ∀ u, w ≤ u → c.testBit u = false := by
          intro u hu
          rw [pk_shrN (n := c) (by omega) (nI w &&& 31) w (sm_tab' w (by omega))] at q
          have h0 : c / 2 ^ w = 0 := by
            have hb2 : c / 2 ^ w ≤ c := Nat.div_le_self _ _
            exact (nI_eq (b := 0) (by omega) (by omega)).mp q
          have h1 : c < 2 ^ w := by
            rcases Nat.div_eq_zero_iff.mp h0 with h | h
            · exact absurd h (Nat.pos_iff_ne_zero.mp (Nat.two_pow_pos w))
            · exact h
          exact Nat.testBit_lt_two_pow (Nat.lt_of_lt_of_le h1 (Nat.pow_le_pow_right (by decide) hu))
        by_cases hwn : w ≤ n
        · have e := cut w hz (n - w)
          rw [show w + (n - w) = n by omega] at e
          rw [← e]
          exact hp
        · have e := cut n hi (w - n)
          rw [show n + (w - n) = w by omega] at e
          rw [e]
          exact hp
      · have e : sm (fun w => if c.testBit w = true then g w else 0) (w + 1) = sm (fun w => if c.testBit w = true then g w else 0) w + (if c.testBit w = true then g w else 0) := rfl
        have nx : ∀ y : Int32, y = nI (sm (fun w => if c.testBit w = true then g w else 0) (w + 1)) → q_wk_X5_waysOn_6_45 P tab (nI s) (nI c) y (nI w) post := by
          intro y hy v ev
          rw [ev, nI_1, hy]
          exact ih (9 - (w + 1)) (by omega) (w + 1) rfl (by omega)
        refine e_hasX (by omega) (fun h0 => iz (nx _ ?_)) (fun h1 => oi ?_)
        · rw [hb_nI (by omega)] at h0
          rw [e, if_neg (by rw [h0]; decide)]; rfl
        · rw [hb_nI (by omega)] at h1
          have hwn : w < n := by
            apply Classical.byContradiction
            intro h
            rw [hi w (by omega)] at h1
            exact absurd h1 (by decide)
          have ei : ((nI s ||| ((1 : Int32) <<< (nI w &&& 31))) * 9) + nI w = nI ((s ||| 2 ^ w) * 9 + w) := by
            rw [show nI s ||| ((1 : Int32) <<< (nI w &&& 31)) = nI (s ||| 2 ^ w) from or_nI (by omega) (by omega), jx9]
          have ho : s ||| 2 ^ w < 2 ^ 9 := Nat.or_lt_two_pow (by omega) (Nat.pow_lt_pow_right (by decide) (by omega))
          rw [ei]
          refine ⟨vp_in_nI (by omega) (by omega), fun v ev => nx _ ?_⟩
          rw [nI_clamp (by omega), ht w hwn h1, nI_add] at ev
          rw [ev, e, if_pos h1]
  exact loop _ 0 rfl (by omega)
end
section
theorem nI_ofbits {x : Int32} {n : Nat} (hn : n ≤ 9) (h : ∀ k, k < 32 → n ≤ k → hb x k = false) : ∃ c, c < 2 ^ n ∧ x = nI c := by
  refine ⟨x.toBitVec.toNat, ?_, ?_⟩
  · apply Nat.lt_pow_two_of_testBit
    intro k hk
    by_cases q : k < 32
    · exact h k q hk
    · exact Nat.testBit_lt_two_pow (Nat.lt_of_lt_of_le x.toBitVec.isLt (Nat.pow_le_pow_right (by decide) (by omega)))
  · apply hb_eq
    intro k hk
    show x.toBitVec.toNat.testBit k = (nI x.toBitVec.toNat).toBitVec.toNat.testBit k
    rw [show (nI x.toBitVec.toNat).toBitVec.toNat = x.toBitVec.toNat % 2 ^ 32 from rfl, Nat.mod_eq_of_lt x.toBitVec.isLt]
/-- the class's table is right above m -/
def TOK (cd : Nat → Int32) (n m : Nat) (tab : Nat → Int32) : Prop := ∀ s, m < s → s < 2 ^ n → ∀ v, v < n → s.testBit v = true → tab (s * 9 + v) = nI (RN cd n s v)
theorem e_fillX {cd parts heights gaps behind tab : Nat → Int32} {voices step : Int32} {n : Nat} {post : (Nat → Int32) → (Nat → Int32) → (Nat → Int32) → Prop} (hC : CRg cd) (hn9 : n ≤ 9) (h0 : voices = nI n) (hst : step = cd 19) (hp1 : ∀ j, j < n → parts j = cd (1 + 2 * j)) (hp2 : ∀ j, j < n → heights j = cd (2 + 2 * j)) (hp : ∀ gaps' behind' tab', (∀ a b, a < n → b < 32 → hb (behind' a) b = (decide (b < n) && flw cd a b)) → TOK cd n 0 tab' → post gaps' behind' tab') : q_wk_X5_fill_3_0 gaps behind voices step parts heights tab post := by
  have hpw := pow_b hn9
  have hp0 := Nat.two_pow_pos n
  refine e_measureX hC hn9 h0 hst hp1 hp2 (fun ga be hbe => ?_)
  show q_wk_X5_table_0 _
  refine ⟨fun h => absurd h (by decide), fun _ => ?_⟩
  intro v1 ev1
  rw [h0, sh_pow hn9, show nI (2 ^ n) - 1 = nI (2 ^ n - 1) from pk_sub (b := 1) hp0] at ev1
  subst ev1
  intro P hP
  have loop : ∀ m (tab : Nat → Int32), m < 2 ^ n → TOK cd n m tab → P (nI m) tab := by
    intro m
    induction m with
    | zero =>
      intro tab _ hT
      apply hP
      exact pk_le 0 0 (fun _ => hp ga be tab hbe hT) (fun h => absurd h (by omega))
    | succ m ih =>
      intro tab hm hT
      apply hP
      refine pk_le (m + 1) 0 (fun h => absurd h (by omega)) (fun _ => ?_) rfl rfl (by omega) (by omega)
      intro P2 hP2
      have loop2 : ∀ d v (tab : Nat → Int32), d = n - v → v ≤ n → TOK cd n (m + 1) tab → (∀ w, w < v → (m + 1).testBit w = true → tab ((m + 1) * 9 + w) = nI (RN cd n (m + 1) w)) → P2 (nI v) tab := by
        intro d
        induction d using Nat.strongRecOn with
        | ind d ih2 =>
          intro v tab hd hv hT2 hrow
          apply hP2
          refine pk_le n v (fun h9 w ew => ?_) (fun h9 => ?_) h0
          · rw [ew, pk_m1]
            refine ih tab (by omega) (fun s hs1 hs2 w hw hb1 => ?_)
            by_cases e : s = m + 1
            · subst e
              exact hrow w (by omega) hb1
            · exact hT2 s (by omega) hs2 w hw hb1
          · have nx : ∀ tab' : Nat → Int32, TOK cd n (m + 1) tab' → (∀ w, w < v + 1 → (m + 1).testBit w = true → tab' ((m + 1) * 9 + w) = nI (RN cd n (m + 1) w)) → q_wk_X5_fill_3_87 P P2 ga be voices step parts heights tab' (nI (2 ^ n - 1)) (nI (m + 1)) (nI v) post := by
              intro tab' k1 k2 w ew
              rw [ew, nI_1]
              exact ih2 (n - (v + 1)) (by omega) (v + 1) tab' rfl (by omega) k1 k2
            have put : ∀ y : Int32, (m + 1).testBit v = true → y = nI (RN cd n (m + 1) v) → q_wk_X5_fill_3_86 P P2 ga be voices step parts heights tab (nI (2 ^ n - 1)) (nI (m + 1)) (nI v) ((nI (m + 1) * 9) + nI v) y post := by
              intro y hbv hy
              rw [jx9]
              refine ⟨vp_in_nI (by omega) (by omega), fun tab' et => ?_⟩
              rw [nI_clamp (by omega)] at et
              refine nx tab' (fun s hs1 hs2 w hw hb1 => ?_) (fun w hw hb1 => ?_)
              · rw [et, up_n (by omega)]
                exact hT2 s hs1 hs2 w hw hb1
              · rw [et]
                by_cases e : w = v
                · subst e; rw [up_s, hy]
                · rw [up_n (by omega)]
                  exact hrow w (by omega) hb1
            refine e_hasX (by omega) (fun q => iz (nx tab hT2 (fun w hw hb1 => ?_))) (fun q => oi ⟨fun hne => ⟨vp_in_nI (by omega) (by omega), ?_⟩, fun heq => put 1 ?_ ?_⟩)
            · rw [hb_nI (by omega)] at q
              by_cases e : w = v
              · subst e; rw [q] at hb1; exact absurd hb1 (by decide)
              · exact hrow w (by omega) hb1
            · rw [hb_nI (by omega)] at q
              have hne2 : ¬ m + 1 = 2 ^ n - 1 := fun e => hne (by rw [e])
              rw [nI_clamp (by omega)]
              have hcb : ∀ k, k < 32 → hb (be v &&& (nI (m + 1) ^^^ (-1))) k = ((decide (k < n) && flw cd v k) && !(m + 1).testBit k) := fun k hk => by rw [hb_and, hb_not _ hk, hbe v k h9 hk, hb_nI (by omega)]
              obtain ⟨c, hc, ec⟩ := nI_ofbits (x := be v &&& (nI (m + 1) ^^^ (-1))) hn9 (fun k hk hnk => by rw [hcb k hk, decide_eq_false (by omega)]; rfl)
              have hct : ∀ k, k < n → c.testBit k = (flw cd v k && !(m + 1).testBit k) := fun k hk => by
                rw [← hb_nI (by omega), ← ec, hcb k (by omega), decide_eq_true hk, Bool.true_and]
              rw [ec]
              refine e_waysOnX (g := fun w => RN cd n ((m + 1) ||| 2 ^ w) w) hn9 hm hc rfl rfl (fun w hw hcw => ?_) (put _ q ?_)
              · rw [hct w hw, Bool.and_eq_true, Bool.not_eq_true'] at hcw
                have ho : (m + 1) ||| 2 ^ w < 2 ^ n := Nat.or_lt_two_pow hm (Nat.pow_lt_pow_right (by decide) hw)
                exact hT2 _ (or_gt hcw.2) ho w hw (by rw [Nat.testBit_or, Nat.testBit_two_pow_self, Bool.or_true])
              · rw [RN_rec hn9 hm hne2]
                congr 1
                refine sm_ext n (fun w hw => ?_)
                show (if c.testBit w = true then RN cd n ((m + 1) ||| 2 ^ w) w else 0) = (if (!(m + 1).testBit w && flw cd v w) = true then RN cd n ((m + 1) ||| 2 ^ w) w else 0)
                rw [hct w hw, Bool.and_comm]
            · rw [hb_nI (by omega)] at q
              exact q
            · have e : m + 1 = 2 ^ n - 1 := (nI_eq (by omega) (by omega)).mp heq
              rw [e, RN_full hn9]
              rfl
      exact loop2 _ 0 tab rfl (by omega) hT (fun w hw => absurd hw (Nat.not_lt_zero w))
  exact loop (2 ^ n - 1) tab (by omega) (fun s hs1 hs2 => by omega)
theorem tb1 (v : Nat) : (2 ^ v).testBit v = true := by rw [Nat.testBit_two_pow]; exact decide_eq_true rfl
theorem p_lt {v n : Nat} (h : v < n) : 2 ^ v < 2 ^ n := Nat.pow_lt_pow_right (by decide) h
theorem e_totalX {cd tab : Nat → Int32} {voices : Int32} {n : Nat} {post : Int32 → Prop} (hn9 : n ≤ 9) (h0 : voices = nI n) (hT : TOK cd n 0 tab) (hp : post (nI (ORD cd n))) : q_wk_X5_total_3_0 voices tab post := by
  have hpw := pow_b hn9
  unfold ORD at hp
  refine ⟨fun hne => ⟨fun h => absurd h (by decide), fun _ => ?_⟩, fun heq => ?_⟩
  · rw [h0] at hne
    rw [if_neg (fun e => hne (by rw [e]; rfl))] at hp
    intro P hP
    have loop : ∀ d v, d = n - v → v ≤ n → P (nI (sm (fun v => RN cd n (2 ^ v) v) v)) (nI v) := by
      intro d
      induction d using Nat.strongRecOn with
      | ind d ih =>
        intro v hd hv
        apply hP
        refine pk_le n v (fun h9 => by rw [show v = n by omega]; exact hp) (fun h9 => ?_) h0
        have l := p_lt h9
        have ei : (((1 : Int32) <<< (nI v &&& 31)) * 9) + nI v = nI (2 ^ v * 9 + v) := by rw [sh_pow (by omega), jx9]
        rw [ei]
        refine ⟨vp_in_nI (by omega) (by omega), fun w ew w2 ew2 => ?_⟩
        rw [nI_clamp (by omega), hT (2 ^ v) (Nat.two_pow_pos v) l v h9 (tb1 v), nI_add] at ew
        rw [ew, ew2, nI_1]
        exact ih (n - (v + 1)) (by omega) (v + 1) rfl (by omega)
    exact loop _ 0 rfl (by omega)
  · rw [h0] at heq
    rw [if_pos ((nI_eq (b := 0) (by omega) (by omega)).mp heq)] at hp
    exact hp
end
section
/-- the reference's table is right above m -/
def TOM (cd : Nat → Int32) (n m : Nat) (tab : Nat → Int64) : Prop := ∀ s, m < s → s < 2 ^ n → ∀ v, v < n → tab (9 * s + v) = if s.testBit v = true then lN (RN cd n s v) else 0
theorem chM_row {M : Nat → Nat → Int32} {k j : Nat} (hk : k < 2) : rowM M 3 (nI k) j = M 8 (20 * k + j) := by
  unfold rowM
  rw [nI_clamp (by omega)]
  rfl
theorem CRg_of {M : Nat → Nat → Int32} {k : Nat} (hC : mCho (M 8)) (hk : k < 2) : CRg (rowM M 3 (nI k)) := by
  have g := hC k (by omega)
  refine ⟨by rw [chM_row hk, Nat.add_zero]; exact g.1, by rw [chM_row hk]; exact g.2.1, fun j hj => ?_⟩
  have g2 := g.2.2 j hj
  refine ⟨?_, ?_⟩
  · rw [chM_row hk, show 20 * k + (1 + 2 * j) = 20 * k + 1 + 2 * j by omega]; exact g2.1
  · rw [chM_row hk, show 20 * k + (2 + 2 * j) = 20 * k + 1 + 2 * j + 1 by omega]; exact g2.2
theorem e_voiceM {M : Nat → Nat → Int32} {k j i z : Nat} {x : Int32} {post : Int32 → Prop} (hk : k < 2) (hj : j < 9) (hi : i < 2) (hx : x = nI i) (hz : z = 1 + i + 2 * j) (hp : post (rowM M 3 (nI k) z)) : q_m_voice_0 (M 8) (nI k) (nI j) x post := by
  subst hx hz
  have e : ((((20 : Int32) * nI k) + (1 : Int32)) + ((2 : Int32) * nI j)) + nI i = nI (20 * k + 1 + 2 * j + i) := by
    rw [show (20 : Int32) * nI k = nI (20 * k) from pk_mul 20 k, show (2 : Int32) * nI j = nI (2 * j) from pk_mul 2 j, nI_1, nI_add, nI_add]
  refine ⟨by rw [e]; exact vp_in_nI (by omega) (by omega), ?_⟩
  rw [e, nI_clamp (by omega)]
  rw [chM_row hk, show 20 * k + (1 + i + 2 * j) = 20 * k + 1 + 2 * j + i by omega] at hp
  exact hp
theorem e_stepOfM {M : Nat → Nat → Int32} {k : Nat} {post : Int32 → Prop} (hk : k < 2) (hp : post (rowM M 3 (nI k) 19)) : q_m_stepOf_0 (M 8) (nI k) post := by
  have e : ((20 : Int32) * nI k) + (19 : Int32) = nI (20 * k + 19) := by
    rw [show (20 : Int32) * nI k = nI (20 * k) from pk_mul 20 k, show (19 : Int32) = nI 19 from rfl, nI_add]
  refine ⟨by rw [e]; exact vp_in_nI (by omega) (by omega), ?_⟩
  rw [e, nI_clamp (by omega)]
  rw [chM_row hk] at hp
  exact hp
theorem e_followsM {M : Nat → Nat → Int32} {k a b : Nat} {x3 : Int32} {post : Int32 → Prop} (hk : k < 2) (ha : a < 9) (hb1 : b < 9) (h3 : x3 = rowM M 3 (nI k) 19) (h0 : flw (rowM M 3 (nI k)) a b = false → post 0) (h1 : flw (rowM M 3 (nI k)) a b = true → post 1) : q_m_follows_0 (M 8) (nI k) (nI a) (nI b) x3 post := by
  subst h3
  unfold flw at h0 h1
  refine e_voiceM hk ha (i := 0) (z := 1 + 2 * a) (by omega) rfl (by omega) (e_voiceM hk hb1 (i := 0) (z := 1 + 2 * b) (by omega) rfl (by omega) ⟨fun q => h0 (by rw [decide_eq_true q]; rfl), fun q => ?_⟩)
  rw [decide_eq_false q, Bool.not_false, Bool.true_and] at h0 h1
  refine e_voiceM hk hb1 (i := 1) (z := 2 + 2 * b) (by omega) rfl (by omega) (e_voiceM hk ha (i := 1) (z := 2 + 2 * a) (by omega) rfl (by omega) ⟨fun q2 => h0 (by rw [decide_eq_true q2]; rfl), fun q2 => h1 (by rw [decide_eq_false q2]; rfl)⟩)
theorem e_findRestM {M : Nat → Nat → Int32} {rest : Nat → Int64} {k n : Nat} {voices x1 : Int32} {post : Int64 → (Nat → Int64) → Prop} (hk : k < 2) (hn9 : n ≤ 9) (h0 : voices = nI n) (h1 : x1 = rowM M 3 (nI k) 19) (hp : ∀ rest', TOM (rowM M 3 (nI k)) n 0 rest' → post (lN (ORD (rowM M 3 (nI k)) n)) rest') : q_m_findRest_0 (M 8) (nI k) voices rest x1 post := by
  have hpw := pow_b hn9
  have hp0 := Nat.two_pow_pos n
  intro v1 ev1
  rw [h0, sh_pow hn9, show nI (2 ^ n) - 1 = nI (2 ^ n - 1) from pk_sub (b := 1) hp0] at ev1
  subst ev1
  have tot : ∀ rest' : Nat → Int64, TOM (rowM M 3 (nI k)) n 0 rest' → ∀ (z : Nat), z + sm (fun v => RN (rowM M 3 (nI k)) n (2 ^ v) v) n = ORD (rowM M 3 (nI k)) n → q_m_findRest_155 (M 8) (nI k) voices rest' (lN z) post := by
    intro rest' hT z hz
    intro P hP
    have loop : ∀ d v, d = n - v → v ≤ n → P (lN (z + sm (fun v => RN (rowM M 3 (nI k)) n (2 ^ v) v) v)) (nI v) := by
      intro d
      induction d using Nat.strongRecOn with
      | ind d ih =>
        intro v hd hv
        apply hP
        refine pk_le n v (fun h9 => ?_) (fun h9 => ?_) h0
        · rw [show v = n by omega, hz]
          exact hp rest' hT
        · have l := p_lt h9
          have ei : ((9 : Int32) * ((1 : Int32) <<< (nI v &&& 31))) + nI v = nI (9 * 2 ^ v + v) := by rw [sh_pow (by omega), show (9 : Int32) * nI (2 ^ v) = nI (9 * 2 ^ v) from pk_mul 9 _, nI_add]
          rw [ei]
          refine ⟨vp_in_nI (by omega) (by omega), fun w ew w2 ew2 => ?_⟩
          rw [nI_clamp (by omega), hT (2 ^ v) (Nat.two_pow_pos v) l v h9, if_pos (tb1 v), lN_add] at ew
          rw [ew, ew2, nI_1, Nat.add_assoc]
          exact ih (n - (v + 1)) (by omega) (v + 1) rfl (by omega)
    exact loop _ 0 rfl (by omega)
  intro P hP
  have loop : ∀ m (rest : Nat → Int64), m < 2 ^ n → TOM (rowM M 3 (nI k)) n m rest → P (nI m) rest := by
    intro m
    induction m with
    | zero =>
      intro rest _ hT
      apply hP
      refine pk_le 0 0 (fun _ => ⟨fun hne => ?_, fun heq => ?_⟩) (fun h => absurd h (by omega))
      · rw [h0] at hne
        have hn0 : ¬ n = 0 := fun e => hne (by rw [e]; rfl)
        exact tot rest hT 0 (by unfold ORD; rw [if_neg hn0, Nat.zero_add])
      · rw [h0] at heq
        have hn0 : n = 0 := (nI_eq (b := 0) (by omega) (by omega)).mp heq
        exact tot rest hT 1 (by unfold ORD; rw [if_pos hn0, hn0]; rfl)
    | succ m ih =>
      intro rest hm hT
      apply hP
      refine pk_le (m + 1) 0 (fun h => absurd h (by omega)) (fun _ => ?_) rfl rfl (by omega) (by omega)
      intro P2 hP2
      have loop2 : ∀ d v (rest : Nat → Int64), d = n - v → v ≤ n → TOM (rowM M 3 (nI k)) n (m + 1) rest → (∀ w, w < v → rest (9 * (m + 1) + w) = if (m + 1).testBit w = true then lN (RN (rowM M 3 (nI k)) n (m + 1) w) else 0) → P2 (nI v) rest := by
        intro d
        induction d using Nat.strongRecOn with
        | ind d ih2 =>
          intro v rest hd hv hT2 hrow
          apply hP2
          refine pk_le n v (fun h9 w ew => ?_) (fun h9 => ?_) h0
          · rw [ew, pk_m1]
            refine ih rest (by omega) (fun s hs1 hs2 w hw => ?_)
            by_cases e : s = m + 1
            · subst e
              exact hrow w (by omega)
            · exact hT2 s (by omega) hs2 w hw
          · have put : ∀ y : Int64, y = (if (m + 1).testBit v = true then lN (RN (rowM M 3 (nI k)) n (m + 1) v) else 0) → q_m_findRest_130 P P2 (M 8) (nI k) voices rest x1 (nI (2 ^ n - 1)) (nI (m + 1)) (nI v) (((9 : Int32) * nI (m + 1)) + nI v) y post := by
              intro y hy
              have ei : ((9 : Int32) * nI (m + 1)) + nI v = nI (9 * (m + 1) + v) := by rw [show (9 : Int32) * nI (m + 1) = nI (9 * (m + 1)) from pk_mul 9 _, nI_add]
              rw [ei]
              refine ⟨vp_in_nI (by omega) (by omega), fun r1 er w ew => ?_⟩
              rw [nI_clamp (by omega)] at er
              rw [ew, nI_1]
              refine ih2 (n - (v + 1)) (by omega) (v + 1) r1 rfl (by omega) (fun s hs1 hs2 w hw => ?_) (fun w hw => ?_)
              · rw [er, pk_uLn (by omega)]
                exact hT2 s hs1 hs2 w hw
              · rw [er]
                by_cases e : w = v
                · subst e; rw [pk_uLs, hy]
                · rw [pk_uLn (by omega)]
                  exact hrow w (by omega)
            have sums : ∀ z : Nat, z + (sm (fun w => if (!(m + 1).testBit w && flw (rowM M 3 (nI k)) v w) = true then RN (rowM M 3 (nI k)) n ((m + 1) ||| 2 ^ w) w else 0) n) = RN (rowM M 3 (nI k)) n (m + 1) v → q_m_findRest_37 P P2 (M 8) (nI k) voices rest x1 (nI (2 ^ n - 1)) (nI (m + 1)) (nI v) (lN z) post := by
              intro z hz P3 hP3
              have lw : ∀ d w, d = n - w → w ≤ n → P3 (lN (z + sm (fun w => if (!(m + 1).testBit w && flw (rowM M 3 (nI k)) v w) = true then RN (rowM M 3 (nI k)) n ((m + 1) ||| 2 ^ w) w else 0) w)) (nI w) := by
                intro d
                induction d using Nat.strongRecOn with
                | ind d ih3 =>
                  intro w hd3 hw
                  apply hP3
                  refine pk_le n w (fun h8 => ?_) (fun h8 => ?_) h0
                  · rw [show w = n by omega, hz]
                    refine e_hasM (by omega) (fun q => iz (put 0 ?_)) (fun q => oi (put _ ?_))
                    · rw [hb_nI (by omega)] at q
                      rw [if_neg (by rw [q]; decide)]
                    · rw [hb_nI (by omega)] at q
                      rw [if_pos q]
                  · have e : sm (fun w => if (!(m + 1).testBit w && flw (rowM M 3 (nI k)) v w) = true then RN (rowM M 3 (nI k)) n ((m + 1) ||| 2 ^ w) w else 0) (w + 1) = sm (fun w => if (!(m + 1).testBit w && flw (rowM M 3 (nI k)) v w) = true then RN (rowM M 3 (nI k)) n ((m + 1) ||| 2 ^ w) w else 0) w + (if (!(m + 1).testBit w && flw (rowM M 3 (nI k)) v w) = true then RN (rowM M 3 (nI k)) n ((m + 1) ||| 2 ^ w) w else 0) := rfl
                    have nx : ∀ y : Nat, y = (if (!(m + 1).testBit w && flw (rowM M 3 (nI k)) v w) = true then RN (rowM M 3 (nI k)) n ((m + 1) ||| 2 ^ w) w else 0) → q_m_findRest_95 P P2 P3 (M 8) (nI k) voices rest x1 (nI (2 ^ n - 1)) (nI (m + 1)) (nI v) (nI w) (lN (z + sm (fun w => if (!(m + 1).testBit w && flw (rowM M 3 (nI k)) v w) = true then RN (rowM M 3 (nI k)) n ((m + 1) ||| 2 ^ w) w else 0) w)) (lN y) post := by
                      intro y hy u1 eu1 u2 eu2
                      rw [eu1, eu2, nI_1, lN_add, hy, Nat.add_assoc, ← e]
                      exact ih3 (n - (w + 1)) (by omega) (w + 1) rfl (by omega)
                    refine e_hasM (by omega) (fun q => zi (e_followsM hk (by omega) (by omega) h1 (fun f0 => iz (nx 0 ?_)) (fun f1 => oi ?_))) (fun q => io (nx 0 ?_))
                    · rw [if_neg (by rw [f0, Bool.and_false]; decide)]
                    · rw [hb_nI (by omega)] at q
                      have ho : (m + 1) ||| 2 ^ w < 2 ^ n := Nat.or_lt_two_pow hm (p_lt h8)
                      have ei : ((9 : Int32) * (nI (m + 1) ||| ((1 : Int32) <<< (nI w &&& 31)))) + nI w = nI (9 * ((m + 1) ||| 2 ^ w) + w) := by
                        rw [show nI (m + 1) ||| ((1 : Int32) <<< (nI w &&& 31)) = nI ((m + 1) ||| 2 ^ w) from or_nI (by omega) (by omega), show (9 : Int32) * nI ((m + 1) ||| 2 ^ w) = nI (9 * ((m + 1) ||| 2 ^ w)) from pk_mul 9 _, nI_add]
                      rw [ei]
                      refine ⟨vp_in_nI (by omega) (by omega), ?_⟩
                      rw [nI_clamp (by omega), hT2 _ (or_gt q) ho w h8, if_pos (by rw [Nat.testBit_or, Nat.testBit_two_pow_self, Bool.or_true])]
                      exact nx _ (by rw [if_pos (by rw [q, f1]; rfl)])
                    · rw [hb_nI (by omega)] at q
                      rw [if_neg (by rw [q]; simp)]
              exact lw _ 0 rfl (by omega)
            refine ⟨fun hne => ?_, fun heq => ?_⟩
            · have hne2 : ¬ m + 1 = 2 ^ n - 1 := fun e => hne (by rw [e])
              exact sums 0 (by rw [Nat.zero_add, RN_rec hn9 hm hne2])
            · have e : m + 1 = 2 ^ n - 1 := (nI_eq (by omega) (by omega)).mp heq
              refine sums 1 ?_
              rw [e, RN_full hn9, sm_z n (fun w hw => by
                show (if (!(2 ^ n - 1).testBit w && flw (rowM M 3 (nI k)) v w) = true then RN (rowM M 3 (nI k)) n ((2 ^ n - 1) ||| 2 ^ w) w else 0) = 0
                rw [if_neg (by rw [Nat.testBit_two_pow_sub_one, decide_eq_true hw]; simp)])]
      exact loop2 _ 0 rest rfl (by omega) hT (fun w hw => absurd hw (Nat.not_lt_zero w))
  exact loop (2 ^ n - 1) rest (by omega) (fun s hs1 hs2 => by omega)
def AN_orders (M : Nat → Nat → Int32) (a : Int32) : Int64 := if 0 ≤ a ∧ a < M 4 3 then lN (ORD (rowM M 3 a) (cN (rowM M 3 a 0))) else -1
set_option maxRecDepth 40000 in
set_option maxHeartbeats 4000000 in
theorem e_m_orders {M : Nat → Nat → Int32} {f_code f_choir f_voices a : Int32} {rest : Nat → Int64} {post : Int64 → Int32 → Int32 → Int32 → (Nat → Int64) → Prop} (hc : ∀ o, iv 0 2 (M 4 o)) (hC : mCho (M 8)) (hp : ∀ z0 z1 z2 z3, post (AN_orders M a) z0 z1 z2 z3) : q_m_orders_0 f_code (M 4) (M 8) f_choir f_voices rest a post := by
  unfold AN_orders at hp
  refine e_is (o := 3) (by decide) (hc 3) (fun hn => zi (iz ?_)) (fun hy => io ?_)
  · rw [if_neg hn] at hp; exact hp _ _ _ _
  · rw [if_pos hy] at hp
    obtain ⟨k, hk, ea⟩ := lt_nI (m := 2) (hc 3) hy
    subst ea
    have hR := CRg_of hC hk
    obtain ⟨n, hn, -, hn9, -⟩ := iv_nI hR.1 (by decide)
    have e : (20 : Int32) * nI k = nI (20 * k) := pk_mul 20 k
    rw [hn, cN_nI (by omega)] at hp
    rw [e]
    refine ⟨vp_in_nI (by omega) (by omega), fun v ev => ?_⟩
    rw [nI_clamp (by omega)] at ev
    have ev2 : v = nI n := by rw [ev, ← hn, chM_row hk, Nat.add_zero]
    exact oi (e_stepOfM hk (e_findRestM hk (by omega) ev2 rfl (fun rest' _ => hp _ _ _ _)))
end
section
/-- the first that does -/
def ff (p : Nat → Bool) : Nat → Nat
  | 0 => 0
  | m + 1 => if ff p m < m then ff p m else if p m = true then m else m + 1
theorem ff_ok {p : Nat → Bool} : ∀ m, (ff p m = m ∧ ∀ u, u < m → p u = false) ∨ (ff p m < m ∧ p (ff p m) = true ∧ ∀ u, u < ff p m → p u = false)
  | 0 => Or.inl ⟨rfl, fun u hu => absurd hu (Nat.not_lt_zero u)⟩
  | m + 1 => by
    have e : ff p (m + 1) = if ff p m < m then ff p m else if p m = true then m else m + 1 := rfl
    rcases ff_ok (p := p) m with ⟨h1, h2⟩ | ⟨h1, h2, h3⟩
    · rw [e, if_neg (by omega)]
      by_cases q : p m = true
      · rw [if_pos q]
        exact Or.inr ⟨by omega, q, h2⟩
      · rw [if_neg q]
        refine Or.inl ⟨rfl, fun u hu => ?_⟩
        by_cases e2 : u = m
        · subst e2; rw [← Bool.not_eq_true]; exact q
        · exact h2 u (by omega)
    · rw [e, if_pos h1]
      exact Or.inr ⟨by omega, h2, h3⟩
theorem ff_ex {p : Nat → Bool} {m : Nat} (h : ∃ v, v < m ∧ p v = true) : ff p m < m ∧ p (ff p m) = true ∧ ∀ u, u < ff p m → p u = false := by
  rcases ff_ok (p := p) m with ⟨_, h2⟩ | h2
  · obtain ⟨v, hv, hp⟩ := h
    rw [h2 v hv] at hp
    exact absurd hp (by decide)
  · exact h2
/-- whether v may stand next -/
def okV (cd : Nat → Int32) (n j s last v : Nat) : Bool := !s.testBit v && ((decide (j = 0) || flw cd last v) && decide (¬ RN cd n (s ||| 2 ^ v) v = 0))
def oa (cd : Nat → Int32) (n : Nat) : Nat → Nat × Nat
  | 0 => (0, 0)
  | j + 1 => ((oa cd n j).1 ||| 2 ^ ff (okV cd n j (oa cd n j).1 (oa cd n j).2) n, ff (okV cd n j (oa cd n j).1 (oa cd n j).2) n)
theorem cS_full {n : Nat} (hn : n ≤ 9) : cS (nI (2 ^ n - 1)) = n := by
  have hp := Nat.two_pow_pos n
  have c := cntB_cut (p := hb (nI (2 ^ n - 1))) (n := n) (fun k hk => hb_lo (s := 2 ^ n - 1) (by omega) hn hk) (9 - n)
  rw [show n + (9 - n) = 9 by omega] at c
  unfold cS
  rw [c]
  have full : ∀ m, m ≤ n → cntB (hb (nI (2 ^ n - 1))) m = m := by
    intro m
    induction m with
    | zero => intro _; rfl
    | succ m ih =>
      intro hm
      show cntB (hb (nI (2 ^ n - 1))) m + (if hb (nI (2 ^ n - 1)) m = true then 1 else 0) = m + 1
      rw [ih (by omega), if_pos (full_bit hn (by omega))]
  exact full n (Nat.le_refl n)
def oI (cd : Nat → Int32) (n j : Nat) : Prop := (oa cd n j).1 < 2 ^ n ∧ cS (nI (oa cd n j).1) = j ∧ (0 < j → (oa cd n j).2 < n ∧ ¬ RN cd n (oa cd n j).1 (oa cd n j).2 = 0)
theorem oa_next {cd : Nat → Int32} {n j : Nat} (hn : n ≤ 9) (hO : ¬ ORD cd n = 0) (hj : j < n) (hI : oI cd n j) : ff (okV cd n j (oa cd n j).1 (oa cd n j).2) n < n ∧ okV cd n j (oa cd n j).1 (oa cd n j).2 (ff (okV cd n j (oa cd n j).1 (oa cd n j).2) n) = true ∧ ∀ u, u < ff (okV cd n j (oa cd n j).1 (oa cd n j).2) n → okV cd n j (oa cd n j).1 (oa cd n j).2 u = false := by
  obtain ⟨i1, i2, i3⟩ := hI
  apply ff_ex
  by_cases q : j = 0
  · subst q
    unfold ORD at hO
    rw [if_neg (by omega)] at hO
    obtain ⟨v, hv, g⟩ := sm_ex n (Nat.pos_of_ne_zero hO)
    refine ⟨v, hv, ?_⟩
    show (!(0 : Nat).testBit v && ((decide ((0 : Nat) = 0) || flw cd 0 v) && decide (¬ RN cd n (0 ||| 2 ^ v) v = 0))) = true
    rw [Nat.zero_testBit, decide_eq_true (rfl : (0 : Nat) = 0), Nat.zero_or, decide_eq_true (show ¬ RN cd n (2 ^ v) v = 0 by omega)]
    rfl
  · obtain ⟨l1, l2⟩ := i3 (by omega)
    have hne : ¬ (oa cd n j).1 = 2 ^ n - 1 := fun e => by
      rw [e, cS_full hn] at i2
      omega
    rw [RN_rec hn i1 hne] at l2
    obtain ⟨v, hv, g⟩ := sm_ex n (Nat.pos_of_ne_zero l2)
    by_cases q2 : (!(oa cd n j).1.testBit v && flw cd (oa cd n j).2 v) = true
    · rw [if_pos q2] at g
      rw [Bool.and_eq_true] at q2
      refine ⟨v, hv, ?_⟩
      unfold okV
      rw [q2.1, q2.2, Bool.or_true, decide_eq_true (show ¬ RN cd n ((oa cd n j).1 ||| 2 ^ v) v = 0 by omega)]
      rfl
    · rw [if_neg q2] at g
      exact absurd g (Nat.lt_irrefl 0)
theorem oa_I {cd : Nat → Int32} {n : Nat} (hn : n ≤ 9) (hO : ¬ ORD cd n = 0) : ∀ j, j ≤ n → oI cd n j
  | 0, _ => ⟨Nat.two_pow_pos n, by
    show cntB (hb (nI 0)) 9 = 0
    have z : ∀ m, cntB (hb (nI 0)) m = 0 := by
      intro m
      induction m with
      | zero => rfl
      | succ m ih =>
        show cntB (hb (nI 0)) m + (if hb (nI 0) m = true then 1 else 0) = 0
        rw [ih, show hb (nI 0) m = false from hb_0 m]
        rfl
    exact z 9, fun h => absurd h (Nat.lt_irrefl 0)⟩
  | j + 1, hj => by
    have hI := oa_I hn hO j (by omega)
    obtain ⟨f1, f2, _⟩ := oa_next hn hO (by omega) hI
    unfold okV at f2
    rw [Bool.and_eq_true, Bool.and_eq_true, Bool.not_eq_true'] at f2
    refine ⟨Nat.or_lt_two_pow hI.1 (p_lt f1), ?_, fun _ => ⟨f1, of_decide_eq_true f2.2.2⟩⟩
    show cS (nI ((oa cd n j).1 ||| 2 ^ ff (okV cd n j (oa cd n j).1 (oa cd n j).2) n)) = j + 1
    rw [cS_or hn hI.1 f1 f2.1, hI.2.1]
def ORA (cd : Nat → Int32) (n : Nat) (x : Nat) : Int32 := if ORD cd n = 0 then -1 else nI (oa cd n (x + 1)).2
def AN_order (M : Nat → Nat → Int32) (a b : Int32) : Int32 := if 0 ≤ a ∧ a < M 4 3 then (if 0 ≤ b ∧ b < rowM M 3 a 0 then ORA (rowM M 3 a) (cN (rowM M 3 a 0)) (cN b) else -1) else -1
theorem e_firstX {cd tab : Nat → Int32} {n j c : Nat} {x1 x2 : Int32} {post : Int32 → Prop} (hn : n ≤ 9) (hO : ¬ ORD cd n = 0) (hj : j < n) (hT : TOK cd n 0 tab) (e1 : x1 = nI (oa cd n j).1) (e2 : x2 = nI c) (hc : c < 2 ^ n) (hcb : ∀ v, v < n → c.testBit v = (!(oa cd n j).1.testBit v && (decide (j = 0) || flw cd (oa cd n j).2 v))) (hp : post (nI (ff (okV cd n j (oa cd n j).1 (oa cd n j).2) n))) : q_wk_X5_firstOf_0 tab x1 x2 post := by
  subst e1 e2
  have hpw := pow_b hn
  have hI := oa_I hn hO j (by omega)
  obtain ⟨f1, f2, f3⟩ := oa_next hn hO hj hI
  refine ⟨fun h => absurd h (by decide), fun _ => ?_⟩
  intro P hP
  have loop : ∀ d v, d = ff (okV cd n j (oa cd n j).1 (oa cd n j).2) n - v → v ≤ ff (okV cd n j (oa cd n j).1 (oa cd n j).2) n → P (nI v) := by
    intro d
    induction d using Nat.strongRecOn with
    | ind d ih =>
      intro v hd hv
      apply hP
      refine pk_le 9 v (fun h9 => absurd h9 (by omega)) (fun h9 => ?_)
      have hvn : v < n := by omega
      have nx : okV cd n j (oa cd n j).1 (oa cd n j).2 v = false → q_wk_X5_firstOf_44 P tab (nI (oa cd n j).1) (nI c) (nI v) post := by
        intro h w ew
        rw [ew, nI_1]
        have hne : ¬ v = ff (okV cd n j (oa cd n j).1 (oa cd n j).2) n := fun e => by
          rw [← e] at f2
          rw [h] at f2
          exact absurd f2 (by decide)
        exact ih _ (by omega) (v + 1) rfl (by omega)
      refine e_hasX (by omega) (fun q => iz (nx ?_)) (fun q => oi ?_)
      · rw [hb_nI (by omega), hcb v hvn] at q
        unfold okV
        rw [← Bool.and_assoc, q, Bool.false_and]
      · rw [hb_nI (by omega), hcb v hvn] at q
        have q2 := q
        rw [Bool.and_eq_true, Bool.not_eq_true'] at q2
        have ho : (oa cd n j).1 ||| 2 ^ v < 2 ^ n := Nat.or_lt_two_pow hI.1 (p_lt hvn)
        have ei : ((nI (oa cd n j).1 ||| ((1 : Int32) <<< (nI v &&& 31))) * 9) + nI v = nI (((oa cd n j).1 ||| 2 ^ v) * 9 + v) := by
          rw [show nI (oa cd n j).1 ||| ((1 : Int32) <<< (nI v &&& 31)) = nI ((oa cd n j).1 ||| 2 ^ v) from or_nI (by have := hI.1; omega) (by omega), jx9]
        rw [ei]
        have gt := or_gt q2.1
        have rb := RN_b (cd := cd) (s := (oa cd n j).1 ||| 2 ^ v) (v := v) hn (by rw [cS_or hn hI.1 hvn q2.1]; omega)
        have et := hT _ (by omega) ho v hvn (by rw [Nat.testBit_or, Nat.testBit_two_pow_self, Bool.or_true])
        refine ⟨vp_in_nI (by omega) (by omega), ?_⟩
        rw [nI_clamp (by omega), et]
        refine pk_le (RN cd n ((oa cd n j).1 ||| 2 ^ v) v) 0 (fun h => nx ?_) (fun h => ?_) rfl rfl (by omega) (by omega)
        · unfold okV
          rw [decide_eq_false (show ¬ ¬ RN cd n ((oa cd n j).1 ||| 2 ^ v) v = 0 by omega), Bool.and_false, Bool.and_false]
        · have hy : okV cd n j (oa cd n j).1 (oa cd n j).2 v = true := by
            unfold okV
            rw [← Bool.and_assoc, q, decide_eq_true (show ¬ RN cd n ((oa cd n j).1 ||| 2 ^ v) v = 0 by omega)]
            rfl
          have e : v = ff (okV cd n j (oa cd n j).1 (oa cd n j).2) n := by
            apply Classical.byContradiction
            intro hne
            rw [f3 v (by omega)] at hy
            exact absurd hy (by decide)
          rw [e]
          exact hp
  exact loop _ 0 rfl (Nat.zero_le _)
theorem e_voiceAtX {cd behind tab : Nat → Int32} {n x : Nat} {voices x2 : Int32} {post : Int32 → Prop} (hn : n ≤ 9) (hO : ¬ ORD cd n = 0) (hx : x < n) (h0 : voices = nI n) (e2 : x2 = nI x) (hT : TOK cd n 0 tab) (hbe : ∀ a b, a < n → b < 32 → hb (behind a) b = (decide (b < n) && flw cd a b)) (hp : post (nI (oa cd n (x + 1)).2)) : q_wk_X5_voiceAt_3_0 behind voices tab x2 post := by
  have hpw := pow_b hn
  have hp0 := Nat.two_pow_pos n
  subst e2
  intro v1 ev1
  rw [h0, sh_pow hn, show nI (2 ^ n) - 1 = nI (2 ^ n - 1) from pk_sub (b := 1) hp0] at ev1
  subst ev1
  intro P hP
  have loop : ∀ d j (c : Nat) (l : Int32), d = x + 1 - j → j ≤ x + 1 → c < 2 ^ n → (∀ v, v < n → c.testBit v = (!(oa cd n j).1.testBit v && (decide (j = 0) || flw cd (oa cd n j).2 v))) → (0 < j → l = nI (oa cd n j).2) → P (nI (oa cd n j).1) (nI c) l (nI j) := by
    intro d
    induction d using Nat.strongRecOn with
    | ind d ih =>
      intro j c l hd hj hc hcb hl
      apply hP
      refine pk_lt x j (fun h9 => ?_) (fun h9 => ?_) rfl rfl (by omega) (by omega)
      · have e : j = x + 1 := by omega
        subst e
        rw [hl (by omega)]
        exact hp
      · have hI := oa_I hn hO j (by omega)
        obtain ⟨f1, f2, _⟩ := oa_next hn hO (by omega) hI
        have hI2 := oa_I hn hO (j + 1) (by omega)
        refine e_firstX hn hO (by omega) hT rfl rfl hc hcb ⟨fun _ w1 ew1 => ⟨vp_in_nI (by omega) (by omega), fun w2 ew2 w3 ew3 => ?_⟩, fun h => absurd h (nIm1' (by omega))⟩
        have e1 : w1 = nI (oa cd n (j + 1)).1 := by
          rw [ew1]
          exact or_nI (by have := hI.1; omega) (by omega)
        have l2 : (oa cd n (j + 1)).2 = ff (okV cd n j (oa cd n j).1 (oa cd n j).2) n := rfl
        have hb2 : ∀ k, k < 32 → hb (behind (ff (okV cd n j (oa cd n j).1 (oa cd n j).2) n) &&& (nI (oa cd n (j + 1)).1 ^^^ (-1))) k = ((decide (k < n) && flw cd (ff (okV cd n j (oa cd n j).1 (oa cd n j).2) n) k) && !(oa cd n (j + 1)).1.testBit k) := fun k hk => by rw [hb_and, hb_not _ hk, hbe _ k f1 hk, hb_nI (by have := hI2.1; omega)]
        obtain ⟨c2, hc2, ec2⟩ := nI_ofbits (x := behind (ff (okV cd n j (oa cd n j).1 (oa cd n j).2) n) &&& (nI (oa cd n (j + 1)).1 ^^^ (-1))) hn (fun k hk hnk => by rw [hb2 k hk, decide_eq_false (by omega)]; rfl)
        rw [nI_clamp (by omega), e1, ec2] at ew2
        rw [e1, ew2, ew3, nI_1]
        refine ih _ (by omega) (j + 1) c2 _ rfl (by omega) hc2 (fun v hv => ?_) (fun _ => rfl)
        rw [← hb_nI (by omega), ← ec2, hb2 v (by omega), decide_eq_true hv, Bool.true_and, decide_eq_false (show ¬ j + 1 = 0 by omega), Bool.false_or, l2, Bool.and_comm]
  refine loop _ 0 (2 ^ n - 1) (-1) rfl (by omega) (by omega) (fun v hv => ?_) (fun h => absurd h (Nat.lt_irrefl 0))
  show (2 ^ n - 1).testBit v = (!(0 : Nat).testBit v && (decide ((0 : Nat) = 0) || flw cd 0 v))
  rw [Nat.testBit_two_pow_sub_one, decide_eq_true hv, Nat.zero_testBit]
  rfl
end
section
set_option maxRecDepth 40000 in
set_option maxHeartbeats 4000000 in
theorem e_m_order {M : Nat → Nat → Int32} {f_code f_choir f_voices a b : Int32} {rest : Nat → Int64} {post : Int32 → Int32 → Int32 → Int32 → (Nat → Int64) → Prop} (hc : ∀ o, iv 0 2 (M 4 o)) (hC : mCho (M 8)) (hp : ∀ z0 z1 z2 z3, post (AN_order M a b) z0 z1 z2 z3) : q_m_order_0 f_code (M 4) (M 8) f_choir f_voices rest a b post := by
  unfold AN_order at hp
  refine e_is (o := 3) (by decide) (hc 3) (fun hn => zi (iz ?_)) (fun hy => io ?_)
  · rw [if_neg hn] at hp; exact hp _ _ _ _
  rw [if_pos hy] at hp
  obtain ⟨k, hk, ea⟩ := lt_nI (m := 2) (hc 3) hy
  subst ea
  have hR := CRg_of hC hk
  obtain ⟨n, hn, -, hn9, -⟩ := iv_nI hR.1 (by decide)
  have hn9' : n ≤ 9 := by omega
  have hpw := pow_b hn9'
  have e : (20 : Int32) * nI k = nI (20 * k) := pk_mul 20 k
  rw [hn, cN_nI (by omega)] at hp
  rw [e]
  refine ⟨vp_in_nI (by omega) (by omega), fun v ev => ?_⟩
  rw [nI_clamp (by omega)] at ev
  have ev2 : v = nI n := by rw [ev, ← hn, chM_row hk, Nat.add_zero]
  subst ev2
  have hi : iv 0 1000 (nI n) := iv_ofN (by omega) (by omega) (by omega)
  refine oi (sp_in (fun h => iz ?_) (fun g1 g2 => oi (e_stepOfM hk (e_findRestM hk hn9' rfl rfl (fun rest' hT => ⟨fun hne => ?_, fun heq => ?_⟩)))))
  · rw [if_neg (fun h9 => h ((in_lt hi).mpr h9))] at hp; exact hp _ _ _ _
  · have hlt := (in_lt hi).mp ⟨g1, g2⟩
    rw [if_pos hlt] at hp
    obtain ⟨x, hx, ex⟩ := lt_nI (m := 9) (iv_ofN (l := 0) (h := 9) (by omega) (by omega) (by omega)) hlt
    subst ex
    have hxn : x < n := (nI_ltI (by omega) (by omega)).mp hlt.2
    have hO : ¬ ORD (rowM M 3 (nI k)) n = 0 := fun e0 => hne (by rw [e0]; exact (lg_cmp_eq _ _).mpr rfl)
    unfold ORA at hp
    rw [if_neg hO, cN_nI (by omega)] at hp
    intro P hP
    have loop : ∀ d j (l : Int32), d = x + 1 - j → j ≤ x + 1 → (j = 0 → l = -1) → (0 < j → l = nI (oa (rowM M 3 (nI k)) n j).2) → P (nI (oa (rowM M 3 (nI k)) n j).1) l (nI j) := by
      intro d
      induction d using Nat.strongRecOn with
      | ind d ih =>
        intro j l hd hj hl0 hl
        apply hP
        refine pk_lt x j (fun h9 => ?_) (fun h9 => ?_) rfl rfl (by omega) (by omega)
        · have ej : j = x + 1 := by omega
          subst ej
          rw [hl (by omega)]
          exact hp _ _ _ _
        · have hI := oa_I hn9' hO j (by omega)
          obtain ⟨f1, f2, f3⟩ := oa_next hn9' hO (by omega) hI
          intro P2 hP2
          have lv : ∀ d v, d = ff (okV (rowM M 3 (nI k)) n j (oa (rowM M 3 (nI k)) n j).1 (oa (rowM M 3 (nI k)) n j).2) n - v → v ≤ ff (okV (rowM M 3 (nI k)) n j (oa (rowM M 3 (nI k)) n j).1 (oa (rowM M 3 (nI k)) n j).2) n → P2 (nI v) := by
            intro d
            induction d using Nat.strongRecOn with
            | ind d ih2 =>
              intro v hd2 hv
              apply hP2
              have hvn : v < n := by omega
              have nx : okV (rowM M 3 (nI k)) n j (oa (rowM M 3 (nI k)) n j).1 (oa (rowM M 3 (nI k)) n j).2 v = false → q_m_order_111 P P2 0 (M 4) (M 8) (nI k) (nI n) rest' (nI x) (nI (oa (rowM M 3 (nI k)) n j).1) l (nI j) (nI v) post := by
                intro h w ew
                rw [ew, nI_1]
                have hne : ¬ v = ff (okV (rowM M 3 (nI k)) n j (oa (rowM M 3 (nI k)) n j).1 (oa (rowM M 3 (nI k)) n j).2) n := fun e => by
                  rw [← e] at f2
                  rw [h] at f2
                  exact absurd f2 (by decide)
                exact ih2 _ (by omega) (v + 1) rfl (by omega)
              have try_ : (!(oa (rowM M 3 (nI k)) n j).1.testBit v && (decide (j = 0) || flw (rowM M 3 (nI k)) (oa (rowM M 3 (nI k)) n j).2 v)) = true → q_m_order_89 P P2 0 (M 4) (M 8) (nI k) (nI n) rest' (nI x) (nI (oa (rowM M 3 (nI k)) n j).1) l (nI j) (nI v) post := by
                intro q
                have q2 := q
                rw [Bool.and_eq_true, Bool.not_eq_true'] at q2
                have ho : (oa (rowM M 3 (nI k)) n j).1 ||| 2 ^ v < 2 ^ n := Nat.or_lt_two_pow hI.1 (p_lt hvn)
                have ei : ((9 : Int32) * (nI (oa (rowM M 3 (nI k)) n j).1 ||| ((1 : Int32) <<< (nI v &&& 31)))) + nI v = nI (9 * ((oa (rowM M 3 (nI k)) n j).1 ||| 2 ^ v) + v) := by
                  rw [show nI (oa (rowM M 3 (nI k)) n j).1 ||| ((1 : Int32) <<< (nI v &&& 31)) = nI ((oa (rowM M 3 (nI k)) n j).1 ||| 2 ^ v) from or_nI (by have := hI.1; omega) (by omega), show (9 : Int32) * nI ((oa (rowM M 3 (nI k)) n j).1 ||| 2 ^ v) = nI (9 * ((oa (rowM M 3 (nI k)) n j).1 ||| 2 ^ v)) from pk_mul 9 _, nI_add]
                have gt := or_gt q2.1
                have rb := RN_b (cd := rowM M 3 (nI k)) (s := (oa (rowM M 3 (nI k)) n j).1 ||| 2 ^ v) (v := v) hn9' (by rw [cS_or hn9' hI.1 hvn q2.1]; omega)
                have et := hT _ (by omega) ho v hvn
                rw [if_pos (by rw [Nat.testBit_or, Nat.testBit_two_pow_self, Bool.or_true])] at et
                have l0 : ∀ z : Nat, z ≤ 43046721 → (lg_cmp (lN z) 0 = 0 ↔ z = 0) := fun z hz => (lg_cmp_eq (lN z) 0).trans (lN_eq (a := z) (b := 0) (by omega) (by omega))
                show vp_in (((9 : Int32) * (nI (oa (rowM M 3 (nI k)) n j).1 ||| ((1 : Int32) <<< (nI v &&& 31)))) + nI v) 4608 ∧ _
                refine ⟨by rw [ei]; exact vp_in_nI (by omega) (by omega), ?_⟩
                rw [ei, nI_clamp (by omega), et]
                refine ⟨fun h w1 ew1 w2 ew2 => ?_, fun h => nx ?_⟩
                · have hy : okV (rowM M 3 (nI k)) n j (oa (rowM M 3 (nI k)) n j).1 (oa (rowM M 3 (nI k)) n j).2 v = true := by
                    unfold okV
                    rw [← Bool.and_assoc, q, decide_eq_true (show ¬ RN (rowM M 3 (nI k)) n ((oa (rowM M 3 (nI k)) n j).1 ||| 2 ^ v) v = 0 from fun e0 => h ((l0 _ rb).mpr e0))]
                    rfl
                  have ev : v = ff (okV (rowM M 3 (nI k)) n j (oa (rowM M 3 (nI k)) n j).1 (oa (rowM M 3 (nI k)) n j).2) n := by
                    apply Classical.byContradiction
                    intro hne
                    rw [f3 v (by omega)] at hy
                    exact absurd hy (by decide)
                  have e1 : w1 = nI (oa (rowM M 3 (nI k)) n (j + 1)).1 := by
                    rw [ew1, ev]
                    exact or_nI (by have := hI.1; omega) (by omega)
                  rw [e1, ew2, nI_1]
                  exact ih _ (by omega) (j + 1) (nI v) rfl (by omega) (fun h => absurd h (by omega)) (fun _ => by rw [ev]; rfl)
                · unfold okV
                  rw [decide_eq_false (show ¬ ¬ RN (rowM M 3 (nI k)) n ((oa (rowM M 3 (nI k)) n j).1 ||| 2 ^ v) v = 0 from fun h9 => h9 ((l0 _ rb).mp h)), Bool.and_false, Bool.and_false]
              refine e_hasM (by omega) (fun q => zi ⟨fun hm1 => ?_, fun hm1 => ?_⟩) (fun q => io (nx ?_))
              · rw [hb_nI (by have := hI.1; omega)] at q
                have j0 : j = 0 := by
                  apply Classical.byContradiction
                  intro h
                  rw [hl (by omega)] at hm1
                  have := hI.2.2 (by omega)
                  exact nIm1' (by omega) hm1
                exact try_ (by rw [q, decide_eq_true j0]; rfl)
              · rw [hb_nI (by have := hI.1; omega)] at q
                have j0 : ¬ j = 0 := fun h => hm1 (hl0 h)
                have li := hI.2.2 (by omega)
                refine e_stepOfM hk ?_
                rw [hl (by omega)]
                refine e_followsM hk (by omega) (by omega) rfl (fun f0 => iz ?_) (fun f1 => oi ?_)
                · have h := nx (by
                    unfold okV
                    rw [f0, decide_eq_false j0]
                    simp)
                  rw [hl (by omega)] at h
                  exact h
                · have h := try_ (by rw [q, f1, Bool.or_true]; rfl)
                  rw [hl (by omega)] at h
                  exact h
              · rw [hb_nI (by have := hI.1; omega)] at q
                unfold okV
                rw [q]
                simp
          exact lv _ 0 rfl (Nat.zero_le _)
    exact loop _ 0 (-1) rfl (by omega) (fun _ => rfl) (fun h => absurd h (Nat.lt_irrefl 0))
  · have hlt := (in_lt hi).mp ⟨g1, g2⟩
    rw [if_pos hlt] at hp
    have hO : ORD (rowM M 3 (nI k)) n = 0 := by
      have h1 := (lg_cmp_eq _ _).mp heq
      have rb : ORD (rowM M 3 (nI k)) n < 2 ^ 31 := by
        unfold ORD
        split
        · omega
        · have g := sm_le (g := fun v => RN (rowM M 3 (nI k)) n (2 ^ v) v) (c := 43046721) n (fun v hv => by
            have c1 := cS_or (s := 0) (v := v) hn9' (Nat.two_pow_pos n) hv (Nat.zero_testBit v)
            rw [Nat.zero_or] at c1
            exact RN_b hn9' (by omega))
          omega
      exact (lN_eq (b := 0) rb (by omega)).mp h1
    unfold ORA at hp
    rw [if_pos hO] at hp
    exact hp _ _ _ _
end
section
theorem i2l {z : Nat} (h : z < 2 ^ 31) : Int32.toInt64 (nI z) = lN z := Int64.toInt_inj.mp (by rw [Int32.toInt_toInt64, nI_toInt h, lN_toInt h])
theorem ORD_b {cd : Nat → Int32} {n : Nat} (hn : n ≤ 9) : ORD cd n < 2 ^ 31 := by
  unfold ORD
  split
  · omega
  · have g := sm_le (g := fun v => RN cd n (2 ^ v) v) (c := 43046721) n (fun v hv => by
      have c1 := cS_or (s := 0) (v := v) hn (Nat.two_pow_pos n) hv (Nat.zero_testBit v)
      rw [Nat.zero_or] at c1
      exact RN_b hn (by omega))
    omega
theorem e_ordX {cd parts heights gaps behind tab : Nat → Int32} {voices step : Int32} {post : Int64 → (Nat → Int32) → (Nat → Int32) → (Nat → Int32) → Prop} (hR : CDR voices step parts heights cd) (hC : CRg cd) (hp : ∀ g b t, post (lN (ORD cd (cN (cd 0)))) g b t) : q_wk_X5_fill_3_0 gaps behind voices step parts heights tab (fun g b t => q_wk_X5_total_3_0 voices t (fun r => post (Int32.toInt64 r) g b t)) := by
  obtain ⟨n, hn, -, hn9, -⟩ := iv_nI hC.1 (by decide)
  have hn9' : n ≤ 9 := by omega
  have hcl : cN (cd 0) = n := by rw [hn]; exact nI_clamp (by omega)
  have h0 : voices = nI n := hR.1.trans hn
  rw [hcl] at hp
  refine e_fillX hC hn9' h0 hR.2.1 (fun j hj => (hR.2.2 j (by rw [show (cd 0).toNatClampNeg = n from hcl]; exact hj)).1) (fun j hj => (hR.2.2 j (by rw [show (cd 0).toNatClampNeg = n from hcl]; exact hj)).2) (fun g b t _ hT => e_totalX hn9' h0 hT ?_)
  rw [i2l (ORD_b hn9')]
  exact hp _ _ _
theorem e_ordC {cd parts heights gaps behind tab : Nat → Int32} {voices step x2 : Int32} {post : Int32 → (Nat → Int32) → (Nat → Int32) → (Nat → Int32) → Prop} (hR : CDR voices step parts heights cd) (hC : CRg cd) (hp : ∀ g b t, post (if 0 ≤ x2 ∧ x2 < cd 0 then ORA cd (cN (cd 0)) (cN x2) else -1) g b t) : (x2 < 0 → post (-1) gaps behind tab) ∧ (¬ x2 < 0 → ((x2 < voices → q_wk_X5_fill_3_0 gaps behind voices step parts heights tab (fun g b t => q_wk_X5_total_3_0 voices t (fun r => (¬ r = 0 → q_wk_X5_voiceAt_3_0 b voices t x2 (fun r2 => post r2 g b t)) ∧ (r = 0 → post (-1) g b t)))) ∧ (¬ x2 < voices → post (-1) gaps behind tab))) := by
  obtain ⟨n, hn, -, hn9, -⟩ := iv_nI hC.1 (by decide)
  have hn9' : n ≤ 9 := by omega
  have hcl : cN (cd 0) = n := by rw [hn]; exact nI_clamp (by omega)
  have h0 : voices = nI n := hR.1.trans hn
  rw [hcl] at hp
  refine ⟨fun hneg => ?_, fun hnn => ⟨fun hlt => ?_, fun hge => ?_⟩⟩
  · have h := hp gaps behind tab
    rw [if_neg (fun h9 => absurd hneg (Int32.not_lt.mpr h9.1))] at h
    exact h
  · have hlt' : 0 ≤ x2 ∧ x2 < cd 0 := ⟨Int32.not_lt.mp hnn, by rw [← hR.1]; exact hlt⟩
    rw [if_pos hlt'] at hp
    obtain ⟨x, hx, ex⟩ := lt_nI (m := 9) hC.1 hlt'
    subst ex
    have hxn : x < n := by
      have h := hlt'.2
      rw [hn] at h
      exact (nI_ltI (by omega) (by omega)).mp h
    unfold ORA at hp
    rw [cN_nI (by omega)] at hp
    refine e_fillX hC hn9' h0 hR.2.1 (fun j hj => (hR.2.2 j (by rw [show (cd 0).toNatClampNeg = n from hcl]; exact hj)).1) (fun j hj => (hR.2.2 j (by rw [show (cd 0).toNatClampNeg = n from hcl]; exact hj)).2) (fun g b t hbe hT => e_totalX hn9' h0 hT ⟨fun hne => ?_, fun heq => ?_⟩)
    · have hO : ¬ ORD cd n = 0 := fun e => hne (by rw [e]; rfl)
      have h := hp g b t
      rw [if_neg hO] at h
      exact e_voiceAtX hn9' hO hxn h0 rfl hT hbe h
    · have hO : ORD cd n = 0 := (nI_eq (b := 0) (ORD_b hn9') (by omega)).mp heq
      have h := hp g b t
      rw [if_pos hO] at h
      exact h
  · have h := hp gaps behind tab
    rw [if_neg (fun h9 => hge (by rw [hR.1]; exact h9.2))] at h
    exact h
set_option maxRecDepth 40000 in
theorem e_x_orders {T : TT} {M : Nat → Nat → Int32} {a : Int32} {gaps behind tab : Nat → Int32} {post : Int64 → (Nat → Int32) → (Nat → Int32) → (Nat → Int32) → Prop} (h : TM T M 0) (hB : tB T) (hC : mCho (M 8)) (hp : ∀ g b t, post (AN_orders M a) g b t) : q_wxt_X10_orders_0 (T.2 1) (T.1 21) (T.1 22) (T.2 30) (T.2 31) (T.1 23) (T.1 24) (T.2 32) (T.2 33) gaps behind tab a post := by
  unfold AN_orders at hp
  rw [TM_cnt h 3 (by decide)] at hp
  refine e_at (hB.2.2.1 3) (fun (hn : ¬ (0 ≤ a ∧ a < T.2 1 3)) => ?_) (fun ea hl => ?_) (fun ea hl => ?_)
  · rw [if_neg hn] at hp
    exact ⟨fun _ => hp _ _ _, fun h9 => absurd h9 (by decide), fun h9 => absurd rfl h9⟩
  · rw [if_pos (by rw [ea]; exact ⟨by decide, hl⟩), ea] at hp
    have hR : CDR (T.1 21) (T.1 22) (T.2 30) (T.2 31) (rowM M 3 (nI 0)) := TM_sl h 3 0 (by decide) (by decide) hl
    exact ⟨fun h9 => absurd h9 (by decide), fun h9 => absurd h9 (by decide), fun _ _ => e_ordX hR (CRg_of hC (by decide)) hp⟩
  · rw [if_pos (by rw [ea]; exact ⟨by decide, hl⟩), ea] at hp
    have hR : CDR (T.1 23) (T.1 24) (T.2 32) (T.2 33) (rowM M 3 (nI 1)) := TM_sl h 3 1 (by decide) (by decide) hl
    exact ⟨fun h9 => absurd h9 (by decide), fun _ => e_ordX hR (CRg_of hC (by decide)) hp, fun _ h9 => absurd rfl h9⟩
set_option maxRecDepth 40000 in
theorem e_x_order {T : TT} {M : Nat → Nat → Int32} {a b : Int32} {gaps behind tab : Nat → Int32} {post : Int32 → (Nat → Int32) → (Nat → Int32) → (Nat → Int32) → Prop} (h : TM T M 0) (hB : tB T) (hC : mCho (M 8)) (hp : ∀ g b' t, post (AN_order M a b) g b' t) : q_wxt_X10_order_0 (T.2 1) (T.1 21) (T.1 22) (T.2 30) (T.2 31) (T.1 23) (T.1 24) (T.2 32) (T.2 33) gaps behind tab a b post := by
  unfold AN_order at hp
  rw [TM_cnt h 3 (by decide)] at hp
  refine e_at (hB.2.2.1 3) (fun (hn : ¬ (0 ≤ a ∧ a < T.2 1 3)) => ?_) (fun ea hl => ?_) (fun ea hl => ?_)
  · rw [if_neg hn] at hp
    exact ⟨fun _ => hp _ _ _, fun h9 => absurd h9 (by decide), fun h9 => absurd rfl h9⟩
  · rw [if_pos (by rw [ea]; exact ⟨by decide, hl⟩), ea] at hp
    have hR : CDR (T.1 21) (T.1 22) (T.2 30) (T.2 31) (rowM M 3 (nI 0)) := TM_sl h 3 0 (by decide) (by decide) hl
    exact ⟨fun h9 => absurd h9 (by decide), fun h9 => absurd h9 (by decide), fun _ _ => e_ordC hR (CRg_of hC (by decide)) hp⟩
  · rw [if_pos (by rw [ea]; exact ⟨by decide, hl⟩), ea] at hp
    have hR : CDR (T.1 23) (T.1 24) (T.2 32) (T.2 33) (rowM M 3 (nI 1)) := TM_sl h 3 1 (by decide) (by decide) hl
    exact ⟨fun h9 => absurd h9 (by decide), fun _ => e_ordC hR (CRg_of hC (by decide)) hp, fun _ h9 => absurd rfl h9⟩
end
section
def k0BF (E : zE) (qk qc h : Nat) (cf_voices cf_step : Int32) (ca_parts ca_heights : Nat → Int32) (F : (Nat → Int32) → (Nat → Int32) → (Nat → Int32) → Prop) (H : Heap) : Prop := ∃ a g bh t, h ≤ a ∧ wk0W E qk qc (some a) g bh cf_voices cf_step ca_parts ca_heights H ∧ k0T E a t H ∧ (∀ j, iv 0 511 (bh j)) ∧ F g bh t
set_option maxRecDepth 40000 in
set_option maxHeartbeats 4000000 in
theorem c0x_fill (l : Launch) {F : (Nat → Int32) → (Nat → Int32) → (Nat → Int32) → Prop} {E : zE} {qk qc h : Nat} {a_gaps a_behind : Nat → Int32} {cf_voices cf_step : Int32} {ca_parts ca_heights : Nat → Int32} (k_cf_voices : iv 0 9 cf_voices) (k_cf_step : iv 0 9 cf_step) (k_ca_parts : ∀ j, iv 0 3 (ca_parts j)) (k_ca_heights : ∀ j, iv 0 9 (ca_heights j)) (k_a_behind : ∀ j, iv 0 511 (a_behind j)) (hf : q_wk_X5_fill_3_0 a_gaps a_behind cf_voices cf_step ca_parts ca_heights (fun _ => 0) F) : Met l yX5_fill (Cond.code yX5_fill cX5_fill 6 none :: zb) (rm_wk_X5_fill_3 1 4608) (va_Pc [.ref qk, .ref qc] (k0Q E qk qc h a_gaps a_behind cf_voices cf_step ca_parts ca_heights)) (zQv (S := Unit) (fun _ => True) (fun _ H => k0BF E qk qc h cf_voices cf_step ca_parts ca_heights F H) (k0A qk qc h)) 1 4608 (k0A qk qc h) := by
  refine Met.ofW (cc := cX5_fill) (maxL := 6) (ret := none) (by decide) rfl ?_
  intro p e s m args below meth c s₁ B hml hv
  obtain ⟨rfl, hh, hM, hK⟩ := hv
  have zc := zc_of B hml
  have hx := zc.1
  have hb := zc.2.1
  have hz := zc.2.2.2.2.1
  have hS : va_S (k0A qk qc h) s.heap s.heap [] := va_S.rf
  have hl := lv_entry ([.ref qk, .ref qc]) (n := 6) (Nat.le_of_ble_eq_true rfl)
  rw [lg_entry_eq]
  generalize (lg_sl ([.ref qk, .ref qc]) ++ List.replicate (6 - (lg_sl ([.ref qk, .ref qc])).length) Slot.unset).toArray = ls at hl ⊢
  have hl : lv_has ls 6 [(0, .ref qk), (1, .ref qc)] := hl
  refine lv_aload_n hx hb dX5_fill_0 rfl (lv_at hl 0 rfl) ?_
  refine lv_aload_n hx hb dX5_fill_1 rfl (lv_at hl 1 rfl) ?_
  refine zVa_v [.ref qc] [] zc ky_X5_measure kz_X5_measure km_5_18 (c_wk0_X5_measure_3 l (post := fun g bh => (∀ j, iv 0 511 (bh j)) ∧ q_wk_X5_fill_3_10 g bh cf_voices cf_step ca_parts ca_heights (fun _ => 0) F) (cj_q_wk0_X5_measure_3_0 (post_1 := fun g bh => ∀ j, iv 0 511 (bh j)) (post_2 := (fun g bh => q_wk_X5_table_0 (fun r_1 => (r_1 = 0 → False) ∧ (¬ r_1 = 0 → (q_wk_X5_fill_3_10 g bh cf_voices cf_step ca_parts ca_heights (fun _ => 0) F))))) (post_3 := fun g bh => (∀ j, iv 0 511 (bh j)) ∧ q_wk_X5_fill_3_10 g bh cf_voices cf_step ca_parts ca_heights (fun _ => 0) F) (fun g bh a b => ⟨a, And.right (show (1 = 0 → False) ∧ (¬ 1 = 0 → q_wk_X5_fill_3_10 g bh cf_voices cf_step ca_parts ca_heights (fun _ => 0) F) from b) (by decide)⟩) (s_wk0_X5_measure_3_0 k_a_behind k_cf_voices k_cf_step k_ca_parts k_ca_heights (fun _ _ hb => hb)) hf)) (wk0PreV0 hK hM) hS (fun q hq => Or.inl hq) rfl rfl hl.1 (Nat.le_of_ble_eq_true rfl) ⟨rfl, rfl⟩ ⟨(Nat.le_of_ble_eq_true rfl), (Nat.le_of_ble_eq_true rfl)⟩ ⟨(Nat.le_of_ble_eq_true rfl), (Nat.le_of_ble_eq_true rfl)⟩  dX5_fill_2 (fun u H1 locs hbh hM hsz1 hk hS => ?_)
  obtain ⟨g, bh⟩ := u
  obtain ⟨hbh, hfb⟩ := hbh
  have hh1 : h ≤ H1.size := Nat.le_trans (Nat.le_of_eq hh.symm) hsz1
  refine lv_aload_n hx hb dX5_fill_5 rfl (lv_at hl 0 rfl) ?_
  refine zVa_r [] [] zc ky_X5_table kz_X5_table km_5_22 (c0_table l) (k0PreV hh1 hM hK) hS (fun q hq => hq) rfl rfl hl.1 (Nat.le_of_ble_eq_true rfl) ⟨rfl, rfl⟩ ⟨(Nat.le_of_ble_eq_true rfl), (Nat.le_of_ble_eq_true rfl)⟩ ⟨(Nat.le_of_ble_eq_true rfl), (Nat.le_of_ble_eq_true rfl)⟩  dX5_fill_6 (fun _ a H2 locs _ hB hsz2 hk hS => ?_)
  obtain ⟨hha, hW⟩ := hB
  refine W.cs (cells' := 1) (slots' := 4608) rfl rfl ?_
  refine lv_astore_n (lv' := [(2, .ref a), (0, .ref qk), (1, .ref qc)]) hx hb dX5_fill_9 rfl hl (by decide) rfl (fun ls hl => ?_)
  refine zW_chg (A2 := wkA qk qc a) hS (fun q h1 h2 => ?_) (fun locs hS => ?_)
  · unfold k0A wk0A at h2; unfold wkA; omega
  refine zW_cons (t_wk_X5_fill_3_10 (kc := 1) (ks := 4608) (post := fun g bh t => (∀ j, iv 0 511 (bh j)) ∧ F g bh t) zc hK hW hS (lv_sub hl [1, 2, 0] rfl) (cj_q_wk_X5_fill_3_10 (post_1 := fun _ bh _ => ∀ j, iv 0 511 (bh j)) (post_2 := F) (post_3 := fun g bh t => (∀ j, iv 0 511 (bh j)) ∧ F g bh t) (fun _ _ _ a b => ⟨a, b⟩) (s_wk_X5_fill_3_10 hbh k_cf_voices k_cf_step k_ca_parts k_ca_heights (fun _ _ _ hb => hb)) hfb)) (fun o t ht => ?_) (fun q hq => ?_)
  · obtain ⟨⟨u, e1, e2, e3⟩, hF⟩ := ht
    have hs2 := k0_split e3
    exact ⟨⟨(), e1, trivial, ⟨a, _, _, _, hha, hs2.1, hs2.2, e2⟩⟩, va_F_mono hF (fun q hq => by unfold wkA at hq; unfold k0A wk0A; omega)⟩
  · unfold wkA at hq; unfold k0A wk0A; omega
set_option maxRecDepth 40000 in
set_option maxHeartbeats 4000000 in
theorem c0x_order (l : Launch) {P0 : Int32 → Prop} {E : zE} {qx h : Nat} {ta_tape : Nat → Int32} {tf_length : Int32} {tf_fault : Int32} {tf_place : Int32} {ta_counts : Nat → Int32} {tl0f_huts : Int32} {tl0f_singers : Int32} {tl0f_villages : Int32} {tl0f_dams : Int32} {tl0f_echoes : Int32} {tl0f_deep : Int32} {tl0f_slide : Int32} {tl0a_heights : Nat → Int32} {tl0a_ladders : Nat → Int32} {tl0a_minutes : Nat → Int32} {tl0a_echoFrom : Nat → Int32} {tl0a_echoTo : Nat → Int32} {tl0a_homes : Nat → Int32} {tl0a_talls : Nat → Int32} {tl0a_known : Nat → Int32} {tl1f_huts : Int32} {tl1f_singers : Int32} {tl1f_villages : Int32} {tl1f_dams : Int32} {tl1f_echoes : Int32} {tl1f_deep : Int32} {tl1f_slide : Int32} {tl1a_heights : Nat → Int32} {tl1a_ladders : Nat → Int32} {tl1a_minutes : Nat → Int32} {tl1a_echoFrom : Nat → Int32} {tl1a_echoTo : Nat → Int32} {tl1a_homes : Nat → Int32} {tl1a_talls : Nat → Int32} {tl1a_known : Nat → Int32} {tv0f_deeds : Int32} {tv0a_kinds : Nat → Int32} {tv0a_firsts : Nat → Int32} {tv0a_seconds : Nat → Int32} {tv1f_deeds : Int32} {tv1a_kinds : Nat → Int32} {tv1a_firsts : Nat → Int32} {tv1a_seconds : Nat → Int32} {ts0f_facts : Int32} {ts0a_heard : Nat → Int32} {ts0a_huts : Nat → Int32} {ts0a_minutes : Nat → Int32} {ts1f_facts : Int32} {ts1a_heard : Nat → Int32} {ts1a_huts : Nat → Int32} {ts1a_minutes : Nat → Int32} {tc0f_voices : Int32} {tc0f_step : Int32} {tc0a_parts : Nat → Int32} {tc0a_heights : Nat → Int32} {tc1f_voices : Int32} {tc1f_step : Int32} {tc1a_parts : Nat → Int32} {tc1a_heights : Nat → Int32} {m_images : Nat → Option Nat} {rlf_huts : Int32} {rlf_singers : Int32} {rlf_villages : Int32} {rlf_dams : Int32} {rlf_echoes : Int32} {rlf_deep : Int32} {rlf_slide : Int32} {rla_heights : Nat → Int32} {rla_ladders : Nat → Int32} {rla_minutes : Nat → Int32} {rla_echoFrom : Nat → Int32} {rla_echoTo : Nat → Int32} {rla_homes : Nat → Int32} {rla_talls : Nat → Int32} {rla_known : Nat → Int32} {rvf_deeds : Int32} {rva_kinds : Nat → Int32} {rva_firsts : Nat → Int32} {rva_seconds : Nat → Int32} {rsf_facts : Int32} {rsa_heard : Nat → Int32} {rsa_huts : Nat → Int32} {rsa_minutes : Nat → Int32} {rcf_voices : Int32} {rcf_step : Int32} {rca_parts : Nat → Int32} {rca_heights : Nat → Int32} {rf_fault : Int32} {rf_faultPlace : Int32} {ra_numbers : Nat → Int32} {ra_tape : Nat → Int32} {rf_length : Int32} {rf_behind : Int32} {rf_kind : Int32} {rf_first : Int32} {rf_value : Int32} {rf_hutsToldOf : Int32} {rf_singersToldOf : Int32} {nf_minute : Int32} {nf_avalanches : Int32} {nf_begun : Int32} {nf_climbed : Int32} {nf_seed : Int32} {na_huts : Nat → Int32} {na_known : Nat → Int32} {na_levels : Nat → Int32} {na_snow : Nat → Int32} {na_open : Nat → Int32} {pa_heard : Nat → Int32} {pa_walked : Nat → Int32} {pa_total : Nat → Int32} {pa_longest : Nat → Int32} {pa_next : Nat → Int32} {pa_cover : Nat → Int32} {pa_now : Nat → Int32} {pa_then : Nat → Int32} {ka_gaps : Nat → Int32} {ka_behind : Nat → Int32} {ba_less : Nat → Int32} {ba_full : Nat → Int32} {x1 x2 : Int32} (k_ta_counts : ∀ j, iv 0 2 (ta_counts j)) (k_tc0f_voices : iv 0 9 tc0f_voices) (k_tc0f_step : iv 0 9 tc0f_step) (k_tc0a_parts : ∀ j, iv 0 3 (tc0a_parts j)) (k_tc0a_heights : ∀ j, iv 0 9 (tc0a_heights j)) (k_tc1f_voices : iv 0 9 tc1f_voices) (k_tc1f_step : iv 0 9 tc1f_step) (k_tc1a_parts : ∀ j, iv 0 3 (tc1a_parts j)) (k_tc1a_heights : ∀ j, iv 0 9 (tc1a_heights j)) (k_ka_behind : ∀ j, iv 0 511 (ka_behind j)) (hq : q_wxt_X10_order_0 ta_counts tc0f_voices tc0f_step tc0a_parts tc0a_heights tc1f_voices tc1f_step tc1a_parts tc1a_heights ka_gaps ka_behind (fun _ => (0 : Int32)) x1 x2 (fun (r : Int32) (_ _ _ : Nat → Int32) => P0 r)) : Met l yX10_order (Cond.code yX10_order cX10_order 4 (some .int) :: zb) (rm_wxt_X10_order 1 4608) (va_Pc [.ref qx, .int x1, .int x2] (x0P E qx h ta_tape tf_length tf_fault tf_place ta_counts tl0f_huts tl0f_singers tl0f_villages tl0f_dams tl0f_echoes tl0f_deep tl0f_slide tl0a_heights tl0a_ladders tl0a_minutes tl0a_echoFrom tl0a_echoTo tl0a_homes tl0a_talls tl0a_known tl1f_huts tl1f_singers tl1f_villages tl1f_dams tl1f_echoes tl1f_deep tl1f_slide tl1a_heights tl1a_ladders tl1a_minutes tl1a_echoFrom tl1a_echoTo tl1a_homes tl1a_talls tl1a_known tv0f_deeds tv0a_kinds tv0a_firsts tv0a_seconds tv1f_deeds tv1a_kinds tv1a_firsts tv1a_seconds ts0f_facts ts0a_heard ts0a_huts ts0a_minutes ts1f_facts ts1a_heard ts1a_huts ts1a_minutes tc0f_voices tc0f_step tc0a_parts tc0a_heights tc1f_voices tc1f_step tc1a_parts tc1a_heights m_images rlf_huts rlf_singers rlf_villages rlf_dams rlf_echoes rlf_deep rlf_slide rla_heights rla_ladders rla_minutes rla_echoFrom rla_echoTo rla_homes rla_talls rla_known rvf_deeds rva_kinds rva_firsts rva_seconds rsf_facts rsa_heard rsa_huts rsa_minutes rcf_voices rcf_step rca_parts rca_heights rf_fault rf_faultPlace ra_numbers ra_tape rf_length rf_behind rf_kind rf_first rf_value rf_hutsToldOf rf_singersToldOf nf_minute nf_avalanches nf_begun nf_climbed nf_seed na_huts na_known na_levels na_snow na_open pa_heard pa_walked pa_total pa_longest pa_next pa_cover pa_now pa_then ka_gaps ka_behind ba_less ba_full)) (zQi (S := Unit) (fun r _ => P0 r) (fun _ H => x0B E qx h ta_tape tf_length tf_fault tf_place ta_counts tl0f_huts tl0f_singers tl0f_villages tl0f_dams tl0f_echoes tl0f_deep tl0f_slide tl0a_heights tl0a_ladders tl0a_minutes tl0a_echoFrom tl0a_echoTo tl0a_homes tl0a_talls tl0a_known tl1f_huts tl1f_singers tl1f_villages tl1f_dams tl1f_echoes tl1f_deep tl1f_slide tl1a_heights tl1a_ladders tl1a_minutes tl1a_echoFrom tl1a_echoTo tl1a_homes tl1a_talls tl1a_known tv0f_deeds tv0a_kinds tv0a_firsts tv0a_seconds tv1f_deeds tv1a_kinds tv1a_firsts tv1a_seconds ts0f_facts ts0a_heard ts0a_huts ts0a_minutes ts1f_facts ts1a_heard ts1a_huts ts1a_minutes tc0f_voices tc0f_step tc0a_parts tc0a_heights tc1f_voices tc1f_step tc1a_parts tc1a_heights m_images rlf_huts rlf_singers rlf_villages rlf_dams rlf_echoes rlf_deep rlf_slide rla_heights rla_ladders rla_minutes rla_echoFrom rla_echoTo rla_homes rla_talls rla_known rvf_deeds rva_kinds rva_firsts rva_seconds rsf_facts rsa_heard rsa_huts rsa_minutes rcf_voices rcf_step rca_parts rca_heights rf_fault rf_faultPlace ra_numbers ra_tape rf_length rf_behind rf_kind rf_first rf_value rf_hutsToldOf rf_singersToldOf nf_minute nf_avalanches nf_begun nf_climbed nf_seed na_huts na_known na_levels na_snow na_open pa_heard pa_walked pa_total pa_longest pa_next pa_cover pa_now pa_then ba_less ba_full H) (zImA qx h)) 1 4608 (zImA qx h) := by
  refine Met.ofW (cc := cX10_order) (maxL := 4) (ret := (some .int)) (by decide) rfl ?_
  intro p e s m args below meth c s₁ B hml hv
  obtain ⟨rfl, hh, hM, hK⟩ := hv
  obtain ⟨hsz, hqh⟩ := hh
  have zc := zc_of B hml
  have hx := zc.1
  have hb := zc.2.1
  have hz := zc.2.2.2.2.1
  have hS : va_S (zImA qx h) s.heap s.heap [] := va_S.rf
  have X0 : x0B E qx h ta_tape tf_length tf_fault tf_place ta_counts tl0f_huts tl0f_singers tl0f_villages tl0f_dams tl0f_echoes tl0f_deep tl0f_slide tl0a_heights tl0a_ladders tl0a_minutes tl0a_echoFrom tl0a_echoTo tl0a_homes tl0a_talls tl0a_known tl1f_huts tl1f_singers tl1f_villages tl1f_dams tl1f_echoes tl1f_deep tl1f_slide tl1a_heights tl1a_ladders tl1a_minutes tl1a_echoFrom tl1a_echoTo tl1a_homes tl1a_talls tl1a_known tv0f_deeds tv0a_kinds tv0a_firsts tv0a_seconds tv1f_deeds tv1a_kinds tv1a_firsts tv1a_seconds ts0f_facts ts0a_heard ts0a_huts ts0a_minutes ts1f_facts ts1a_heard ts1a_huts ts1a_minutes tc0f_voices tc0f_step tc0a_parts tc0a_heights tc1f_voices tc1f_step tc1a_parts tc1a_heights m_images rlf_huts rlf_singers rlf_villages rlf_dams rlf_echoes rlf_deep rlf_slide rla_heights rla_ladders rla_minutes rla_echoFrom rla_echoTo rla_homes rla_talls rla_known rvf_deeds rva_kinds rva_firsts rva_seconds rsf_facts rsa_heard rsa_huts rsa_minutes rcf_voices rcf_step rca_parts rca_heights rf_fault rf_faultPlace ra_numbers ra_tape rf_length rf_behind rf_kind rf_first rf_value rf_hutsToldOf rf_singersToldOf nf_minute nf_avalanches nf_begun nf_climbed nf_seed na_huts na_known na_levels na_snow na_open pa_heard pa_walked pa_total pa_longest pa_next pa_cover pa_now pa_then ba_less ba_full s.heap := ⟨none, _, _, hM, k_ka_behind, Or.inl rfl⟩
  have hl := lv_entry ([.ref qx, .int x1, .int x2]) (n := 4) (Nat.le_of_ble_eq_true rfl)
  rw [lg_entry_eq]
  generalize (lg_sl ([.ref qx, .int x1, .int x2]) ++ List.replicate (4 - (lg_sl ([.ref qx, .int x1, .int x2])).length) Slot.unset).toArray = ls at hl ⊢
  have hl : lv_has ls 4 [(0, .ref qx), (1, .int x1), (2, .int x2)] := hl
  refine lv_aload_n hx hb dX10_order_0 rfl (lv_at hl 0 rfl) ?_
  refine lv_iload_n hx hb dX10_order_1 rfl (lv_at hl 1 rfl) ?_
  refine zV_r [.int x1] [] zc ky_X10_choirAt kz_X10_choirAt km_10_219 (c_wx_X10_choirAt l (post := fun r => (r = 0 ∨ r = 1 ∨ r = 2) ∧ (fun r_1 => (r_1 = 0 → ((fun (r : Int32) (_ _ _ : Nat → Int32) => P0 r) (-1 : Int32) ka_gaps ka_behind (fun _ => (0 : Int32)))) ∧ (r_1 = 1 → ((x2 < 0 → ((fun (r : Int32) (_ _ _ : Nat → Int32) => P0 r) (-1 : Int32) ka_gaps ka_behind (fun _ => (0 : Int32)))) ∧ (¬ x2 < 0 → ((x2 < tc1f_voices → (q_wk_X5_fill_3_0 ka_gaps ka_behind tc1f_voices tc1f_step tc1a_parts tc1a_heights (fun _ => (0 : Int32)) (fun ka_gaps_1 ka_behind_1 z_tab_1 => q_wxt_X10_order_32k1 ta_counts tc0f_voices tc0f_step tc0a_parts tc0a_heights tc1f_voices tc1f_step tc1a_parts tc1a_heights ka_gaps_1 ka_behind_1 z_tab_1 x2 (fun (r : Int32) (_ _ _ : Nat → Int32) => P0 r)))) ∧ (¬ x2 < tc1f_voices → ((fun (r : Int32) (_ _ _ : Nat → Int32) => P0 r) (-1 : Int32) ka_gaps ka_behind (fun _ => (0 : Int32)))))))) ∧ (¬ r_1 = 0 → ¬ r_1 = 1 → ((x2 < 0 → ((fun (r : Int32) (_ _ _ : Nat → Int32) => P0 r) (-1 : Int32) ka_gaps ka_behind (fun _ => (0 : Int32)))) ∧ (¬ x2 < 0 → ((x2 < tc0f_voices → (q_wk_X5_fill_3_0 ka_gaps ka_behind tc0f_voices tc0f_step tc0a_parts tc0a_heights (fun _ => (0 : Int32)) (fun ka_gaps_2 ka_behind_2 z_tab_2 => q_wxt_X10_order_32k0 ta_counts tc0f_voices tc0f_step tc0a_parts tc0a_heights tc1f_voices tc1f_step tc1a_parts tc1a_heights ka_gaps_2 ka_behind_2 z_tab_2 x2 (fun (r : Int32) (_ _ _ : Nat → Int32) => P0 r)))) ∧ (¬ x2 < tc0f_voices → ((fun (r : Int32) (_ _ _ : Nat → Int32) => P0 r) (-1 : Int32) ka_gaps ka_behind (fun _ => (0 : Int32))))))))) r) (cj_q_wx_X10_choirAt_0 (post_1 := fun r => r = 0 ∨ r = 1 ∨ r = 2) (post_2 := (fun r_1 => (r_1 = 0 → ((fun (r : Int32) (_ _ _ : Nat → Int32) => P0 r) (-1 : Int32) ka_gaps ka_behind (fun _ => (0 : Int32)))) ∧ (r_1 = 1 → ((x2 < 0 → ((fun (r : Int32) (_ _ _ : Nat → Int32) => P0 r) (-1 : Int32) ka_gaps ka_behind (fun _ => (0 : Int32)))) ∧ (¬ x2 < 0 → ((x2 < tc1f_voices → (q_wk_X5_fill_3_0 ka_gaps ka_behind tc1f_voices tc1f_step tc1a_parts tc1a_heights (fun _ => (0 : Int32)) (fun ka_gaps_1 ka_behind_1 z_tab_1 => q_wxt_X10_order_32k1 ta_counts tc0f_voices tc0f_step tc0a_parts tc0a_heights tc1f_voices tc1f_step tc1a_parts tc1a_heights ka_gaps_1 ka_behind_1 z_tab_1 x2 (fun (r : Int32) (_ _ _ : Nat → Int32) => P0 r)))) ∧ (¬ x2 < tc1f_voices → ((fun (r : Int32) (_ _ _ : Nat → Int32) => P0 r) (-1 : Int32) ka_gaps ka_behind (fun _ => (0 : Int32)))))))) ∧ (¬ r_1 = 0 → ¬ r_1 = 1 → ((x2 < 0 → ((fun (r : Int32) (_ _ _ : Nat → Int32) => P0 r) (-1 : Int32) ka_gaps ka_behind (fun _ => (0 : Int32)))) ∧ (¬ x2 < 0 → ((x2 < tc0f_voices → (q_wk_X5_fill_3_0 ka_gaps ka_behind tc0f_voices tc0f_step tc0a_parts tc0a_heights (fun _ => (0 : Int32)) (fun ka_gaps_2 ka_behind_2 z_tab_2 => q_wxt_X10_order_32k0 ta_counts tc0f_voices tc0f_step tc0a_parts tc0a_heights tc1f_voices tc1f_step tc1a_parts tc1a_heights ka_gaps_2 ka_behind_2 z_tab_2 x2 (fun (r : Int32) (_ _ _ : Nat → Int32) => P0 r)))) ∧ (¬ x2 < tc0f_voices → ((fun (r : Int32) (_ _ _ : Nat → Int32) => P0 r) (-1 : Int32) ka_gaps ka_behind (fun _ => (0 : Int32)))))))))) (post_3 := fun r => (r = 0 ∨ r = 1 ∨ r = 2) ∧ (fun r_1 => (r_1 = 0 → ((fun (r : Int32) (_ _ _ : Nat → Int32) => P0 r) (-1 : Int32) ka_gaps ka_behind (fun _ => (0 : Int32)))) ∧ (r_1 = 1 → ((x2 < 0 → ((fun (r : Int32) (_ _ _ : Nat → Int32) => P0 r) (-1 : Int32) ka_gaps ka_behind (fun _ => (0 : Int32)))) ∧ (¬ x2 < 0 → ((x2 < tc1f_voices → (q_wk_X5_fill_3_0 ka_gaps ka_behind tc1f_voices tc1f_step tc1a_parts tc1a_heights (fun _ => (0 : Int32)) (fun ka_gaps_1 ka_behind_1 z_tab_1 => q_wxt_X10_order_32k1 ta_counts tc0f_voices tc0f_step tc0a_parts tc0a_heights tc1f_voices tc1f_step tc1a_parts tc1a_heights ka_gaps_1 ka_behind_1 z_tab_1 x2 (fun (r : Int32) (_ _ _ : Nat → Int32) => P0 r)))) ∧ (¬ x2 < tc1f_voices → ((fun (r : Int32) (_ _ _ : Nat → Int32) => P0 r) (-1 : Int32) ka_gaps ka_behind (fun _ => (0 : Int32)))))))) ∧ (¬ r_1 = 0 → ¬ r_1 = 1 → ((x2 < 0 → ((fun (r : Int32) (_ _ _ : Nat → Int32) => P0 r) (-1 : Int32) ka_gaps ka_behind (fun _ => (0 : Int32)))) ∧ (¬ x2 < 0 → ((x2 < tc0f_voices → (q_wk_X5_fill_3_0 ka_gaps ka_behind tc0f_voices tc0f_step tc0a_parts tc0a_heights (fun _ => (0 : Int32)) (fun ka_gaps_2 ka_behind_2 z_tab_2 => q_wxt_X10_order_32k0 ta_counts tc0f_voices tc0f_step tc0a_parts tc0a_heights tc1f_voices tc1f_step tc1a_parts tc1a_heights ka_gaps_2 ka_behind_2 z_tab_2 x2 (fun (r : Int32) (_ _ _ : Nat → Int32) => P0 r)))) ∧ (¬ x2 < tc0f_voices → ((fun (r : Int32) (_ _ _ : Nat → Int32) => P0 r) (-1 : Int32) ka_gaps ka_behind (fun _ => (0 : Int32))))))))) r) (fun _ a b => ⟨a, b⟩) (x0_choirAt k_ta_counts) hq)) (wxPreV0 hK hM) rfl rfl hl.1 (Nat.le_of_ble_eq_true rfl) ⟨rfl, rfl⟩ ⟨(Nat.le_of_ble_eq_true rfl), (Nat.le_of_ble_eq_true rfl)⟩ ⟨Nat.zero_le _, Nat.zero_le _⟩ dX10_order_2 (fun r hr => ?_)
  obtain ⟨hr, hkq⟩ := hr
  rcases hr with rfl | rfl | rfl
  · skip
    refine W.eq (g2 := F0 m 5 ls (.null :: [])) (by first | rfl | simp) ?_
    refine lv_astore_nN (lv' := [(3, .null), (0, .ref qx), (1, .int x1), (2, .int x2)]) hx hb dX10_order_5 rfl hl (by decide) rfl (fun ls hl => ?_)
    refine lv_aload_nN hx hb dX10_order_6 rfl (lv_at hl 0 rfl) ?_
    refine lv_ifnullN (tgt := 22) hx hb dX10_order_7 (by decide) ?_
    refine lv_iconst (v := (-1 : Int32)) hx hb dX10_order_22 (by decide) ?_
    refine W.widen (k := 1) (n := 4608) (by omega) (by omega) ?_
    exact zret_iw () zc hS (hkq.1 rfl) X0 dX10_order_23
  · skip
    refine W.eq (g2 := F0 m 5 ls (.ref (qx + 45) :: [])) (by first | rfl | simp) ?_
    refine lv_astore_n (lv' := [(3, .ref (qx + 45)), (0, .ref qx), (1, .int x1), (2, .int x2)]) hx hb dX10_order_5 rfl hl (by decide) rfl (fun ls hl => ?_)
    refine lv_aload_n hx hb dX10_order_6 rfl (lv_at hl 0 rfl) ?_
    refine lv_ifnull hx hb dX10_order_7 ?_
    refine lv_iload_n hx hb dX10_order_10 rfl (lv_at hl 3 rfl) ?_
    refine lv_if_lt (tgt := 22) hx hb dX10_order_11 (by decide) (fun hc1 => ?_) (fun hc1 => ?_)
    · skip
      refine lv_iconst (v := (-1 : Int32)) hx hb dX10_order_22 (by decide) ?_
      refine W.widen (k := 1) (n := 4608) (by omega) (by omega) ?_
      exact zret_iw () zc hS ((hkq.2.1 rfl).1 hc1) X0 dX10_order_23
    refine lv_iload_n hx hb dX10_order_14 rfl (lv_at hl 3 rfl) ?_
    refine lv_aload_n hx hb dX10_order_15 rfl (lv_at hl 0 rfl) ?_
    refine wxg_10_238_45 zc hK hM dX10_order_16 ?_
    refine lv_icmp_lt (tgt := 24) hx hb dX10_order_19 (by decide) (fun hc2 => ?_) (fun hc2 => ?_)
    rotate_left
    · skip
      refine lv_iconst (v := (-1 : Int32)) hx hb dX10_order_22 (by decide) ?_
      refine W.widen (k := 1) (n := 4608) (by omega) (by omega) ?_
      exact zret_iw () zc hS (((hkq.2.1 rfl).2 hc1).2 hc2) X0 dX10_order_23
    have hx0 : iv 0 2147483647 x2 := iv_leb (l := 0) (h := 2147483647) (r_nlt hc1) (iv_lit (x := 0) (l := 0) (h := 0) (by decide)) (iv_top x2) (by decide)
    have hx2 : iv 0 8 x2 := iv_lta (l := 0) (h := 8) (r_lt hc2) hx0 k_tc1f_voices (by decide)
    have hv1 : iv 1 9 tc1f_voices := iv_ltb (l := 1) (h := 9) (r_lt hc2) hx0 k_tc1f_voices (by decide)
    refine lv_aload_n hx hb dX10_order_24 rfl (lv_at hl 1 rfl) ?_
    refine wxg_10_44_0 zc hK hM dX10_order_25 ?_
    refine lv_aload_n hx hb dX10_order_28 rfl (lv_at hl 0 rfl) ?_
    refine zVa_v [.ref (qx + 45)] [] zc ky_X5_fill kz_X5_fill km_10_232 (c0x_fill l k_tc1f_voices k_tc1f_step k_tc1a_parts k_tc1a_heights k_ka_behind (((hkq.2.1 rfl).2 hc1).1 hc2)) (k0PreQ (h := h) hsz (pj_wx_wk0_87_45 hM) hK) hS (fun q hq => by unfold k0A wk0A at hq; unfold zImA zR; omega) rfl rfl hl.1 (Nat.le_of_ble_eq_true rfl) ⟨rfl, rfl⟩ ⟨(Nat.le_of_ble_eq_true rfl), (Nat.le_of_ble_eq_true rfl)⟩ ⟨(Nat.le_of_ble_eq_true rfl), (Nat.le_of_ble_eq_true rfl)⟩ dX10_order_29 (fun _ H1 locs _ hB hsz1 hk hS => ?_)
    obtain ⟨a, g, bh, t, hha, hW, hT, hbh, hF0⟩ := hB
    have hM := jn_wx_wk0_87_45 hM hW (fun q h1 h2 => hk q h1 (fun h3 => h3.elim h2 (fun h4 => absurd h1 (by omega))))
    have hXT := x0_wxt hM hT hqh hha
    refine W.cs (cells' := 1) (slots' := 4608) rfl rfl ?_
    refine zW_chg (A2 := wxtA qx a) hS (fun q h1 h2 => by unfold zImA zR at h2; unfold wxtA; omega) (fun locs hS => ?_)
    refine zW_cons (t_wxt_X10_order_32k1 (kc := 1) (ks := 4608) (post := fun r _ bh _ => (∀ j, iv 0 511 (bh j)) ∧ P0 r) zc hK hXT hS (lv_sub hl [1, 3, 0] rfl) (cj_q_wxt_X10_order_32k1 (post_1 := fun _ _ bh _ => ∀ j, iv 0 511 (bh j)) (post_2 := (fun (r : Int32) (_ _ _ : Nat → Int32) => P0 r)) (post_3 := fun r _ bh _ => (∀ j, iv 0 511 (bh j)) ∧ P0 r) (fun _ _ _ _ a b => ⟨a, b⟩) (s_wxt_X10_order_32k1 k_ta_counts k_tc0f_voices k_tc0f_step k_tc0a_parts k_tc0a_heights hv1 k_tc1f_step k_tc1a_parts k_tc1a_heights hbh hx2 (fun _ _ _ _ _ hb => hb)) hF0)) (fun o t ht => ?_) (fun q hq => ?_)
    · obtain ⟨⟨r, u, e1, e2, e3⟩, hF⟩ := ht
      have hs2 := x0_split e3
      exact ⟨⟨r, (), e1, e2.2, ⟨some a, _, _, hs2.1, e2.1, Or.inr ⟨a, _, rfl, hha, hs2.2⟩⟩⟩, va_F_mono hF (fun q hq => by unfold wxtA at hq; unfold zImA zR; omega)⟩
    · unfold wxtA at hq; unfold zImA zR; omega
  · skip
    refine W.eq (g2 := F0 m 5 ls (.ref (qx + 42) :: [])) (by first | rfl | simp) ?_
    refine lv_astore_n (lv' := [(3, .ref (qx + 42)), (0, .ref qx), (1, .int x1), (2, .int x2)]) hx hb dX10_order_5 rfl hl (by decide) rfl (fun ls hl => ?_)
    refine lv_aload_n hx hb dX10_order_6 rfl (lv_at hl 0 rfl) ?_
    refine lv_ifnull hx hb dX10_order_7 ?_
    refine lv_iload_n hx hb dX10_order_10 rfl (lv_at hl 3 rfl) ?_
    refine lv_if_lt (tgt := 22) hx hb dX10_order_11 (by decide) (fun hc1 => ?_) (fun hc1 => ?_)
    · skip
      refine lv_iconst (v := (-1 : Int32)) hx hb dX10_order_22 (by decide) ?_
      refine W.widen (k := 1) (n := 4608) (by omega) (by omega) ?_
      exact zret_iw () zc hS ((hkq.2.2 (by decide) (by decide)).1 hc1) X0 dX10_order_23
    refine lv_iload_n hx hb dX10_order_14 rfl (lv_at hl 3 rfl) ?_
    refine lv_aload_n hx hb dX10_order_15 rfl (lv_at hl 0 rfl) ?_
    refine wxg_10_238_42 zc hK hM dX10_order_16 ?_
    refine lv_icmp_lt (tgt := 24) hx hb dX10_order_19 (by decide) (fun hc2 => ?_) (fun hc2 => ?_)
    rotate_left
    · skip
      refine lv_iconst (v := (-1 : Int32)) hx hb dX10_order_22 (by decide) ?_
      refine W.widen (k := 1) (n := 4608) (by omega) (by omega) ?_
      exact zret_iw () zc hS (((hkq.2.2 (by decide) (by decide)).2 hc1).2 hc2) X0 dX10_order_23
    have hx0 : iv 0 2147483647 x2 := iv_leb (l := 0) (h := 2147483647) (r_nlt hc1) (iv_lit (x := 0) (l := 0) (h := 0) (by decide)) (iv_top x2) (by decide)
    have hx2 : iv 0 8 x2 := iv_lta (l := 0) (h := 8) (r_lt hc2) hx0 k_tc0f_voices (by decide)
    have hv1 : iv 1 9 tc0f_voices := iv_ltb (l := 1) (h := 9) (r_lt hc2) hx0 k_tc0f_voices (by decide)
    refine lv_aload_n hx hb dX10_order_24 rfl (lv_at hl 1 rfl) ?_
    refine wxg_10_44_0 zc hK hM dX10_order_25 ?_
    refine lv_aload_n hx hb dX10_order_28 rfl (lv_at hl 0 rfl) ?_
    refine zVa_v [.ref (qx + 42)] [] zc ky_X5_fill kz_X5_fill km_10_232 (c0x_fill l k_tc0f_voices k_tc0f_step k_tc0a_parts k_tc0a_heights k_ka_behind (((hkq.2.2 (by decide) (by decide)).2 hc1).1 hc2)) (k0PreQ (h := h) hsz (pj_wx_wk0_87_42 hM) hK) hS (fun q hq => by unfold k0A wk0A at hq; unfold zImA zR; omega) rfl rfl hl.1 (Nat.le_of_ble_eq_true rfl) ⟨rfl, rfl⟩ ⟨(Nat.le_of_ble_eq_true rfl), (Nat.le_of_ble_eq_true rfl)⟩ ⟨(Nat.le_of_ble_eq_true rfl), (Nat.le_of_ble_eq_true rfl)⟩ dX10_order_29 (fun _ H1 locs _ hB hsz1 hk hS => ?_)
    obtain ⟨a, g, bh, t, hha, hW, hT, hbh, hF0⟩ := hB
    have hM := jn_wx_wk0_87_42 hM hW (fun q h1 h2 => hk q h1 (fun h3 => h3.elim h2 (fun h4 => absurd h1 (by omega))))
    have hXT := x0_wxt hM hT hqh hha
    refine W.cs (cells' := 1) (slots' := 4608) rfl rfl ?_
    refine zW_chg (A2 := wxtA qx a) hS (fun q h1 h2 => by unfold zImA zR at h2; unfold wxtA; omega) (fun locs hS => ?_)
    refine zW_cons (t_wxt_X10_order_32k0 (kc := 1) (ks := 4608) (post := fun r _ bh _ => (∀ j, iv 0 511 (bh j)) ∧ P0 r) zc hK hXT hS (lv_sub hl [1, 3, 0] rfl) (cj_q_wxt_X10_order_32k0 (post_1 := fun _ _ bh _ => ∀ j, iv 0 511 (bh j)) (post_2 := (fun (r : Int32) (_ _ _ : Nat → Int32) => P0 r)) (post_3 := fun r _ bh _ => (∀ j, iv 0 511 (bh j)) ∧ P0 r) (fun _ _ _ _ a b => ⟨a, b⟩) (s_wxt_X10_order_32k0 k_ta_counts hv1 k_tc0f_step k_tc0a_parts k_tc0a_heights k_tc1f_voices k_tc1f_step k_tc1a_parts k_tc1a_heights hbh hx2 (fun _ _ _ _ _ hb => hb)) hF0)) (fun o t ht => ?_) (fun q hq => ?_)
    · obtain ⟨⟨r, u, e1, e2, e3⟩, hF⟩ := ht
      have hs2 := x0_split e3
      exact ⟨⟨r, (), e1, e2.2, ⟨some a, _, _, hs2.1, e2.1, Or.inr ⟨a, _, rfl, hha, hs2.2⟩⟩⟩, va_F_mono hF (fun q hq => by unfold wxtA at hq; unfold zImA zR; omega)⟩
    · unfold wxtA at hq; unfold zImA zR; omega
end
