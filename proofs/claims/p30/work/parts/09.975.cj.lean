section
theorem lfp_1 {α0 : Type} {F1 F2 F3 : (α0 → Prop) → α0 → Prop} {z0 : α0} (h1 : ∀ P : α0 → Prop, (∀ x0, F1 P x0 → P x0) → P z0) (h2 : ∀ P : α0 → Prop, (∀ x0, F2 P x0 → P x0) → P z0) (cj : ∀ (A B C : α0 → Prop), (∀ x0, A x0 → B x0 → C x0) → ∀ x0, F1 A x0 → F2 B x0 → F3 C x0) (mn : ∀ (A B : α0 → Prop), (∀ x0, A x0 → B x0) → ∀ x0, F2 A x0 → F2 B x0) : ∀ P : α0 → Prop, (∀ x0, F3 P x0 → P x0) → P z0 := by
  intro P hP
  refine h1 (fun x0 => (∀ Q : α0 → Prop, (∀ x0, F2 Q x0 → Q x0) → Q x0) → P x0) ?_ h2
  intro x0 ha hl
  refine hP x0 (cj (fun x0 => (∀ Q : α0 → Prop, (∀ x0, F2 Q x0 → Q x0) → Q x0) → P x0) (fun x0 => ∀ Q : α0 → Prop, (∀ x0, F2 Q x0 → Q x0) → Q x0) P (fun _ a b => a b) x0 ha ?_)
  refine hl (fun x0 => F2 (fun x0 => ∀ Q : α0 → Prop, (∀ x0, F2 Q x0 → Q x0) → Q x0) x0) ?_
  intro x0 hb
  refine mn _ _ ?_ x0 hb
  intro x0 hc Q hQ
  exact hQ x0 (mn _ _ (fun _ h => h Q hQ) x0 hc)

theorem lfp_2 {α0 α1 : Type} {F1 F2 F3 : (α0 → α1 → Prop) → α0 → α1 → Prop} {z0 : α0} {z1 : α1} (h1 : ∀ P : α0 → α1 → Prop, (∀ x0 x1, F1 P x0 x1 → P x0 x1) → P z0 z1) (h2 : ∀ P : α0 → α1 → Prop, (∀ x0 x1, F2 P x0 x1 → P x0 x1) → P z0 z1) (cj : ∀ (A B C : α0 → α1 → Prop), (∀ x0 x1, A x0 x1 → B x0 x1 → C x0 x1) → ∀ x0 x1, F1 A x0 x1 → F2 B x0 x1 → F3 C x0 x1) (mn : ∀ (A B : α0 → α1 → Prop), (∀ x0 x1, A x0 x1 → B x0 x1) → ∀ x0 x1, F2 A x0 x1 → F2 B x0 x1) : ∀ P : α0 → α1 → Prop, (∀ x0 x1, F3 P x0 x1 → P x0 x1) → P z0 z1 := by
  intro P hP
  refine h1 (fun x0 x1 => (∀ Q : α0 → α1 → Prop, (∀ x0 x1, F2 Q x0 x1 → Q x0 x1) → Q x0 x1) → P x0 x1) ?_ h2
  intro x0 x1 ha hl
  refine hP x0 x1 (cj (fun x0 x1 => (∀ Q : α0 → α1 → Prop, (∀ x0 x1, F2 Q x0 x1 → Q x0 x1) → Q x0 x1) → P x0 x1) (fun x0 x1 => ∀ Q : α0 → α1 → Prop, (∀ x0 x1, F2 Q x0 x1 → Q x0 x1) → Q x0 x1) P (fun _ _ a b => a b) x0 x1 ha ?_)
  refine hl (fun x0 x1 => F2 (fun x0 x1 => ∀ Q : α0 → α1 → Prop, (∀ x0 x1, F2 Q x0 x1 → Q x0 x1) → Q x0 x1) x0 x1) ?_
  intro x0 x1 hb
  refine mn _ _ ?_ x0 x1 hb
  intro x0 x1 hc Q hQ
  exact hQ x0 x1 (mn _ _ (fun _ _ h => h Q hQ) x0 x1 hc)

theorem lfp_3 {α0 α1 α2 : Type} {F1 F2 F3 : (α0 → α1 → α2 → Prop) → α0 → α1 → α2 → Prop} {z0 : α0} {z1 : α1} {z2 : α2} (h1 : ∀ P : α0 → α1 → α2 → Prop, (∀ x0 x1 x2, F1 P x0 x1 x2 → P x0 x1 x2) → P z0 z1 z2) (h2 : ∀ P : α0 → α1 → α2 → Prop, (∀ x0 x1 x2, F2 P x0 x1 x2 → P x0 x1 x2) → P z0 z1 z2) (cj : ∀ (A B C : α0 → α1 → α2 → Prop), (∀ x0 x1 x2, A x0 x1 x2 → B x0 x1 x2 → C x0 x1 x2) → ∀ x0 x1 x2, F1 A x0 x1 x2 → F2 B x0 x1 x2 → F3 C x0 x1 x2) (mn : ∀ (A B : α0 → α1 → α2 → Prop), (∀ x0 x1 x2, A x0 x1 x2 → B x0 x1 x2) → ∀ x0 x1 x2, F2 A x0 x1 x2 → F2 B x0 x1 x2) : ∀ P : α0 → α1 → α2 → Prop, (∀ x0 x1 x2, F3 P x0 x1 x2 → P x0 x1 x2) → P z0 z1 z2 := by
  intro P hP
  refine h1 (fun x0 x1 x2 => (∀ Q : α0 → α1 → α2 → Prop, (∀ x0 x1 x2, F2 Q x0 x1 x2 → Q x0 x1 x2) → Q x0 x1 x2) → P x0 x1 x2) ?_ h2
  intro x0 x1 x2 ha hl
  refine hP x0 x1 x2 (cj (fun x0 x1 x2 => (∀ Q : α0 → α1 → α2 → Prop, (∀ x0 x1 x2, F2 Q x0 x1 x2 → Q x0 x1 x2) → Q x0 x1 x2) → P x0 x1 x2) (fun x0 x1 x2 => ∀ Q : α0 → α1 → α2 → Prop, (∀ x0 x1 x2, F2 Q x0 x1 x2 → Q x0 x1 x2) → Q x0 x1 x2) P (fun _ _ _ a b => a b) x0 x1 x2 ha ?_)
  refine hl (fun x0 x1 x2 => F2 (fun x0 x1 x2 => ∀ Q : α0 → α1 → α2 → Prop, (∀ x0 x1 x2, F2 Q x0 x1 x2 → Q x0 x1 x2) → Q x0 x1 x2) x0 x1 x2) ?_
  intro x0 x1 x2 hb
  refine mn _ _ ?_ x0 x1 x2 hb
  intro x0 x1 x2 hc Q hQ
  exact hQ x0 x1 x2 (mn _ _ (fun _ _ _ h => h Q hQ) x0 x1 x2 hc)

theorem lfp_8 {α0 α1 α2 α3 α4 α5 α6 α7 : Type} {F1 F2 F3 : (α0 → α1 → α2 → α3 → α4 → α5 → α6 → α7 → Prop) → α0 → α1 → α2 → α3 → α4 → α5 → α6 → α7 → Prop} {z0 : α0} {z1 : α1} {z2 : α2} {z3 : α3} {z4 : α4} {z5 : α5} {z6 : α6} {z7 : α7} (h1 : ∀ P : α0 → α1 → α2 → α3 → α4 → α5 → α6 → α7 → Prop, (∀ x0 x1 x2 x3 x4 x5 x6 x7, F1 P x0 x1 x2 x3 x4 x5 x6 x7 → P x0 x1 x2 x3 x4 x5 x6 x7) → P z0 z1 z2 z3 z4 z5 z6 z7) (h2 : ∀ P : α0 → α1 → α2 → α3 → α4 → α5 → α6 → α7 → Prop, (∀ x0 x1 x2 x3 x4 x5 x6 x7, F2 P x0 x1 x2 x3 x4 x5 x6 x7 → P x0 x1 x2 x3 x4 x5 x6 x7) → P z0 z1 z2 z3 z4 z5 z6 z7) (cj : ∀ (A B C : α0 → α1 → α2 → α3 → α4 → α5 → α6 → α7 → Prop), (∀ x0 x1 x2 x3 x4 x5 x6 x7, A x0 x1 x2 x3 x4 x5 x6 x7 → B x0 x1 x2 x3 x4 x5 x6 x7 → C x0 x1 x2 x3 x4 x5 x6 x7) → ∀ x0 x1 x2 x3 x4 x5 x6 x7, F1 A x0 x1 x2 x3 x4 x5 x6 x7 → F2 B x0 x1 x2 x3 x4 x5 x6 x7 → F3 C x0 x1 x2 x3 x4 x5 x6 x7) (mn : ∀ (A B : α0 → α1 → α2 → α3 → α4 → α5 → α6 → α7 → Prop), (∀ x0 x1 x2 x3 x4 x5 x6 x7, A x0 x1 x2 x3 x4 x5 x6 x7 → B x0 x1 x2 x3 x4 x5 x6 x7) → ∀ x0 x1 x2 x3 x4 x5 x6 x7, F2 A x0 x1 x2 x3 x4 x5 x6 x7 → F2 B x0 x1 x2 x3 x4 x5 x6 x7) : ∀ P : α0 → α1 → α2 → α3 → α4 → α5 → α6 → α7 → Prop, (∀ x0 x1 x2 x3 x4 x5 x6 x7, F3 P x0 x1 x2 x3 x4 x5 x6 x7 → P x0 x1 x2 x3 x4 x5 x6 x7) → P z0 z1 z2 z3 z4 z5 z6 z7 := by
  intro P hP
  refine h1 (fun x0 x1 x2 x3 x4 x5 x6 x7 => (∀ Q : α0 → α1 → α2 → α3 → α4 → α5 → α6 → α7 → Prop, (∀ x0 x1 x2 x3 x4 x5 x6 x7, F2 Q x0 x1 x2 x3 x4 x5 x6 x7 → Q x0 x1 x2 x3 x4 x5 x6 x7) → Q x0 x1 x2 x3 x4 x5 x6 x7) → P x0 x1 x2 x3 x4 x5 x6 x7) ?_ h2
  intro x0 x1 x2 x3 x4 x5 x6 x7 ha hl
  refine hP x0 x1 x2 x3 x4 x5 x6 x7 (cj (fun x0 x1 x2 x3 x4 x5 x6 x7 => (∀ Q : α0 → α1 → α2 → α3 → α4 → α5 → α6 → α7 → Prop, (∀ x0 x1 x2 x3 x4 x5 x6 x7, F2 Q x0 x1 x2 x3 x4 x5 x6 x7 → Q x0 x1 x2 x3 x4 x5 x6 x7) → Q x0 x1 x2 x3 x4 x5 x6 x7) → P x0 x1 x2 x3 x4 x5 x6 x7) (fun x0 x1 x2 x3 x4 x5 x6 x7 => ∀ Q : α0 → α1 → α2 → α3 → α4 → α5 → α6 → α7 → Prop, (∀ x0 x1 x2 x3 x4 x5 x6 x7, F2 Q x0 x1 x2 x3 x4 x5 x6 x7 → Q x0 x1 x2 x3 x4 x5 x6 x7) → Q x0 x1 x2 x3 x4 x5 x6 x7) P (fun _ _ _ _ _ _ _ _ a b => a b) x0 x1 x2 x3 x4 x5 x6 x7 ha ?_)
  refine hl (fun x0 x1 x2 x3 x4 x5 x6 x7 => F2 (fun x0 x1 x2 x3 x4 x5 x6 x7 => ∀ Q : α0 → α1 → α2 → α3 → α4 → α5 → α6 → α7 → Prop, (∀ x0 x1 x2 x3 x4 x5 x6 x7, F2 Q x0 x1 x2 x3 x4 x5 x6 x7 → Q x0 x1 x2 x3 x4 x5 x6 x7) → Q x0 x1 x2 x3 x4 x5 x6 x7) x0 x1 x2 x3 x4 x5 x6 x7) ?_
  intro x0 x1 x2 x3 x4 x5 x6 x7 hb
  refine mn _ _ ?_ x0 x1 x2 x3 x4 x5 x6 x7 hb
  intro x0 x1 x2 x3 x4 x5 x6 x7 hc Q hQ
  exact hQ x0 x1 x2 x3 x4 x5 x6 x7 (mn _ _ (fun _ _ _ _ _ _ _ _ h => h Q hQ) x0 x1 x2 x3 x4 x5 x6 x7 hc)

theorem lfp_14 {α0 α1 α2 α3 α4 α5 α6 α7 α8 α9 α10 α11 α12 α13 : Type} {F1 F2 F3 : (α0 → α1 → α2 → α3 → α4 → α5 → α6 → α7 → α8 → α9 → α10 → α11 → α12 → α13 → Prop) → α0 → α1 → α2 → α3 → α4 → α5 → α6 → α7 → α8 → α9 → α10 → α11 → α12 → α13 → Prop} {z0 : α0} {z1 : α1} {z2 : α2} {z3 : α3} {z4 : α4} {z5 : α5} {z6 : α6} {z7 : α7} {z8 : α8} {z9 : α9} {z10 : α10} {z11 : α11} {z12 : α12} {z13 : α13} (h1 : ∀ P : α0 → α1 → α2 → α3 → α4 → α5 → α6 → α7 → α8 → α9 → α10 → α11 → α12 → α13 → Prop, (∀ x0 x1 x2 x3 x4 x5 x6 x7 x8 x9 x10 x11 x12 x13, F1 P x0 x1 x2 x3 x4 x5 x6 x7 x8 x9 x10 x11 x12 x13 → P x0 x1 x2 x3 x4 x5 x6 x7 x8 x9 x10 x11 x12 x13) → P z0 z1 z2 z3 z4 z5 z6 z7 z8 z9 z10 z11 z12 z13) (h2 : ∀ P : α0 → α1 → α2 → α3 → α4 → α5 → α6 → α7 → α8 → α9 → α10 → α11 → α12 → α13 → Prop, (∀ x0 x1 x2 x3 x4 x5 x6 x7 x8 x9 x10 x11 x12 x13, F2 P x0 x1 x2 x3 x4 x5 x6 x7 x8 x9 x10 x11 x12 x13 → P x0 x1 x2 x3 x4 x5 x6 x7 x8 x9 x10 x11 x12 x13) → P z0 z1 z2 z3 z4 z5 z6 z7 z8 z9 z10 z11 z12 z13) (cj : ∀ (A B C : α0 → α1 → α2 → α3 → α4 → α5 → α6 → α7 → α8 → α9 → α10 → α11 → α12 → α13 → Prop), (∀ x0 x1 x2 x3 x4 x5 x6 x7 x8 x9 x10 x11 x12 x13, A x0 x1 x2 x3 x4 x5 x6 x7 x8 x9 x10 x11 x12 x13 → B x0 x1 x2 x3 x4 x5 x6 x7 x8 x9 x10 x11 x12 x13 → C x0 x1 x2 x3 x4 x5 x6 x7 x8 x9 x10 x11 x12 x13) → ∀ x0 x1 x2 x3 x4 x5 x6 x7 x8 x9 x10 x11 x12 x13, F1 A x0 x1 x2 x3 x4 x5 x6 x7 x8 x9 x10 x11 x12 x13 → F2 B x0 x1 x2 x3 x4 x5 x6 x7 x8 x9 x10 x11 x12 x13 → F3 C x0 x1 x2 x3 x4 x5 x6 x7 x8 x9 x10 x11 x12 x13) (mn : ∀ (A B : α0 → α1 → α2 → α3 → α4 → α5 → α6 → α7 → α8 → α9 → α10 → α11 → α12 → α13 → Prop), (∀ x0 x1 x2 x3 x4 x5 x6 x7 x8 x9 x10 x11 x12 x13, A x0 x1 x2 x3 x4 x5 x6 x7 x8 x9 x10 x11 x12 x13 → B x0 x1 x2 x3 x4 x5 x6 x7 x8 x9 x10 x11 x12 x13) → ∀ x0 x1 x2 x3 x4 x5 x6 x7 x8 x9 x10 x11 x12 x13, F2 A x0 x1 x2 x3 x4 x5 x6 x7 x8 x9 x10 x11 x12 x13 → F2 B x0 x1 x2 x3 x4 x5 x6 x7 x8 x9 x10 x11 x12 x13) : ∀ P : α0 → α1 → α2 → α3 → α4 → α5 → α6 → α7 → α8 → α9 → α10 → α11 → α12 → α13 → Prop, (∀ x0 x1 x2 x3 x4 x5 x6 x7 x8 x9 x10 x11 x12 x13, F3 P x0 x1 x2 x3 x4 x5 x6 x7 x8 x9 x10 x11 x12 x13 → P x0 x1 x2 x3 x4 x5 x6 x7 x8 x9 x10 x11 x12 x13) → P z0 z1 z2 z3 z4 z5 z6 z7 z8 z9 z10 z11 z12 z13 := by
  intro P hP
  refine h1 (fun x0 x1 x2 x3 x4 x5 x6 x7 x8 x9 x10 x11 x12 x13 => (∀ Q : α0 → α1 → α2 → α3 → α4 → α5 → α6 → α7 → α8 → α9 → α10 → α11 → α12 → α13 → Prop, (∀ x0 x1 x2 x3 x4 x5 x6 x7 x8 x9 x10 x11 x12 x13, F2 Q x0 x1 x2 x3 x4 x5 x6 x7 x8 x9 x10 x11 x12 x13 → Q x0 x1 x2 x3 x4 x5 x6 x7 x8 x9 x10 x11 x12 x13) → Q x0 x1 x2 x3 x4 x5 x6 x7 x8 x9 x10 x11 x12 x13) → P x0 x1 x2 x3 x4 x5 x6 x7 x8 x9 x10 x11 x12 x13) ?_ h2
  intro x0 x1 x2 x3 x4 x5 x6 x7 x8 x9 x10 x11 x12 x13 ha hl
  refine hP x0 x1 x2 x3 x4 x5 x6 x7 x8 x9 x10 x11 x12 x13 (cj (fun x0 x1 x2 x3 x4 x5 x6 x7 x8 x9 x10 x11 x12 x13 => (∀ Q : α0 → α1 → α2 → α3 → α4 → α5 → α6 → α7 → α8 → α9 → α10 → α11 → α12 → α13 → Prop, (∀ x0 x1 x2 x3 x4 x5 x6 x7 x8 x9 x10 x11 x12 x13, F2 Q x0 x1 x2 x3 x4 x5 x6 x7 x8 x9 x10 x11 x12 x13 → Q x0 x1 x2 x3 x4 x5 x6 x7 x8 x9 x10 x11 x12 x13) → Q x0 x1 x2 x3 x4 x5 x6 x7 x8 x9 x10 x11 x12 x13) → P x0 x1 x2 x3 x4 x5 x6 x7 x8 x9 x10 x11 x12 x13) (fun x0 x1 x2 x3 x4 x5 x6 x7 x8 x9 x10 x11 x12 x13 => ∀ Q : α0 → α1 → α2 → α3 → α4 → α5 → α6 → α7 → α8 → α9 → α10 → α11 → α12 → α13 → Prop, (∀ x0 x1 x2 x3 x4 x5 x6 x7 x8 x9 x10 x11 x12 x13, F2 Q x0 x1 x2 x3 x4 x5 x6 x7 x8 x9 x10 x11 x12 x13 → Q x0 x1 x2 x3 x4 x5 x6 x7 x8 x9 x10 x11 x12 x13) → Q x0 x1 x2 x3 x4 x5 x6 x7 x8 x9 x10 x11 x12 x13) P (fun _ _ _ _ _ _ _ _ _ _ _ _ _ _ a b => a b) x0 x1 x2 x3 x4 x5 x6 x7 x8 x9 x10 x11 x12 x13 ha ?_)
  refine hl (fun x0 x1 x2 x3 x4 x5 x6 x7 x8 x9 x10 x11 x12 x13 => F2 (fun x0 x1 x2 x3 x4 x5 x6 x7 x8 x9 x10 x11 x12 x13 => ∀ Q : α0 → α1 → α2 → α3 → α4 → α5 → α6 → α7 → α8 → α9 → α10 → α11 → α12 → α13 → Prop, (∀ x0 x1 x2 x3 x4 x5 x6 x7 x8 x9 x10 x11 x12 x13, F2 Q x0 x1 x2 x3 x4 x5 x6 x7 x8 x9 x10 x11 x12 x13 → Q x0 x1 x2 x3 x4 x5 x6 x7 x8 x9 x10 x11 x12 x13) → Q x0 x1 x2 x3 x4 x5 x6 x7 x8 x9 x10 x11 x12 x13) x0 x1 x2 x3 x4 x5 x6 x7 x8 x9 x10 x11 x12 x13) ?_
  intro x0 x1 x2 x3 x4 x5 x6 x7 x8 x9 x10 x11 x12 x13 hb
  refine mn _ _ ?_ x0 x1 x2 x3 x4 x5 x6 x7 x8 x9 x10 x11 x12 x13 hb
  intro x0 x1 x2 x3 x4 x5 x6 x7 x8 x9 x10 x11 x12 x13 hc Q hQ
  exact hQ x0 x1 x2 x3 x4 x5 x6 x7 x8 x9 x10 x11 x12 x13 (mn _ _ (fun _ _ _ _ _ _ _ _ _ _ _ _ _ _ h => h Q hQ) x0 x1 x2 x3 x4 x5 x6 x7 x8 x9 x10 x11 x12 x13 hc)

theorem lfp_37 {α0 α1 α2 α3 α4 α5 α6 α7 α8 α9 α10 α11 α12 α13 α14 α15 α16 α17 α18 α19 α20 α21 α22 α23 α24 α25 α26 α27 α28 α29 α30 α31 α32 α33 α34 α35 α36 : Type} {F1 F2 F3 : (α0 → α1 → α2 → α3 → α4 → α5 → α6 → α7 → α8 → α9 → α10 → α11 → α12 → α13 → α14 → α15 → α16 → α17 → α18 → α19 → α20 → α21 → α22 → α23 → α24 → α25 → α26 → α27 → α28 → α29 → α30 → α31 → α32 → α33 → α34 → α35 → α36 → Prop) → α0 → α1 → α2 → α3 → α4 → α5 → α6 → α7 → α8 → α9 → α10 → α11 → α12 → α13 → α14 → α15 → α16 → α17 → α18 → α19 → α20 → α21 → α22 → α23 → α24 → α25 → α26 → α27 → α28 → α29 → α30 → α31 → α32 → α33 → α34 → α35 → α36 → Prop} {z0 : α0} {z1 : α1} {z2 : α2} {z3 : α3} {z4 : α4} {z5 : α5} {z6 : α6} {z7 : α7} {z8 : α8} {z9 : α9} {z10 : α10} {z11 : α11} {z12 : α12} {z13 : α13} {z14 : α14} {z15 : α15} {z16 : α16} {z17 : α17} {z18 : α18} {z19 : α19} {z20 : α20} {z21 : α21} {z22 : α22} {z23 : α23} {z24 : α24} {z25 : α25} {z26 : α26} {z27 : α27} {z28 : α28} {z29 : α29} {z30 : α30} {z31 : α31} {z32 : α32} {z33 : α33} {z34 : α34} {z35 : α35} {z36 : α36} (h1 : ∀ P : α0 → α1 → α2 → α3 → α4 → α5 → α6 → α7 → α8 → α9 → α10 → α11 → α12 → α13 → α14 → α15 → α16 → α17 → α18 → α19 → α20 → α21 → α22 → α23 → α24 → α25 → α26 → α27 → α28 → α29 → α30 → α31 → α32 → α33 → α34 → α35 → α36 → Prop, (∀ x0 x1 x2 x3 x4 x5 x6 x7 x8 x9 x10 x11 x12 x13 x14 x15 x16 x17 x18 x19 x20 x21 x22 x23 x24 x25 x26 x27 x28 x29 x30 x31 x32 x33 x34 x35 x36, F1 P x0 x1 x2 x3 x4 x5 x6 x7 x8 x9 x10 x11 x12 x13 x14 x15 x16 x17 x18 x19 x20 x21 x22 x23 x24 x25 x26 x27 x28 x29 x30 x31 x32 x33 x34 x35 x36 → P x0 x1 x2 x3 x4 x5 x6 x7 x8 x9 x10 x11 x12 x13 x14 x15 x16 x17 x18 x19 x20 x21 x22 x23 x24 x25 x26 x27 x28 x29 x30 x31 x32 x33 x34 x35 x36) → P z0 z1 z2 z3 z4 z5 z6 z7 z8 z9 z10 z11 z12 z13 z14 z15 z16 z17 z18 z19 z20 z21 z22 z23 z24 z25 z26 z27 z28 z29 z30 z31 z32 z33 z34 z35 z36) (h2 : ∀ P : α0 → α1 → α2 → α3 → α4 → α5 → α6 → α7 → α8 → α9 → α10 → α11 → α12 → α13 → α14 → α15 → α16 → α17 → α18 → α19 → α20 → α21 → α22 → α23 → α24 → α25 → α26 → α27 → α28 → α29 → α30 → α31 → α32 → α33 → α34 → α35 → α36 → Prop, (∀ x0 x1 x2 x3 x4 x5 x6 x7 x8 x9 x10 x11 x12 x13 x14 x15 x16 x17 x18 x19 x20 x21 x22 x23 x24 x25 x26 x27 x28 x29 x30 x31 x32 x33 x34 x35 x36, F2 P x0 x1 x2 x3 x4 x5 x6 x7 x8 x9 x10 x11 x12 x13 x14 x15 x16 x17 x18 x19 x20 x21 x22 x23 x24 x25 x26 x27 x28 x29 x30 x31 x32 x33 x34 x35 x36 → P x0 x1 x2 x3 x4 x5 x6 x7 x8 x9 x10 x11 x12 x13 x14 x15 x16 x17 x18 x19 x20 x21 x22 x23 x24 x25 x26 x27 x28 x29 x30 x31 x32 x33 x34 x35 x36) → P z0 z1 z2 z3 z4 z5 z6 z7 z8 z9 z10 z11 z12 z13 z14 z15 z16 z17 z18 z19 z20 z21 z22 z23 z24 z25 z26 z27 z28 z29 z30 z31 z32 z33 z34 z35 z36) (cj : ∀ (A B C : α0 → α1 → α2 → α3 → α4 → α5 → α6 → α7 → α8 → α9 → α10 → α11 → α12 → α13 → α14 → α15 → α16 → α17 → α18 → α19 → α20 → α21 → α22 → α23 → α24 → α25 → α26 → α27 → α28 → α29 → α30 → α31 → α32 → α33 → α34 → α35 → α36 → Prop), (∀ x0 x1 x2 x3 x4 x5 x6 x7 x8 x9 x10 x11 x12 x13 x14 x15 x16 x17 x18 x19 x20 x21 x22 x23 x24 x25 x26 x27 x28 x29 x30 x31 x32 x33 x34 x35 x36, A x0 x1 x2 x3 x4 x5 x6 x7 x8 x9 x10 x11 x12 x13 x14 x15 x16 x17 x18 x19 x20 x21 x22 x23 x24 x25 x26 x27 x28 x29 x30 x31 x32 x33 x34 x35 x36 → B x0 x1 x2 x3 x4 x5 x6 x7 x8 x9 x10 x11 x12 x13 x14 x15 x16 x17 x18 x19 x20 x21 x22 x23 x24 x25 x26 x27 x28 x29 x30 x31 x32 x33 x34 x35 x36 → C x0 x1 x2 x3 x4 x5 x6 x7 x8 x9 x10 x11 x12 x13 x14 x15 x16 x17 x18 x19 x20 x21 x22 x23 x24 x25 x26 x27 x28 x29 x30 x31 x32 x33 x34 x35 x36) → ∀ x0 x1 x2 x3 x4 x5 x6 x7 x8 x9 x10 x11 x12 x13 x14 x15 x16 x17 x18 x19 x20 x21 x22 x23 x24 x25 x26 x27 x28 x29 x30 x31 x32 x33 x34 x35 x36, F1 A x0 x1 x2 x3 x4 x5 x6 x7 x8 x9 x10 x11 x12 x13 x14 x15 x16 x17 x18 x19 x20 x21 x22 x23 x24 x25 x26 x27 x28 x29 x30 x31 x32 x33 x34 x35 x36 → F2 B x0 x1 x2 x3 x4 x5 x6 x7 x8 x9 x10 x11 x12 x13 x14 x15 x16 x17 x18 x19 x20 x21 x22 x23 x24 x25 x26 x27 x28 x29 x30 x31 x32 x33 x34 x35 x36 → F3 C x0 x1 x2 x3 x4 x5 x6 x7 x8 x9 x10 x11 x12 x13 x14 x15 x16 x17 x18 x19 x20 x21 x22 x23 x24 x25 x26 x27 x28 x29 x30 x31 x32 x33 x34 x35 x36) (mn : ∀ (A B : α0 → α1 → α2 → α3 → α4 → α5 → α6 → α7 → α8 → α9 → α10 → α11 → α12 → α13 → α14 → α15 → α16 → α17 → α18 → α19 → α20 → α21 → α22 → α23 → α24 → α25 → α26 → α27 → α28 → α29 → α30 → α31 → α32 → α33 → α34 → α35 → α36 → Prop), (∀ x0 x1 x2 x3 x4 x5 x6 x7 x8 x9 x10 x11 x12 x13 x14 x15 x16 x17 x18 x19 x20 x21 x22 x23 x24 x25 x26 x27 x28 x29 x30 x31 x32 x33 x34 x35 x36, A x0 x1 x2 x3 x4 x5 x6 x7 x8 x9 x10 x11 x12 x13 x14 x15 x16 x17 x18 x19 x20 x21 x22 x23 x24 x25 x26 x27 x28 x29 x30 x31 x32 x33 x34 x35 x36 → B x0 x1 x2 x3 x4 x5 x6 x7 x8 x9 x10 x11 x12 x13 x14 x15 x16 x17 x18 x19 x20 x21 x22 x23 x24 x25 x26 x27 x28 x29 x30 x31 x32 x33 x34 x35 x36) → ∀ x0 x1 x2 x3 x4 x5 x6 x7 x8 x9 x10 x11 x12 x13 x14 x15 x16 x17 x18 x19 x20 x21 x22 x23 x24 x25 x26 x27 x28 x29 x30 x31 x32 x33 x34 x35 x36, F2 A x0 x1 x2 x3 x4 x5 x6 x7 x8 x9 x10 x11 x12 x13 x14 x15 x16 x17 x18 x19 x20 x21 x22 x23 x24 x25 x26 x27 x28 x29 x30 x31 x32 x33 x34 x35 x36 → F2 B x0 x1 x2 x3 x4 x5 x6 x7 x8 x9 x10 x11 x12 x13 x14 x15 x16 x17 x18 x19 x20 x21 x22 x23 x24 x25 x26 x27 x28 x29 x30 x31 x32 x33 x34 x35 x36) : ∀ P : α0 → α1 → α2 → α3 → α4 → α5 → α6 → α7 → α8 → α9 → α10 → α11 → α12 → α13 → α14 → α15 → α16 → α17 → α18 → α19 → α20 → α21 → α22 → α23 → α24 → α25 → α26 → α27 → α28 → α29 → α30 → α31 → α32 → α33 → α34 → α35 → α36 → Prop, (∀ x0 x1 x2 x3 x4 x5 x6 x7 x8 x9 x10 x11 x12 x13 x14 x15 x16 x17 x18 x19 x20 x21 x22 x23 x24 x25 x26 x27 x28 x29 x30 x31 x32 x33 x34 x35 x36, F3 P x0 x1 x2 x3 x4 x5 x6 x7 x8 x9 x10 x11 x12 x13 x14 x15 x16 x17 x18 x19 x20 x21 x22 x23 x24 x25 x26 x27 x28 x29 x30 x31 x32 x33 x34 x35 x36 → P x0 x1 x2 x3 x4 x5 x6 x7 x8 x9 x10 x11 x12 x13 x14 x15 x16 x17 x18 x19 x20 x21 x22 x23 x24 x25 x26 x27 x28 x29 x30 x31 x32 x33 x34 x35 x36) → P z0 z1 z2 z3 z4 z5 z6 z7 z8 z9 z10 z11 z12 z13 z14 z15 z16 z17 z18 z19 z20 z21 z22 z23 z24 z25 z26 z27 z28 z29 z30 z31 z32 z33 z34 z35 z36 := by
  intro P hP
  refine h1 (fun x0 x1 x2 x3 x4 x5 x6 x7 x8 x9 x10 x11 x12 x13 x14 x15 x16 x17 x18 x19 x20 x21 x22 x23 x24 x25 x26 x27 x28 x29 x30 x31 x32 x33 x34 x35 x36 => (∀ Q : α0 → α1 → α2 → α3 → α4 → α5 → α6 → α7 → α8 → α9 → α10 → α11 → α12 → α13 → α14 → α15 → α16 → α17 → α18 → α19 → α20 → α21 → α22 → α23 → α24 → α25 → α26 → α27 → α28 → α29 → α30 → α31 → α32 → α33 → α34 → α35 → α36 → Prop, (∀ x0 x1 x2 x3 x4 x5 x6 x7 x8 x9 x10 x11 x12 x13 x14 x15 x16 x17 x18 x19 x20 x21 x22 x23 x24 x25 x26 x27 x28 x29 x30 x31 x32 x33 x34 x35 x36, F2 Q x0 x1 x2 x3 x4 x5 x6 x7 x8 x9 x10 x11 x12 x13 x14 x15 x16 x17 x18 x19 x20 x21 x22 x23 x24 x25 x26 x27 x28 x29 x30 x31 x32 x33 x34 x35 x36 → Q x0 x1 x2 x3 x4 x5 x6 x7 x8 x9 x10 x11 x12 x13 x14 x15 x16 x17 x18 x19 x20 x21 x22 x23 x24 x25 x26 x27 x28 x29 x30 x31 x32 x33 x34 x35 x36) → Q x0 x1 x2 x3 x4 x5 x6 x7 x8 x9 x10 x11 x12 x13 x14 x15 x16 x17 x18 x19 x20 x21 x22 x23 x24 x25 x26 x27 x28 x29 x30 x31 x32 x33 x34 x35 x36) → P x0 x1 x2 x3 x4 x5 x6 x7 x8 x9 x10 x11 x12 x13 x14 x15 x16 x17 x18 x19 x20 x21 x22 x23 x24 x25 x26 x27 x28 x29 x30 x31 x32 x33 x34 x35 x36) ?_ h2
  intro x0 x1 x2 x3 x4 x5 x6 x7 x8 x9 x10 x11 x12 x13 x14 x15 x16 x17 x18 x19 x20 x21 x22 x23 x24 x25 x26 x27 x28 x29 x30 x31 x32 x33 x34 x35 x36 ha hl
  refine hP x0 x1 x2 x3 x4 x5 x6 x7 x8 x9 x10 x11 x12 x13 x14 x15 x16 x17 x18 x19 x20 x21 x22 x23 x24 x25 x26 x27 x28 x29 x30 x31 x32 x33 x34 x35 x36 (cj (fun x0 x1 x2 x3 x4 x5 x6 x7 x8 x9 x10 x11 x12 x13 x14 x15 x16 x17 x18 x19 x20 x21 x22 x23 x24 x25 x26 x27 x28 x29 x30 x31 x32 x33 x34 x35 x36 => (∀ Q : α0 → α1 → α2 → α3 → α4 → α5 → α6 → α7 → α8 → α9 → α10 → α11 → α12 → α13 → α14 → α15 → α16 → α17 → α18 → α19 → α20 → α21 → α22 → α23 → α24 → α25 → α26 → α27 → α28 → α29 → α30 → α31 → α32 → α33 → α34 → α35 → α36 → Prop, (∀ x0 x1 x2 x3 x4 x5 x6 x7 x8 x9 x10 x11 x12 x13 x14 x15 x16 x17 x18 x19 x20 x21 x22 x23 x24 x25 x26 x27 x28 x29 x30 x31 x32 x33 x34 x35 x36, F2 Q x0 x1 x2 x3 x4 x5 x6 x7 x8 x9 x10 x11 x12 x13 x14 x15 x16 x17 x18 x19 x20 x21 x22 x23 x24 x25 x26 x27 x28 x29 x30 x31 x32 x33 x34 x35 x36 → Q x0 x1 x2 x3 x4 x5 x6 x7 x8 x9 x10 x11 x12 x13 x14 x15 x16 x17 x18 x19 x20 x21 x22 x23 x24 x25 x26 x27 x28 x29 x30 x31 x32 x33 x34 x35 x36) → Q x0 x1 x2 x3 x4 x5 x6 x7 x8 x9 x10 x11 x12 x13 x14 x15 x16 x17 x18 x19 x20 x21 x22 x23 x24 x25 x26 x27 x28 x29 x30 x31 x32 x33 x34 x35 x36) → P x0 x1 x2 x3 x4 x5 x6 x7 x8 x9 x10 x11 x12 x13 x14 x15 x16 x17 x18 x19 x20 x21 x22 x23 x24 x25 x26 x27 x28 x29 x30 x31 x32 x33 x34 x35 x36) (fun x0 x1 x2 x3 x4 x5 x6 x7 x8 x9 x10 x11 x12 x13 x14 x15 x16 x17 x18 x19 x20 x21 x22 x23 x24 x25 x26 x27 x28 x29 x30 x31 x32 x33 x34 x35 x36 => ∀ Q : α0 → α1 → α2 → α3 → α4 → α5 → α6 → α7 → α8 → α9 → α10 → α11 → α12 → α13 → α14 → α15 → α16 → α17 → α18 → α19 → α20 → α21 → α22 → α23 → α24 → α25 → α26 → α27 → α28 → α29 → α30 → α31 → α32 → α33 → α34 → α35 → α36 → Prop, (∀ x0 x1 x2 x3 x4 x5 x6 x7 x8 x9 x10 x11 x12 x13 x14 x15 x16 x17 x18 x19 x20 x21 x22 x23 x24 x25 x26 x27 x28 x29 x30 x31 x32 x33 x34 x35 x36, F2 Q x0 x1 x2 x3 x4 x5 x6 x7 x8 x9 x10 x11 x12 x13 x14 x15 x16 x17 x18 x19 x20 x21 x22 x23 x24 x25 x26 x27 x28 x29 x30 x31 x32 x33 x34 x35 x36 → Q x0 x1 x2 x3 x4 x5 x6 x7 x8 x9 x10 x11 x12 x13 x14 x15 x16 x17 x18 x19 x20 x21 x22 x23 x24 x25 x26 x27 x28 x29 x30 x31 x32 x33 x34 x35 x36) → Q x0 x1 x2 x3 x4 x5 x6 x7 x8 x9 x10 x11 x12 x13 x14 x15 x16 x17 x18 x19 x20 x21 x22 x23 x24 x25 x26 x27 x28 x29 x30 x31 x32 x33 x34 x35 x36) P (fun _ _ _ _ _ _ _ _ _ _ _ _ _ _ _ _ _ _ _ _ _ _ _ _ _ _ _ _ _ _ _ _ _ _ _ _ _ a b => a b) x0 x1 x2 x3 x4 x5 x6 x7 x8 x9 x10 x11 x12 x13 x14 x15 x16 x17 x18 x19 x20 x21 x22 x23 x24 x25 x26 x27 x28 x29 x30 x31 x32 x33 x34 x35 x36 ha ?_)
  refine hl (fun x0 x1 x2 x3 x4 x5 x6 x7 x8 x9 x10 x11 x12 x13 x14 x15 x16 x17 x18 x19 x20 x21 x22 x23 x24 x25 x26 x27 x28 x29 x30 x31 x32 x33 x34 x35 x36 => F2 (fun x0 x1 x2 x3 x4 x5 x6 x7 x8 x9 x10 x11 x12 x13 x14 x15 x16 x17 x18 x19 x20 x21 x22 x23 x24 x25 x26 x27 x28 x29 x30 x31 x32 x33 x34 x35 x36 => ∀ Q : α0 → α1 → α2 → α3 → α4 → α5 → α6 → α7 → α8 → α9 → α10 → α11 → α12 → α13 → α14 → α15 → α16 → α17 → α18 → α19 → α20 → α21 → α22 → α23 → α24 → α25 → α26 → α27 → α28 → α29 → α30 → α31 → α32 → α33 → α34 → α35 → α36 → Prop, (∀ x0 x1 x2 x3 x4 x5 x6 x7 x8 x9 x10 x11 x12 x13 x14 x15 x16 x17 x18 x19 x20 x21 x22 x23 x24 x25 x26 x27 x28 x29 x30 x31 x32 x33 x34 x35 x36, F2 Q x0 x1 x2 x3 x4 x5 x6 x7 x8 x9 x10 x11 x12 x13 x14 x15 x16 x17 x18 x19 x20 x21 x22 x23 x24 x25 x26 x27 x28 x29 x30 x31 x32 x33 x34 x35 x36 → Q x0 x1 x2 x3 x4 x5 x6 x7 x8 x9 x10 x11 x12 x13 x14 x15 x16 x17 x18 x19 x20 x21 x22 x23 x24 x25 x26 x27 x28 x29 x30 x31 x32 x33 x34 x35 x36) → Q x0 x1 x2 x3 x4 x5 x6 x7 x8 x9 x10 x11 x12 x13 x14 x15 x16 x17 x18 x19 x20 x21 x22 x23 x24 x25 x26 x27 x28 x29 x30 x31 x32 x33 x34 x35 x36) x0 x1 x2 x3 x4 x5 x6 x7 x8 x9 x10 x11 x12 x13 x14 x15 x16 x17 x18 x19 x20 x21 x22 x23 x24 x25 x26 x27 x28 x29 x30 x31 x32 x33 x34 x35 x36) ?_
  intro x0 x1 x2 x3 x4 x5 x6 x7 x8 x9 x10 x11 x12 x13 x14 x15 x16 x17 x18 x19 x20 x21 x22 x23 x24 x25 x26 x27 x28 x29 x30 x31 x32 x33 x34 x35 x36 hb
  refine mn _ _ ?_ x0 x1 x2 x3 x4 x5 x6 x7 x8 x9 x10 x11 x12 x13 x14 x15 x16 x17 x18 x19 x20 x21 x22 x23 x24 x25 x26 x27 x28 x29 x30 x31 x32 x33 x34 x35 x36 hb
  intro x0 x1 x2 x3 x4 x5 x6 x7 x8 x9 x10 x11 x12 x13 x14 x15 x16 x17 x18 x19 x20 x21 x22 x23 x24 x25 x26 x27 x28 x29 x30 x31 x32 x33 x34 x35 x36 hc Q hQ
  exact hQ x0 x1 x2 x3 x4 x5 x6 x7 x8 x9 x10 x11 x12 x13 x14 x15 x16 x17 x18 x19 x20 x21 x22 x23 x24 x25 x26 x27 x28 x29 x30 x31 x32 x33 x34 x35 x36 (mn _ _ (fun _ _ _ _ _ _ _ _ _ _ _ _ _ _ _ _ _ _ _ _ _ _ _ _ _ _ _ _ _ _ _ _ _ _ _ _ _ h => h Q hQ) x0 x1 x2 x3 x4 x5 x6 x7 x8 x9 x10 x11 x12 x13 x14 x15 x16 x17 x18 x19 x20 x21 x22 x23 x24 x25 x26 x27 x28 x29 x30 x31 x32 x33 x34 x35 x36 hc)

theorem lfp_55 {α0 α1 α2 α3 α4 α5 α6 α7 α8 α9 α10 α11 α12 α13 α14 α15 α16 α17 α18 α19 α20 α21 α22 α23 α24 α25 α26 α27 α28 α29 α30 α31 α32 α33 α34 α35 α36 α37 α38 α39 α40 α41 α42 α43 α44 α45 α46 α47 α48 α49 α50 α51 α52 α53 α54 : Type} {F1 F2 F3 : (α0 → α1 → α2 → α3 → α4 → α5 → α6 → α7 → α8 → α9 → α10 → α11 → α12 → α13 → α14 → α15 → α16 → α17 → α18 → α19 → α20 → α21 → α22 → α23 → α24 → α25 → α26 → α27 → α28 → α29 → α30 → α31 → α32 → α33 → α34 → α35 → α36 → α37 → α38 → α39 → α40 → α41 → α42 → α43 → α44 → α45 → α46 → α47 → α48 → α49 → α50 → α51 → α52 → α53 → α54 → Prop) → α0 → α1 → α2 → α3 → α4 → α5 → α6 → α7 → α8 → α9 → α10 → α11 → α12 → α13 → α14 → α15 → α16 → α17 → α18 → α19 → α20 → α21 → α22 → α23 → α24 → α25 → α26 → α27 → α28 → α29 → α30 → α31 → α32 → α33 → α34 → α35 → α36 → α37 → α38 → α39 → α40 → α41 → α42 → α43 → α44 → α45 → α46 → α47 → α48 → α49 → α50 → α51 → α52 → α53 → α54 → Prop} {z0 : α0} {z1 : α1} {z2 : α2} {z3 : α3} {z4 : α4} {z5 : α5} {z6 : α6} {z7 : α7} {z8 : α8} {z9 : α9} {z10 : α10} {z11 : α11} {z12 : α12} {z13 : α13} {z14 : α14} {z15 : α15} {z16 : α16} {z17 : α17} {z18 : α18} {z19 : α19} {z20 : α20} {z21 : α21} {z22 : α22} {z23 : α23} {z24 : α24} {z25 : α25} {z26 : α26} {z27 : α27} {z28 : α28} {z29 : α29} {z30 : α30} {z31 : α31} {z32 : α32} {z33 : α33} {z34 : α34} {z35 : α35} {z36 : α36} {z37 : α37} {z38 : α38} {z39 : α39} {z40 : α40} {z41 : α41} {z42 : α42} {z43 : α43} {z44 : α44} {z45 : α45} {z46 : α46} {z47 : α47} {z48 : α48} {z49 : α49} {z50 : α50} {z51 : α51} {z52 : α52} {z53 : α53} {z54 : α54} (h1 : ∀ P : α0 → α1 → α2 → α3 → α4 → α5 → α6 → α7 → α8 → α9 → α10 → α11 → α12 → α13 → α14 → α15 → α16 → α17 → α18 → α19 → α20 → α21 → α22 → α23 → α24 → α25 → α26 → α27 → α28 → α29 → α30 → α31 → α32 → α33 → α34 → α35 → α36 → α37 → α38 → α39 → α40 → α41 → α42 → α43 → α44 → α45 → α46 → α47 → α48 → α49 → α50 → α51 → α52 → α53 → α54 → Prop, (∀ x0 x1 x2 x3 x4 x5 x6 x7 x8 x9 x10 x11 x12 x13 x14 x15 x16 x17 x18 x19 x20 x21 x22 x23 x24 x25 x26 x27 x28 x29 x30 x31 x32 x33 x34 x35 x36 x37 x38 x39 x40 x41 x42 x43 x44 x45 x46 x47 x48 x49 x50 x51 x52 x53 x54, F1 P x0 x1 x2 x3 x4 x5 x6 x7 x8 x9 x10 x11 x12 x13 x14 x15 x16 x17 x18 x19 x20 x21 x22 x23 x24 x25 x26 x27 x28 x29 x30 x31 x32 x33 x34 x35 x36 x37 x38 x39 x40 x41 x42 x43 x44 x45 x46 x47 x48 x49 x50 x51 x52 x53 x54 → P x0 x1 x2 x3 x4 x5 x6 x7 x8 x9 x10 x11 x12 x13 x14 x15 x16 x17 x18 x19 x20 x21 x22 x23 x24 x25 x26 x27 x28 x29 x30 x31 x32 x33 x34 x35 x36 x37 x38 x39 x40 x41 x42 x43 x44 x45 x46 x47 x48 x49 x50 x51 x52 x53 x54) → P z0 z1 z2 z3 z4 z5 z6 z7 z8 z9 z10 z11 z12 z13 z14 z15 z16 z17 z18 z19 z20 z21 z22 z23 z24 z25 z26 z27 z28 z29 z30 z31 z32 z33 z34 z35 z36 z37 z38 z39 z40 z41 z42 z43 z44 z45 z46 z47 z48 z49 z50 z51 z52 z53 z54) (h2 : ∀ P : α0 → α1 → α2 → α3 → α4 → α5 → α6 → α7 → α8 → α9 → α10 → α11 → α12 → α13 → α14 → α15 → α16 → α17 → α18 → α19 → α20 → α21 → α22 → α23 → α24 → α25 → α26 → α27 → α28 → α29 → α30 → α31 → α32 → α33 → α34 → α35 → α36 → α37 → α38 → α39 → α40 → α41 → α42 → α43 → α44 → α45 → α46 → α47 → α48 → α49 → α50 → α51 → α52 → α53 → α54 → Prop, (∀ x0 x1 x2 x3 x4 x5 x6 x7 x8 x9 x10 x11 x12 x13 x14 x15 x16 x17 x18 x19 x20 x21 x22 x23 x24 x25 x26 x27 x28 x29 x30 x31 x32 x33 x34 x35 x36 x37 x38 x39 x40 x41 x42 x43 x44 x45 x46 x47 x48 x49 x50 x51 x52 x53 x54, F2 P x0 x1 x2 x3 x4 x5 x6 x7 x8 x9 x10 x11 x12 x13 x14 x15 x16 x17 x18 x19 x20 x21 x22 x23 x24 x25 x26 x27 x28 x29 x30 x31 x32 x33 x34 x35 x36 x37 x38 x39 x40 x41 x42 x43 x44 x45 x46 x47 x48 x49 x50 x51 x52 x53 x54 → P x0 x1 x2 x3 x4 x5 x6 x7 x8 x9 x10 x11 x12 x13 x14 x15 x16 x17 x18 x19 x20 x21 x22 x23 x24 x25 x26 x27 x28 x29 x30 x31 x32 x33 x34 x35 x36 x37 x38 x39 x40 x41 x42 x43 x44 x45 x46 x47 x48 x49 x50 x51 x52 x53 x54) → P z0 z1 z2 z3 z4 z5 z6 z7 z8 z9 z10 z11 z12 z13 z14 z15 z16 z17 z18 z19 z20 z21 z22 z23 z24 z25 z26 z27 z28 z29 z30 z31 z32 z33 z34 z35 z36 z37 z38 z39 z40 z41 z42 z43 z44 z45 z46 z47 z48 z49 z50 z51 z52 z53 z54) (cj : ∀ (A B C : α0 → α1 → α2 → α3 → α4 → α5 → α6 → α7 → α8 → α9 → α10 → α11 → α12 → α13 → α14 → α15 → α16 → α17 → α18 → α19 → α20 → α21 → α22 → α23 → α24 → α25 → α26 → α27 → α28 → α29 → α30 → α31 → α32 → α33 → α34 → α35 → α36 → α37 → α38 → α39 → α40 → α41 → α42 → α43 → α44 → α45 → α46 → α47 → α48 → α49 → α50 → α51 → α52 → α53 → α54 → Prop), (∀ x0 x1 x2 x3 x4 x5 x6 x7 x8 x9 x10 x11 x12 x13 x14 x15 x16 x17 x18 x19 x20 x21 x22 x23 x24 x25 x26 x27 x28 x29 x30 x31 x32 x33 x34 x35 x36 x37 x38 x39 x40 x41 x42 x43 x44 x45 x46 x47 x48 x49 x50 x51 x52 x53 x54, A x0 x1 x2 x3 x4 x5 x6 x7 x8 x9 x10 x11 x12 x13 x14 x15 x16 x17 x18 x19 x20 x21 x22 x23 x24 x25 x26 x27 x28 x29 x30 x31 x32 x33 x34 x35 x36 x37 x38 x39 x40 x41 x42 x43 x44 x45 x46 x47 x48 x49 x50 x51 x52 x53 x54 → B x0 x1 x2 x3 x4 x5 x6 x7 x8 x9 x10 x11 x12 x13 x14 x15 x16 x17 x18 x19 x20 x21 x22 x23 x24 x25 x26 x27 x28 x29 x30 x31 x32 x33 x34 x35 x36 x37 x38 x39 x40 x41 x42 x43 x44 x45 x46 x47 x48 x49 x50 x51 x52 x53 x54 → C x0 x1 x2 x3 x4 x5 x6 x7 x8 x9 x10 x11 x12 x13 x14 x15 x16 x17 x18 x19 x20 x21 x22 x23 x24 x25 x26 x27 x28 x29 x30 x31 x32 x33 x34 x35 x36 x37 x38 x39 x40 x41 x42 x43 x44 x45 x46 x47 x48 x49 x50 x51 x52 x53 x54) → ∀ x0 x1 x2 x3 x4 x5 x6 x7 x8 x9 x10 x11 x12 x13 x14 x15 x16 x17 x18 x19 x20 x21 x22 x23 x24 x25 x26 x27 x28 x29 x30 x31 x32 x33 x34 x35 x36 x37 x38 x39 x40 x41 x42 x43 x44 x45 x46 x47 x48 x49 x50 x51 x52 x53 x54, F1 A x0 x1 x2 x3 x4 x5 x6 x7 x8 x9 x10 x11 x12 x13 x14 x15 x16 x17 x18 x19 x20 x21 x22 x23 x24 x25 x26 x27 x28 x29 x30 x31 x32 x33 x34 x35 x36 x37 x38 x39 x40 x41 x42 x43 x44 x45 x46 x47 x48 x49 x50 x51 x52 x53 x54 → F2 B x0 x1 x2 x3 x4 x5 x6 x7 x8 x9 x10 x11 x12 x13 x14 x15 x16 x17 x18 x19 x20 x21 x22 x23 x24 x25 x26 x27 x28 x29 x30 x31 x32 x33 x34 x35 x36 x37 x38 x39 x40 x41 x42 x43 x44 x45 x46 x47 x48 x49 x50 x51 x52 x53 x54 → F3 C x0 x1 x2 x3 x4 x5 x6 x7 x8 x9 x10 x11 x12 x13 x14 x15 x16 x17 x18 x19 x20 x21 x22 x23 x24 x25 x26 x27 x28 x29 x30 x31 x32 x33 x34 x35 x36 x37 x38 x39 x40 x41 x42 x43 x44 x45 x46 x47 x48 x49 x50 x51 x52 x53 x54) (mn : ∀ (A B : α0 → α1 → α2 → α3 → α4 → α5 → α6 → α7 → α8 → α9 → α10 → α11 → α12 → α13 → α14 → α15 → α16 → α17 → α18 → α19 → α20 → α21 → α22 → α23 → α24 → α25 → α26 → α27 → α28 → α29 → α30 → α31 → α32 → α33 → α34 → α35 → α36 → α37 → α38 → α39 → α40 → α41 → α42 → α43 → α44 → α45 → α46 → α47 → α48 → α49 → α50 → α51 → α52 → α53 → α54 → Prop), (∀ x0 x1 x2 x3 x4 x5 x6 x7 x8 x9 x10 x11 x12 x13 x14 x15 x16 x17 x18 x19 x20 x21 x22 x23 x24 x25 x26 x27 x28 x29 x30 x31 x32 x33 x34 x35 x36 x37 x38 x39 x40 x41 x42 x43 x44 x45 x46 x47 x48 x49 x50 x51 x52 x53 x54, A x0 x1 x2 x3 x4 x5 x6 x7 x8 x9 x10 x11 x12 x13 x14 x15 x16 x17 x18 x19 x20 x21 x22 x23 x24 x25 x26 x27 x28 x29 x30 x31 x32 x33 x34 x35 x36 x37 x38 x39 x40 x41 x42 x43 x44 x45 x46 x47 x48 x49 x50 x51 x52 x53 x54 → B x0 x1 x2 x3 x4 x5 x6 x7 x8 x9 x10 x11 x12 x13 x14 x15 x16 x17 x18 x19 x20 x21 x22 x23 x24 x25 x26 x27 x28 x29 x30 x31 x32 x33 x34 x35 x36 x37 x38 x39 x40 x41 x42 x43 x44 x45 x46 x47 x48 x49 x50 x51 x52 x53 x54) → ∀ x0 x1 x2 x3 x4 x5 x6 x7 x8 x9 x10 x11 x12 x13 x14 x15 x16 x17 x18 x19 x20 x21 x22 x23 x24 x25 x26 x27 x28 x29 x30 x31 x32 x33 x34 x35 x36 x37 x38 x39 x40 x41 x42 x43 x44 x45 x46 x47 x48 x49 x50 x51 x52 x53 x54, F2 A x0 x1 x2 x3 x4 x5 x6 x7 x8 x9 x10 x11 x12 x13 x14 x15 x16 x17 x18 x19 x20 x21 x22 x23 x24 x25 x26 x27 x28 x29 x30 x31 x32 x33 x34 x35 x36 x37 x38 x39 x40 x41 x42 x43 x44 x45 x46 x47 x48 x49 x50 x51 x52 x53 x54 → F2 B x0 x1 x2 x3 x4 x5 x6 x7 x8 x9 x10 x11 x12 x13 x14 x15 x16 x17 x18 x19 x20 x21 x22 x23 x24 x25 x26 x27 x28 x29 x30 x31 x32 x33 x34 x35 x36 x37 x38 x39 x40 x41 x42 x43 x44 x45 x46 x47 x48 x49 x50 x51 x52 x53 x54) : ∀ P : α0 → α1 → α2 → α3 → α4 → α5 → α6 → α7 → α8 → α9 → α10 → α11 → α12 → α13 → α14 → α15 → α16 → α17 → α18 → α19 → α20 → α21 → α22 → α23 → α24 → α25 → α26 → α27 → α28 → α29 → α30 → α31 → α32 → α33 → α34 → α35 → α36 → α37 → α38 → α39 → α40 → α41 → α42 → α43 → α44 → α45 → α46 → α47 → α48 → α49 → α50 → α51 → α52 → α53 → α54 → Prop, (∀ x0 x1 x2 x3 x4 x5 x6 x7 x8 x9 x10 x11 x12 x13 x14 x15 x16 x17 x18 x19 x20 x21 x22 x23 x24 x25 x26 x27 x28 x29 x30 x31 x32 x33 x34 x35 x36 x37 x38 x39 x40 x41 x42 x43 x44 x45 x46 x47 x48 x49 x50 x51 x52 x53 x54, F3 P x0 x1 x2 x3 x4 x5 x6 x7 x8 x9 x10 x11 x12 x13 x14 x15 x16 x17 x18 x19 x20 x21 x22 x23 x24 x25 x26 x27 x28 x29 x30 x31 x32 x33 x34 x35 x36 x37 x38 x39 x40 x41 x42 x43 x44 x45 x46 x47 x48 x49 x50 x51 x52 x53 x54 → P x0 x1 x2 x3 x4 x5 x6 x7 x8 x9 x10 x11 x12 x13 x14 x15 x16 x17 x18 x19 x20 x21 x22 x23 x24 x25 x26 x27 x28 x29 x30 x31 x32 x33 x34 x35 x36 x37 x38 x39 x40 x41 x42 x43 x44 x45 x46 x47 x48 x49 x50 x51 x52 x53 x54) → P z0 z1 z2 z3 z4 z5 z6 z7 z8 z9 z10 z11 z12 z13 z14 z15 z16 z17 z18 z19 z20 z21 z22 z23 z24 z25 z26 z27 z28 z29 z30 z31 z32 z33 z34 z35 z36 z37 z38 z39 z40 z41 z42 z43 z44 z45 z46 z47 z48 z49 z50 z51 z52 z53 z54 := by
  intro P hP
  refine h1 (fun x0 x1 x2 x3 x4 x5 x6 x7 x8 x9 x10 x11 x12 x13 x14 x15 x16 x17 x18 x19 x20 x21 x22 x23 x24 x25 x26 x27 x28 x29 x30 x31 x32 x33 x34 x35 x36 x37 x38 x39 x40 x41 x42 x43 x44 x45 x46 x47 x48 x49 x50 x51 x52 x53 x54 => (∀ Q : α0 → α1 → α2 → α3 → α4 → α5 → α6 → α7 → α8 → α9 → α10 → α11 → α12 → α13 → α14 → α15 → α16 → α17 → α18 → α19 → α20 → α21 → α22 → α23 → α24 → α25 → α26 → α27 → α28 → α29 → α30 → α31 → α32 → α33 → α34 → α35 → α36 → α37 → α38 → α39 → α40 → α41 → α42 → α43 → α44 → α45 → α46 → α47 → α48 → α49 → α50 → α51 → α52 → α53 → α54 → Prop, (∀ x0 x1 x2 x3 x4 x5 x6 x7 x8 x9 x10 x11 x12 x13 x14 x15 x16 x17 x18 x19 x20 x21 x22 x23 x24 x25 x26 x27 x28 x29 x30 x31 x32 x33 x34 x35 x36 x37 x38 x39 x40 x41 x42 x43 x44 x45 x46 x47 x48 x49 x50 x51 x52 x53 x54, F2 Q x0 x1 x2 x3 x4 x5 x6 x7 x8 x9 x10 x11 x12 x13 x14 x15 x16 x17 x18 x19 x20 x21 x22 x23 x24 x25 x26 x27 x28 x29 x30 x31 x32 x33 x34 x35 x36 x37 x38 x39 x40 x41 x42 x43 x44 x45 x46 x47 x48 x49 x50 x51 x52 x53 x54 → Q x0 x1 x2 x3 x4 x5 x6 x7 x8 x9 x10 x11 x12 x13 x14 x15 x16 x17 x18 x19 x20 x21 x22 x23 x24 x25 x26 x27 x28 x29 x30 x31 x32 x33 x34 x35 x36 x37 x38 x39 x40 x41 x42 x43 x44 x45 x46 x47 x48 x49 x50 x51 x52 x53 x54) → Q x0 x1 x2 x3 x4 x5 x6 x7 x8 x9 x10 x11 x12 x13 x14 x15 x16 x17 x18 x19 x20 x21 x22 x23 x24 x25 x26 x27 x28 x29 x30 x31 x32 x33 x34 x35 x36 x37 x38 x39 x40 x41 x42 x43 x44 x45 x46 x47 x48 x49 x50 x51 x52 x53 x54) → P x0 x1 x2 x3 x4 x5 x6 x7 x8 x9 x10 x11 x12 x13 x14 x15 x16 x17 x18 x19 x20 x21 x22 x23 x24 x25 x26 x27 x28 x29 x30 x31 x32 x33 x34 x35 x36 x37 x38 x39 x40 x41 x42 x43 x44 x45 x46 x47 x48 x49 x50 x51 x52 x53 x54) ?_ h2
  intro x0 x1 x2 x3 x4 x5 x6 x7 x8 x9 x10 x11 x12 x13 x14 x15 x16 x17 x18 x19 x20 x21 x22 x23 x24 x25 x26 x27 x28 x29 x30 x31 x32 x33 x34 x35 x36 x37 x38 x39 x40 x41 x42 x43 x44 x45 x46 x47 x48 x49 x50 x51 x52 x53 x54 ha hl
  refine hP x0 x1 x2 x3 x4 x5 x6 x7 x8 x9 x10 x11 x12 x13 x14 x15 x16 x17 x18 x19 x20 x21 x22 x23 x24 x25 x26 x27 x28 x29 x30 x31 x32 x33 x34 x35 x36 x37 x38 x39 x40 x41 x42 x43 x44 x45 x46 x47 x48 x49 x50 x51 x52 x53 x54 (cj (fun x0 x1 x2 x3 x4 x5 x6 x7 x8 x9 x10 x11 x12 x13 x14 x15 x16 x17 x18 x19 x20 x21 x22 x23 x24 x25 x26 x27 x28 x29 x30 x31 x32 x33 x34 x35 x36 x37 x38 x39 x40 x41 x42 x43 x44 x45 x46 x47 x48 x49 x50 x51 x52 x53 x54 => (∀ Q : α0 → α1 → α2 → α3 → α4 → α5 → α6 → α7 → α8 → α9 → α10 → α11 → α12 → α13 → α14 → α15 → α16 → α17 → α18 → α19 → α20 → α21 → α22 → α23 → α24 → α25 → α26 → α27 → α28 → α29 → α30 → α31 → α32 → α33 → α34 → α35 → α36 → α37 → α38 → α39 → α40 → α41 → α42 → α43 → α44 → α45 → α46 → α47 → α48 → α49 → α50 → α51 → α52 → α53 → α54 → Prop, (∀ x0 x1 x2 x3 x4 x5 x6 x7 x8 x9 x10 x11 x12 x13 x14 x15 x16 x17 x18 x19 x20 x21 x22 x23 x24 x25 x26 x27 x28 x29 x30 x31 x32 x33 x34 x35 x36 x37 x38 x39 x40 x41 x42 x43 x44 x45 x46 x47 x48 x49 x50 x51 x52 x53 x54, F2 Q x0 x1 x2 x3 x4 x5 x6 x7 x8 x9 x10 x11 x12 x13 x14 x15 x16 x17 x18 x19 x20 x21 x22 x23 x24 x25 x26 x27 x28 x29 x30 x31 x32 x33 x34 x35 x36 x37 x38 x39 x40 x41 x42 x43 x44 x45 x46 x47 x48 x49 x50 x51 x52 x53 x54 → Q x0 x1 x2 x3 x4 x5 x6 x7 x8 x9 x10 x11 x12 x13 x14 x15 x16 x17 x18 x19 x20 x21 x22 x23 x24 x25 x26 x27 x28 x29 x30 x31 x32 x33 x34 x35 x36 x37 x38 x39 x40 x41 x42 x43 x44 x45 x46 x47 x48 x49 x50 x51 x52 x53 x54) → Q x0 x1 x2 x3 x4 x5 x6 x7 x8 x9 x10 x11 x12 x13 x14 x15 x16 x17 x18 x19 x20 x21 x22 x23 x24 x25 x26 x27 x28 x29 x30 x31 x32 x33 x34 x35 x36 x37 x38 x39 x40 x41 x42 x43 x44 x45 x46 x47 x48 x49 x50 x51 x52 x53 x54) → P x0 x1 x2 x3 x4 x5 x6 x7 x8 x9 x10 x11 x12 x13 x14 x15 x16 x17 x18 x19 x20 x21 x22 x23 x24 x25 x26 x27 x28 x29 x30 x31 x32 x33 x34 x35 x36 x37 x38 x39 x40 x41 x42 x43 x44 x45 x46 x47 x48 x49 x50 x51 x52 x53 x54) (fun x0 x1 x2 x3 x4 x5 x6 x7 x8 x9 x10 x11 x12 x13 x14 x15 x16 x17 x18 x19 x20 x21 x22 x23 x24 x25 x26 x27 x28 x29 x30 x31 x32 x33 x34 x35 x36 x37 x38 x39 x40 x41 x42 x43 x44 x45 x46 x47 x48 x49 x50 x51 x52 x53 x54 => ∀ Q : α0 → α1 → α2 → α3 → α4 → α5 → α6 → α7 → α8 → α9 → α10 → α11 → α12 → α13 → α14 → α15 → α16 → α17 → α18 → α19 → α20 → α21 → α22 → α23 → α24 → α25 → α26 → α27 → α28 → α29 → α30 → α31 → α32 → α33 → α34 → α35 → α36 → α37 → α38 → α39 → α40 → α41 → α42 → α43 → α44 → α45 → α46 → α47 → α48 → α49 → α50 → α51 → α52 → α53 → α54 → Prop, (∀ x0 x1 x2 x3 x4 x5 x6 x7 x8 x9 x10 x11 x12 x13 x14 x15 x16 x17 x18 x19 x20 x21 x22 x23 x24 x25 x26 x27 x28 x29 x30 x31 x32 x33 x34 x35 x36 x37 x38 x39 x40 x41 x42 x43 x44 x45 x46 x47 x48 x49 x50 x51 x52 x53 x54, F2 Q x0 x1 x2 x3 x4 x5 x6 x7 x8 x9 x10 x11 x12 x13 x14 x15 x16 x17 x18 x19 x20 x21 x22 x23 x24 x25 x26 x27 x28 x29 x30 x31 x32 x33 x34 x35 x36 x37 x38 x39 x40 x41 x42 x43 x44 x45 x46 x47 x48 x49 x50 x51 x52 x53 x54 → Q x0 x1 x2 x3 x4 x5 x6 x7 x8 x9 x10 x11 x12 x13 x14 x15 x16 x17 x18 x19 x20 x21 x22 x23 x24 x25 x26 x27 x28 x29 x30 x31 x32 x33 x34 x35 x36 x37 x38 x39 x40 x41 x42 x43 x44 x45 x46 x47 x48 x49 x50 x51 x52 x53 x54) → Q x0 x1 x2 x3 x4 x5 x6 x7 x8 x9 x10 x11 x12 x13 x14 x15 x16 x17 x18 x19 x20 x21 x22 x23 x24 x25 x26 x27 x28 x29 x30 x31 x32 x33 x34 x35 x36 x37 x38 x39 x40 x41 x42 x43 x44 x45 x46 x47 x48 x49 x50 x51 x52 x53 x54) P (fun _ _ _ _ _ _ _ _ _ _ _ _ _ _ _ _ _ _ _ _ _ _ _ _ _ _ _ _ _ _ _ _ _ _ _ _ _ _ _ _ _ _ _ _ _ _ _ _ _ _ _ _ _ _ _ a b => a b) x0 x1 x2 x3 x4 x5 x6 x7 x8 x9 x10 x11 x12 x13 x14 x15 x16 x17 x18 x19 x20 x21 x22 x23 x24 x25 x26 x27 x28 x29 x30 x31 x32 x33 x34 x35 x36 x37 x38 x39 x40 x41 x42 x43 x44 x45 x46 x47 x48 x49 x50 x51 x52 x53 x54 ha ?_)
  refine hl (fun x0 x1 x2 x3 x4 x5 x6 x7 x8 x9 x10 x11 x12 x13 x14 x15 x16 x17 x18 x19 x20 x21 x22 x23 x24 x25 x26 x27 x28 x29 x30 x31 x32 x33 x34 x35 x36 x37 x38 x39 x40 x41 x42 x43 x44 x45 x46 x47 x48 x49 x50 x51 x52 x53 x54 => F2 (fun x0 x1 x2 x3 x4 x5 x6 x7 x8 x9 x10 x11 x12 x13 x14 x15 x16 x17 x18 x19 x20 x21 x22 x23 x24 x25 x26 x27 x28 x29 x30 x31 x32 x33 x34 x35 x36 x37 x38 x39 x40 x41 x42 x43 x44 x45 x46 x47 x48 x49 x50 x51 x52 x53 x54 => ∀ Q : α0 → α1 → α2 → α3 → α4 → α5 → α6 → α7 → α8 → α9 → α10 → α11 → α12 → α13 → α14 → α15 → α16 → α17 → α18 → α19 → α20 → α21 → α22 → α23 → α24 → α25 → α26 → α27 → α28 → α29 → α30 → α31 → α32 → α33 → α34 → α35 → α36 → α37 → α38 → α39 → α40 → α41 → α42 → α43 → α44 → α45 → α46 → α47 → α48 → α49 → α50 → α51 → α52 → α53 → α54 → Prop, (∀ x0 x1 x2 x3 x4 x5 x6 x7 x8 x9 x10 x11 x12 x13 x14 x15 x16 x17 x18 x19 x20 x21 x22 x23 x24 x25 x26 x27 x28 x29 x30 x31 x32 x33 x34 x35 x36 x37 x38 x39 x40 x41 x42 x43 x44 x45 x46 x47 x48 x49 x50 x51 x52 x53 x54, F2 Q x0 x1 x2 x3 x4 x5 x6 x7 x8 x9 x10 x11 x12 x13 x14 x15 x16 x17 x18 x19 x20 x21 x22 x23 x24 x25 x26 x27 x28 x29 x30 x31 x32 x33 x34 x35 x36 x37 x38 x39 x40 x41 x42 x43 x44 x45 x46 x47 x48 x49 x50 x51 x52 x53 x54 → Q x0 x1 x2 x3 x4 x5 x6 x7 x8 x9 x10 x11 x12 x13 x14 x15 x16 x17 x18 x19 x20 x21 x22 x23 x24 x25 x26 x27 x28 x29 x30 x31 x32 x33 x34 x35 x36 x37 x38 x39 x40 x41 x42 x43 x44 x45 x46 x47 x48 x49 x50 x51 x52 x53 x54) → Q x0 x1 x2 x3 x4 x5 x6 x7 x8 x9 x10 x11 x12 x13 x14 x15 x16 x17 x18 x19 x20 x21 x22 x23 x24 x25 x26 x27 x28 x29 x30 x31 x32 x33 x34 x35 x36 x37 x38 x39 x40 x41 x42 x43 x44 x45 x46 x47 x48 x49 x50 x51 x52 x53 x54) x0 x1 x2 x3 x4 x5 x6 x7 x8 x9 x10 x11 x12 x13 x14 x15 x16 x17 x18 x19 x20 x21 x22 x23 x24 x25 x26 x27 x28 x29 x30 x31 x32 x33 x34 x35 x36 x37 x38 x39 x40 x41 x42 x43 x44 x45 x46 x47 x48 x49 x50 x51 x52 x53 x54) ?_
  intro x0 x1 x2 x3 x4 x5 x6 x7 x8 x9 x10 x11 x12 x13 x14 x15 x16 x17 x18 x19 x20 x21 x22 x23 x24 x25 x26 x27 x28 x29 x30 x31 x32 x33 x34 x35 x36 x37 x38 x39 x40 x41 x42 x43 x44 x45 x46 x47 x48 x49 x50 x51 x52 x53 x54 hb
  refine mn _ _ ?_ x0 x1 x2 x3 x4 x5 x6 x7 x8 x9 x10 x11 x12 x13 x14 x15 x16 x17 x18 x19 x20 x21 x22 x23 x24 x25 x26 x27 x28 x29 x30 x31 x32 x33 x34 x35 x36 x37 x38 x39 x40 x41 x42 x43 x44 x45 x46 x47 x48 x49 x50 x51 x52 x53 x54 hb
  intro x0 x1 x2 x3 x4 x5 x6 x7 x8 x9 x10 x11 x12 x13 x14 x15 x16 x17 x18 x19 x20 x21 x22 x23 x24 x25 x26 x27 x28 x29 x30 x31 x32 x33 x34 x35 x36 x37 x38 x39 x40 x41 x42 x43 x44 x45 x46 x47 x48 x49 x50 x51 x52 x53 x54 hc Q hQ
  exact hQ x0 x1 x2 x3 x4 x5 x6 x7 x8 x9 x10 x11 x12 x13 x14 x15 x16 x17 x18 x19 x20 x21 x22 x23 x24 x25 x26 x27 x28 x29 x30 x31 x32 x33 x34 x35 x36 x37 x38 x39 x40 x41 x42 x43 x44 x45 x46 x47 x48 x49 x50 x51 x52 x53 x54 (mn _ _ (fun _ _ _ _ _ _ _ _ _ _ _ _ _ _ _ _ _ _ _ _ _ _ _ _ _ _ _ _ _ _ _ _ _ _ _ _ _ _ _ _ _ _ _ _ _ _ _ _ _ _ _ _ _ _ _ h => h Q hQ) x0 x1 x2 x3 x4 x5 x6 x7 x8 x9 x10 x11 x12 x13 x14 x15 x16 x17 x18 x19 x20 x21 x22 x23 x24 x25 x26 x27 x28 x29 x30 x31 x32 x33 x34 x35 x36 x37 x38 x39 x40 x41 x42 x43 x44 x45 x46 x47 x48 x49 x50 x51 x52 x53 x54 hc)

set_option maxRecDepth 40000 in
theorem cj_q_wx_X9_put_3 {ta_tape : Nat → Int32} {tf_length : Int32} {x1 : Int32} {x2 : Int32} {post_1 post_2 post_3 : (Nat → Int32) → (Int32) → Prop} (h_post : ∀ x0 x1, post_1 x0 x1 → post_2 x0 x1 → post_3 x0 x1) (h1 : q_wx_X9_put_3 ta_tape tf_length x1 x2 post_1) (h2 : q_wx_X9_put_3 ta_tape tf_length x1 x2 post_2) : q_wx_X9_put_3 ta_tape tf_length x1 x2 post_3 := lfp_3 h1 h2 (fun A B C hsk1 _ _ _ hak1 hck1 => ⟨fun c2 => h_post _ _ (hak1.1 c2) (hck1.1 c2), fun c3 => ⟨fun c4 => h_post _ _ ((hak1.2 c3).1 c4) ((hck1.2 c3).1 c4), fun c5 => fun v6 e7 => ⟨(((hak1.2 c3).2 c5) v6 e7).1, fun v8 e9 => fun v10 e11 => fun v12 e13 => hsk1 _ _ _ ((((((hak1.2 c3).2 c5) v6 e7).2 v8 e9) v10 e11) v12 e13) ((((((hck1.2 c3).2 c5) v6 e7).2 v8 e9) v10 e11) v12 e13)⟩⟩⟩) (fun A B hqk1 _ _ _ hbk1 => ⟨fun c14 => (hbk1.1 c14), fun c15 => ⟨fun c16 => ((hbk1.2 c15).1 c16), fun c17 => fun v18 e19 => ⟨(((hbk1.2 c15).2 c17) v18 e19).1, fun v20 e21 => fun v22 e23 => fun v24 e25 => hqk1 _ _ _ ((((((hbk1.2 c15).2 c17) v18 e19).2 v20 e21) v22 e23) v24 e25)⟩⟩⟩)
set_option maxRecDepth 40000 in
theorem cj_q_wx_X9_put_0 {ta_tape : Nat → Int32} {tf_length : Int32} {x1 : Int32} {post_1 post_2 post_3 : (Nat → Int32) → (Int32) → Prop} (h_post : ∀ x0 x1, post_1 x0 x1 → post_2 x0 x1 → post_3 x0 x1) (h1 : q_wx_X9_put_0 ta_tape tf_length x1 post_1) (h2 : q_wx_X9_put_0 ta_tape tf_length x1 post_2) : q_wx_X9_put_0 ta_tape tf_length x1 post_3 := cj_q_wx_X9_put_3 h_post h1 h2
set_option maxRecDepth 40000 in
theorem cj_q_wx_X10_feed_0 {ta_tape : Nat → Int32} {tf_length : Int32} {x1 : Int32} {x2 : Int32} {x3 : Int32} {x4 : Int32} {x5 : Int32} {post_1 post_2 post_3 : Int32 → (Nat → Int32) → (Int32) → Prop} (h_post : ∀ x0 x1 x2, post_1 x0 x1 x2 → post_2 x0 x1 x2 → post_3 x0 x1 x2) (h1 : q_wx_X10_feed_0 ta_tape tf_length x1 x2 x3 x4 x5 post_1) (h2 : q_wx_X10_feed_0 ta_tape tf_length x1 x2 x3 x4 x5 post_2) : q_wx_X10_feed_0 ta_tape tf_length x1 x2 x3 x4 x5 post_3 := ⟨fun c1 => cj_q_wx_X9_put_0 (fun _ _ h2 h3 => cj_q_wx_X9_put_0 (fun _ _ h4 h5 => cj_q_wx_X9_put_0 (fun _ _ h6 h7 => cj_q_wx_X9_put_0 (fun _ _ h8 h9 => cj_q_wx_X9_put_0 (fun _ _ h10 h11 => h_post _ _ _ h10 h11) h8 h9) h6 h7) h4 h5) h2 h3) (h1.1 c1) (h2.1 c1), fun c12 => h_post _ _ _ (h1.2 c12) (h2.2 c12)⟩
set_option maxRecDepth 40000 in
theorem cj_q_wr_X4_advance_35 {P5_1 P5_2 P5_3 : Int32 → Prop} {a_tape : Nat → Int32} {f_length : Int32} {f_behind : Int32} {f_kind : Int32} {f_first : Int32} {f_value : Int32} {x1 : Int32} {post_1 post_2 post_3 : (Int32) → (Int32) → (Int32) → (Int32) → Prop} (h_P5 : ∀ x0, P5_1 x0 → P5_2 x0 → P5_3 x0) (h_post : ∀ x0 x1 x2 x3, post_1 x0 x1 x2 x3 → post_2 x0 x1 x2 x3 → post_3 x0 x1 x2 x3) (h1 : q_wr_X4_advance_35 P5_1 a_tape f_length f_behind f_kind f_first f_value x1 post_1) (h2 : q_wr_X4_advance_35 P5_2 a_tape f_length f_behind f_kind f_first f_value x1 post_2) : q_wr_X4_advance_35 P5_3 a_tape f_length f_behind f_kind f_first f_value x1 post_3 := fun v1 e2 => h_P5 _ (h1 v1 e2) (h2 v1 e2)
set_option maxRecDepth 40000 in
theorem cj_q_wr_X4_advance_149 {a_tape : Nat → Int32} {f_length : Int32} {f_behind : Int32} {f_kind : Int32} {f_first : Int32} {f_value : Int32} {x1 : Int32} {post_1 post_2 post_3 : (Int32) → (Int32) → (Int32) → (Int32) → Prop} (h_post : ∀ x0 x1 x2 x3, post_1 x0 x1 x2 x3 → post_2 x0 x1 x2 x3 → post_3 x0 x1 x2 x3) (h1 : q_wr_X4_advance_149 a_tape f_length f_behind f_kind f_first f_value x1 post_1) (h2 : q_wr_X4_advance_149 a_tape f_length f_behind f_kind f_first f_value x1 post_2) : q_wr_X4_advance_149 a_tape f_length f_behind f_kind f_first f_value x1 post_3 := h_post _ _ _ _ h1 h2
set_option maxRecDepth 40000 in
theorem cj_q_wr_X4_advance_143 {a_tape : Nat → Int32} {f_length : Int32} {f_behind : Int32} {f_kind : Int32} {f_first : Int32} {f_value : Int32} {x1 : Int32} {y0 : Int32} {post_1 post_2 post_3 : (Int32) → (Int32) → (Int32) → (Int32) → Prop} (h_post : ∀ x0 x1 x2 x3, post_1 x0 x1 x2 x3 → post_2 x0 x1 x2 x3 → post_3 x0 x1 x2 x3) (h1 : q_wr_X4_advance_143 a_tape f_length f_behind f_kind f_first f_value x1 y0 post_1) (h2 : q_wr_X4_advance_143 a_tape f_length f_behind f_kind f_first f_value x1 y0 post_2) : q_wr_X4_advance_143 a_tape f_length f_behind f_kind f_first f_value x1 y0 post_3 := fun v1 e2 => cj_q_wr_X4_advance_149 h_post (h1 v1 e2) (h2 v1 e2)
set_option maxRecDepth 40000 in
theorem cj_q_z_X4_isLetter_0 {x0 : Int32} {post_1 post_2 post_3 : Int32 → Prop} (h_post : ∀ x0, post_1 x0 → post_2 x0 → post_3 x0) (h1 : q_z_X4_isLetter_0 x0 post_1) (h2 : q_z_X4_isLetter_0 x0 post_2) : q_z_X4_isLetter_0 x0 post_3 := ⟨fun c1 => h_post _ (h1.1 c1) (h2.1 c1), fun c2 => ⟨fun c3 => h_post _ ((h1.2 c2).1 c3) ((h2.2 c2).1 c3), fun c4 => h_post _ ((h1.2 c2).2 c4) ((h2.2 c2).2 c4)⟩⟩
set_option maxRecDepth 40000 in
theorem cj_q_wr_X4_advance_79 {a_tape : Nat → Int32} {f_length : Int32} {f_behind : Int32} {f_kind : Int32} {f_first : Int32} {f_value : Int32} {x1 : Int32} {post_1 post_2 post_3 : (Int32) → (Int32) → (Int32) → (Int32) → Prop} (h_post : ∀ x0 x1 x2 x3, post_1 x0 x1 x2 x3 → post_2 x0 x1 x2 x3 → post_3 x0 x1 x2 x3) (h1 : q_wr_X4_advance_79 a_tape f_length f_behind f_kind f_first f_value x1 post_1) (h2 : q_wr_X4_advance_79 a_tape f_length f_behind f_kind f_first f_value x1 post_2) : q_wr_X4_advance_79 a_tape f_length f_behind f_kind f_first f_value x1 post_3 := lfp_1 h1 h2 (fun A B C hsk1 _ hak1 hck1 => ⟨fun c2 => cj_q_wr_X4_advance_149 h_post (hak1.1 c2) (hck1.1 c2), fun c3 => ⟨(hak1.2 c3).1, cj_q_z_X4_isLetter_0 (fun _ h4 h5 => ⟨fun c6 => cj_q_wr_X4_advance_149 h_post (h4.1 c6) (h5.1 c6), fun c7 => fun v8 e9 => hsk1 _ ((h4.2 c7) v8 e9) ((h5.2 c7) v8 e9)⟩) (hak1.2 c3).2 (hck1.2 c3).2⟩⟩) (fun A B hqk1 _ hbk1 => ⟨fun c10 => cj_q_wr_X4_advance_149 (fun _ _ _ _ h _ => h) (hbk1.1 c10) (hbk1.1 c10), fun c11 => ⟨(hbk1.2 c11).1, cj_q_z_X4_isLetter_0 (fun _ h12 h13 => ⟨fun c14 => cj_q_wr_X4_advance_149 (fun _ _ _ _ h _ => h) (h12.1 c14) (h13.1 c14), fun c15 => fun v16 e17 => hqk1 _ ((h12.2 c15) v16 e17)⟩) (hbk1.2 c11).2 (hbk1.2 c11).2⟩⟩)
set_option maxRecDepth 40000 in
theorem cj_q_wr_X4_readNumber_59 {P7_1 P7_2 P7_3 : Int32 → (Int32) → Prop} {a_tape : Nat → Int32} {f_length : Int32} {f_kind : Int32} {f_value : Int32} {x1 : Int32} {x2 : Int32} {y0 : Int32} {post_1 post_2 post_3 : Int32 → (Int32) → (Int32) → Prop} (h_P7 : ∀ x0 x1, P7_1 x0 x1 → P7_2 x0 x1 → P7_3 x0 x1) (h_post : ∀ x0 x1 x2, post_1 x0 x1 x2 → post_2 x0 x1 x2 → post_3 x0 x1 x2) (h1 : q_wr_X4_readNumber_59 P7_1 a_tape f_length f_kind f_value x1 x2 y0 post_1) (h2 : q_wr_X4_readNumber_59 P7_2 a_tape f_length f_kind f_value x1 x2 y0 post_2) : q_wr_X4_readNumber_59 P7_3 a_tape f_length f_kind f_value x1 x2 y0 post_3 := fun v1 e2 => h_P7 _ _ (h1 v1 e2) (h2 v1 e2)
set_option maxRecDepth 40000 in
theorem cj_q_wr_X4_readNumber_81 {a_tape : Nat → Int32} {f_length : Int32} {f_kind : Int32} {f_value : Int32} {x2 : Int32} {y0 : Int32} {post_1 post_2 post_3 : Int32 → (Int32) → (Int32) → Prop} (h_post : ∀ x0 x1 x2, post_1 x0 x1 x2 → post_2 x0 x1 x2 → post_3 x0 x1 x2) (h1 : q_wr_X4_readNumber_81 a_tape f_length f_kind f_value x2 y0 post_1) (h2 : q_wr_X4_readNumber_81 a_tape f_length f_kind f_value x2 y0 post_2) : q_wr_X4_readNumber_81 a_tape f_length f_kind f_value x2 y0 post_3 := h_post _ _ _ h1 h2
set_option maxRecDepth 40000 in
theorem cj_q_wr_X4_readNumber_68 {a_tape : Nat → Int32} {f_length : Int32} {f_kind : Int32} {f_value : Int32} {x1 : Int32} {x2 : Int32} {post_1 post_2 post_3 : Int32 → (Int32) → (Int32) → Prop} (h_post : ∀ x0 x1 x2, post_1 x0 x1 x2 → post_2 x0 x1 x2 → post_3 x0 x1 x2) (h1 : q_wr_X4_readNumber_68 a_tape f_length f_kind f_value x1 x2 post_1) (h2 : q_wr_X4_readNumber_68 a_tape f_length f_kind f_value x1 x2 post_2) : q_wr_X4_readNumber_68 a_tape f_length f_kind f_value x1 x2 post_3 := ⟨fun c1 => cj_q_wr_X4_readNumber_81 h_post (h1.1 c1) (h2.1 c1), fun c2 => cj_q_wr_X4_readNumber_81 h_post (h1.2 c2) (h2.2 c2)⟩
set_option maxRecDepth 40000 in
theorem cj_q_z_X4_isDigit_0 {x0 : Int32} {post_1 post_2 post_3 : Int32 → Prop} (h_post : ∀ x0, post_1 x0 → post_2 x0 → post_3 x0) (h1 : q_z_X4_isDigit_0 x0 post_1) (h2 : q_z_X4_isDigit_0 x0 post_2) : q_z_X4_isDigit_0 x0 post_3 := ⟨fun c1 => h_post _ (h1.1 c1) (h2.1 c1), fun c2 => ⟨fun c3 => h_post _ ((h1.2 c2).1 c3) ((h2.2 c2).1 c3), fun c4 => h_post _ ((h1.2 c2).2 c4) ((h2.2 c2).2 c4)⟩⟩
set_option maxRecDepth 40000 in
theorem cj_q_wr_X4_readNumber_7 {a_tape : Nat → Int32} {f_length : Int32} {f_kind : Int32} {f_value : Int32} {x1 : Int32} {x2 : Int32} {post_1 post_2 post_3 : Int32 → (Int32) → (Int32) → Prop} (h_post : ∀ x0 x1 x2, post_1 x0 x1 x2 → post_2 x0 x1 x2 → post_3 x0 x1 x2) (h1 : q_wr_X4_readNumber_7 a_tape f_length f_kind f_value x1 x2 post_1) (h2 : q_wr_X4_readNumber_7 a_tape f_length f_kind f_value x1 x2 post_2) : q_wr_X4_readNumber_7 a_tape f_length f_kind f_value x1 x2 post_3 := lfp_2 h1 h2 (fun A B C hsk1 _ _ hak1 hck1 => ⟨fun c2 => cj_q_wr_X4_readNumber_68 h_post (hak1.1 c2) (hck1.1 c2), fun c3 => ⟨(hak1.2 c3).1, cj_q_z_X4_isDigit_0 (fun _ h4 h5 => ⟨fun c6 => cj_q_wr_X4_readNumber_68 h_post (h4.1 c6) (h5.1 c6), fun c7 => ⟨fun c8 => cj_q_wr_X4_readNumber_59 hsk1 h_post ((h4.2 c7).1 c8) ((h5.2 c7).1 c8), fun c9 => ⟨((h4.2 c7).2 c9).1, cj_q_wr_X4_readNumber_59 hsk1 h_post ((h4.2 c7).2 c9).2 ((h5.2 c7).2 c9).2⟩⟩⟩) (hak1.2 c3).2 (hck1.2 c3).2⟩⟩) (fun A B hqk1 _ _ hbk1 => ⟨fun c10 => cj_q_wr_X4_readNumber_68 (fun _ _ _ h _ => h) (hbk1.1 c10) (hbk1.1 c10), fun c11 => ⟨(hbk1.2 c11).1, cj_q_z_X4_isDigit_0 (fun _ h12 h13 => ⟨fun c14 => cj_q_wr_X4_readNumber_68 (fun _ _ _ h _ => h) (h12.1 c14) (h13.1 c14), fun c15 => ⟨fun c16 => cj_q_wr_X4_readNumber_59 (fun _ _ h _ => hqk1 _ _ h) (fun _ _ _ h _ => h) ((h12.2 c15).1 c16) ((h13.2 c15).1 c16), fun c17 => ⟨((h12.2 c15).2 c17).1, cj_q_wr_X4_readNumber_59 (fun _ _ h _ => hqk1 _ _ h) (fun _ _ _ h _ => h) ((h12.2 c15).2 c17).2 ((h13.2 c15).2 c17).2⟩⟩⟩) (hbk1.2 c11).2 (hbk1.2 c11).2⟩⟩)
set_option maxRecDepth 40000 in
theorem cj_q_wr_X4_readNumber_0 {a_tape : Nat → Int32} {f_length : Int32} {f_kind : Int32} {f_value : Int32} {x1 : Int32} {post_1 post_2 post_3 : Int32 → (Int32) → (Int32) → Prop} (h_post : ∀ x0 x1 x2, post_1 x0 x1 x2 → post_2 x0 x1 x2 → post_3 x0 x1 x2) (h1 : q_wr_X4_readNumber_0 a_tape f_length f_kind f_value x1 post_1) (h2 : q_wr_X4_readNumber_0 a_tape f_length f_kind f_value x1 post_2) : q_wr_X4_readNumber_0 a_tape f_length f_kind f_value x1 post_3 := cj_q_wr_X4_readNumber_7 h_post h1 h2
set_option maxRecDepth 40000 in
theorem cj_q_wr_X4_advance_41 {a_tape : Nat → Int32} {f_length : Int32} {f_behind : Int32} {f_kind : Int32} {f_first : Int32} {f_value : Int32} {x1 : Int32} {post_1 post_2 post_3 : (Int32) → (Int32) → (Int32) → (Int32) → Prop} (h_post : ∀ x0 x1 x2 x3, post_1 x0 x1 x2 x3 → post_2 x0 x1 x2 x3 → post_3 x0 x1 x2 x3) (h1 : q_wr_X4_advance_41 a_tape f_length f_behind f_kind f_first f_value x1 post_1) (h2 : q_wr_X4_advance_41 a_tape f_length f_behind f_kind f_first f_value x1 post_2) : q_wr_X4_advance_41 a_tape f_length f_behind f_kind f_first f_value x1 post_3 := ⟨fun c1 => ⟨(h1.1 c1).1, cj_q_z_X4_isLetter_0 (fun _ h2 h3 => ⟨fun c4 => ⟨(h2.1 c4).1, cj_q_z_X4_isDigit_0 (fun _ h5 h6 => ⟨fun c7 => ⟨(h5.1 c7).1, ⟨fun c8 => cj_q_wr_X4_advance_143 h_post ((h5.1 c7).2.1 c8) ((h6.1 c7).2.1 c8), fun c9 => cj_q_wr_X4_advance_143 h_post ((h5.1 c7).2.2 c9) ((h6.1 c7).2.2 c9)⟩⟩, fun c10 => cj_q_wr_X4_readNumber_0 (fun _ _ _ h11 h12 => cj_q_wr_X4_advance_149 h_post h11 h12) (h5.2 c10) (h6.2 c10)⟩) (h2.1 c4).2 (h3.1 c4).2⟩, fun c13 => cj_q_wr_X4_advance_79 h_post (h2.2 c13) (h3.2 c13)⟩) (h1.1 c1).2 (h2.1 c1).2⟩, fun c14 => cj_q_wr_X4_advance_149 h_post (h1.2 c14) (h2.2 c14)⟩
set_option maxRecDepth 40000 in
theorem cj_q_wr_X4_advance_5 {a_tape : Nat → Int32} {f_length : Int32} {f_behind : Int32} {f_kind : Int32} {f_first : Int32} {f_value : Int32} {x1 : Int32} {post_1 post_2 post_3 : (Int32) → (Int32) → (Int32) → (Int32) → Prop} (h_post : ∀ x0 x1 x2 x3, post_1 x0 x1 x2 x3 → post_2 x0 x1 x2 x3 → post_3 x0 x1 x2 x3) (h1 : q_wr_X4_advance_5 a_tape f_length f_behind f_kind f_first f_value x1 post_1) (h2 : q_wr_X4_advance_5 a_tape f_length f_behind f_kind f_first f_value x1 post_2) : q_wr_X4_advance_5 a_tape f_length f_behind f_kind f_first f_value x1 post_3 := lfp_1 h1 h2 (fun A B C hsk1 _ hak1 hck1 => ⟨fun c2 => cj_q_wr_X4_advance_41 h_post (hak1.1 c2) (hck1.1 c2), fun c3 => ⟨(hak1.2 c3).1, ⟨fun c4 => cj_q_wr_X4_advance_35 hsk1 h_post ((hak1.2 c3).2.1 c4) ((hck1.2 c3).2.1 c4), fun c5 => ⟨((hak1.2 c3).2.2 c5).1, ⟨fun c6 => cj_q_wr_X4_advance_41 h_post (((hak1.2 c3).2.2 c5).2.1 c6) (((hck1.2 c3).2.2 c5).2.1 c6), fun c7 => cj_q_wr_X4_advance_35 hsk1 h_post (((hak1.2 c3).2.2 c5).2.2 c7) (((hck1.2 c3).2.2 c5).2.2 c7)⟩⟩⟩⟩⟩) (fun A B hqk1 _ hbk1 => ⟨fun c8 => cj_q_wr_X4_advance_41 (fun _ _ _ _ h _ => h) (hbk1.1 c8) (hbk1.1 c8), fun c9 => ⟨(hbk1.2 c9).1, ⟨fun c10 => cj_q_wr_X4_advance_35 (fun _ h _ => hqk1 _ h) (fun _ _ _ _ h _ => h) ((hbk1.2 c9).2.1 c10) ((hbk1.2 c9).2.1 c10), fun c11 => ⟨((hbk1.2 c9).2.2 c11).1, ⟨fun c12 => cj_q_wr_X4_advance_41 (fun _ _ _ _ h _ => h) (((hbk1.2 c9).2.2 c11).2.1 c12) (((hbk1.2 c9).2.2 c11).2.1 c12), fun c13 => cj_q_wr_X4_advance_35 (fun _ h _ => hqk1 _ h) (fun _ _ _ _ h _ => h) (((hbk1.2 c9).2.2 c11).2.2 c13) (((hbk1.2 c9).2.2 c11).2.2 c13)⟩⟩⟩⟩⟩)
set_option maxRecDepth 40000 in
theorem cj_q_wr_X4_advance_0 {a_tape : Nat → Int32} {f_length : Int32} {f_behind : Int32} {f_kind : Int32} {f_first : Int32} {f_value : Int32} {post_1 post_2 post_3 : (Int32) → (Int32) → (Int32) → (Int32) → Prop} (h_post : ∀ x0 x1 x2 x3, post_1 x0 x1 x2 x3 → post_2 x0 x1 x2 x3 → post_3 x0 x1 x2 x3) (h1 : q_wr_X4_advance_0 a_tape f_length f_behind f_kind f_first f_value post_1) (h2 : q_wr_X4_advance_0 a_tape f_length f_behind f_kind f_first f_value post_2) : q_wr_X4_advance_0 a_tape f_length f_behind f_kind f_first f_value post_3 := cj_q_wr_X4_advance_5 h_post h1 h2
set_option maxRecDepth 40000 in
theorem cj_q_wr_J7_fill_53178_3_5 {la_ladders : Nat → Int32} {x1 : Int32} {x2 : Int32} {x3 : Int32} {post_1 post_2 post_3 : (Nat → Int32) → Prop} (h_post : ∀ x0, post_1 x0 → post_2 x0 → post_3 x0) (h1 : q_wr_J7_fill_53178_3_5 la_ladders x1 x2 x3 post_1) (h2 : q_wr_J7_fill_53178_3_5 la_ladders x1 x2 x3 post_2) : q_wr_J7_fill_53178_3_5 la_ladders x1 x2 x3 post_3 := lfp_2 h1 h2 (fun A B C hsk1 _ _ hak1 hck1 => ⟨fun c2 => h_post _ (hak1.1 c2) (hck1.1 c2), fun c3 => ⟨(hak1.2 c3).1, fun v4 e5 => fun v6 e7 => hsk1 _ _ (((hak1.2 c3).2 v4 e5) v6 e7) (((hck1.2 c3).2 v4 e5) v6 e7)⟩⟩) (fun A B hqk1 _ _ hbk1 => ⟨fun c8 => (hbk1.1 c8), fun c9 => ⟨(hbk1.2 c9).1, fun v10 e11 => fun v12 e13 => hqk1 _ _ (((hbk1.2 c9).2 v10 e11) v12 e13)⟩⟩)
set_option maxRecDepth 40000 in
theorem cj_q_wr_J7_fill_53178_3_0 {la_ladders : Nat → Int32} {x1 : Int32} {post_1 post_2 post_3 : (Nat → Int32) → Prop} (h_post : ∀ x0, post_1 x0 → post_2 x0 → post_3 x0) (h1 : q_wr_J7_fill_53178_3_0 la_ladders x1 post_1) (h2 : q_wr_J7_fill_53178_3_0 la_ladders x1 post_2) : q_wr_J7_fill_53178_3_0 la_ladders x1 post_3 := cj_q_wr_J7_fill_53178_3_5 h_post h1 h2
set_option maxRecDepth 40000 in
theorem cj_q_wr_J7_fill_53178_4_5 {la_minutes : Nat → Int32} {x1 : Int32} {x2 : Int32} {x3 : Int32} {post_1 post_2 post_3 : (Nat → Int32) → Prop} (h_post : ∀ x0, post_1 x0 → post_2 x0 → post_3 x0) (h1 : q_wr_J7_fill_53178_4_5 la_minutes x1 x2 x3 post_1) (h2 : q_wr_J7_fill_53178_4_5 la_minutes x1 x2 x3 post_2) : q_wr_J7_fill_53178_4_5 la_minutes x1 x2 x3 post_3 := lfp_2 h1 h2 (fun A B C hsk1 _ _ hak1 hck1 => ⟨fun c2 => h_post _ (hak1.1 c2) (hck1.1 c2), fun c3 => ⟨(hak1.2 c3).1, fun v4 e5 => fun v6 e7 => hsk1 _ _ (((hak1.2 c3).2 v4 e5) v6 e7) (((hck1.2 c3).2 v4 e5) v6 e7)⟩⟩) (fun A B hqk1 _ _ hbk1 => ⟨fun c8 => (hbk1.1 c8), fun c9 => ⟨(hbk1.2 c9).1, fun v10 e11 => fun v12 e13 => hqk1 _ _ (((hbk1.2 c9).2 v10 e11) v12 e13)⟩⟩)
set_option maxRecDepth 40000 in
theorem cj_q_wr_J7_fill_53178_4_0 {la_minutes : Nat → Int32} {x1 : Int32} {post_1 post_2 post_3 : (Nat → Int32) → Prop} (h_post : ∀ x0, post_1 x0 → post_2 x0 → post_3 x0) (h1 : q_wr_J7_fill_53178_4_0 la_minutes x1 post_1) (h2 : q_wr_J7_fill_53178_4_0 la_minutes x1 post_2) : q_wr_J7_fill_53178_4_0 la_minutes x1 post_3 := cj_q_wr_J7_fill_53178_4_5 h_post h1 h2
set_option maxRecDepth 40000 in
theorem cj_q_wr_J7_fill_53178_9_5 {la_known : Nat → Int32} {x1 : Int32} {x2 : Int32} {x3 : Int32} {post_1 post_2 post_3 : (Nat → Int32) → Prop} (h_post : ∀ x0, post_1 x0 → post_2 x0 → post_3 x0) (h1 : q_wr_J7_fill_53178_9_5 la_known x1 x2 x3 post_1) (h2 : q_wr_J7_fill_53178_9_5 la_known x1 x2 x3 post_2) : q_wr_J7_fill_53178_9_5 la_known x1 x2 x3 post_3 := lfp_2 h1 h2 (fun A B C hsk1 _ _ hak1 hck1 => ⟨fun c2 => h_post _ (hak1.1 c2) (hck1.1 c2), fun c3 => ⟨(hak1.2 c3).1, fun v4 e5 => fun v6 e7 => hsk1 _ _ (((hak1.2 c3).2 v4 e5) v6 e7) (((hck1.2 c3).2 v4 e5) v6 e7)⟩⟩) (fun A B hqk1 _ _ hbk1 => ⟨fun c8 => (hbk1.1 c8), fun c9 => ⟨(hbk1.2 c9).1, fun v10 e11 => fun v12 e13 => hqk1 _ _ (((hbk1.2 c9).2 v10 e11) v12 e13)⟩⟩)
set_option maxRecDepth 40000 in
theorem cj_q_wr_J7_fill_53178_9_0 {la_known : Nat → Int32} {x1 : Int32} {post_1 post_2 post_3 : (Nat → Int32) → Prop} (h_post : ∀ x0, post_1 x0 → post_2 x0 → post_3 x0) (h1 : q_wr_J7_fill_53178_9_0 la_known x1 post_1) (h2 : q_wr_J7_fill_53178_9_0 la_known x1 post_2) : q_wr_J7_fill_53178_9_0 la_known x1 post_3 := cj_q_wr_J7_fill_53178_9_5 h_post h1 h2
set_option maxRecDepth 40000 in
theorem cj_q_wr_X2_clear_0 {lf_huts : Int32} {lf_singers : Int32} {lf_villages : Int32} {lf_dams : Int32} {lf_echoes : Int32} {lf_deep : Int32} {lf_slide : Int32} {la_ladders : Nat → Int32} {la_minutes : Nat → Int32} {la_known : Nat → Int32} {post_1 post_2 post_3 : (Int32) → (Int32) → (Int32) → (Int32) → (Int32) → (Int32) → (Int32) → (Nat → Int32) → (Nat → Int32) → (Nat → Int32) → Prop} (h_post : ∀ x0 x1 x2 x3 x4 x5 x6 x7 x8 x9, post_1 x0 x1 x2 x3 x4 x5 x6 x7 x8 x9 → post_2 x0 x1 x2 x3 x4 x5 x6 x7 x8 x9 → post_3 x0 x1 x2 x3 x4 x5 x6 x7 x8 x9) (h1 : q_wr_X2_clear_0 lf_huts lf_singers lf_villages lf_dams lf_echoes lf_deep lf_slide la_ladders la_minutes la_known post_1) (h2 : q_wr_X2_clear_0 lf_huts lf_singers lf_villages lf_dams lf_echoes lf_deep lf_slide la_ladders la_minutes la_known post_2) : q_wr_X2_clear_0 lf_huts lf_singers lf_villages lf_dams lf_echoes lf_deep lf_slide la_ladders la_minutes la_known post_3 := cj_q_wr_J7_fill_53178_3_0 (fun _ h1 h2 => cj_q_wr_J7_fill_53178_4_0 (fun _ h3 h4 => cj_q_wr_J7_fill_53178_9_0 (fun _ h5 h6 => h_post _ _ _ _ _ _ _ _ _ _ h5 h6) h3 h4) h1 h2) h1 h2
set_option maxRecDepth 40000 in
theorem cj_q_wr_X4_clearDraft_0 {lf_huts : Int32} {lf_singers : Int32} {lf_villages : Int32} {lf_dams : Int32} {lf_echoes : Int32} {lf_deep : Int32} {lf_slide : Int32} {la_ladders : Nat → Int32} {la_minutes : Nat → Int32} {la_known : Nat → Int32} {vf_deeds : Int32} {sf_facts : Int32} {cf_voices : Int32} {cf_step : Int32} {f_hutsToldOf : Int32} {f_singersToldOf : Int32} {x1 : Int32} {post_1 post_2 post_3 : (Int32) → (Int32) → (Int32) → (Int32) → (Int32) → (Int32) → (Int32) → (Nat → Int32) → (Nat → Int32) → (Nat → Int32) → (Int32) → (Int32) → (Int32) → (Int32) → (Int32) → (Int32) → Prop} (h_post : ∀ x0 x1 x2 x3 x4 x5 x6 x7 x8 x9 x10 x11 x12 x13 x14 x15, post_1 x0 x1 x2 x3 x4 x5 x6 x7 x8 x9 x10 x11 x12 x13 x14 x15 → post_2 x0 x1 x2 x3 x4 x5 x6 x7 x8 x9 x10 x11 x12 x13 x14 x15 → post_3 x0 x1 x2 x3 x4 x5 x6 x7 x8 x9 x10 x11 x12 x13 x14 x15) (h1 : q_wr_X4_clearDraft_0 lf_huts lf_singers lf_villages lf_dams lf_echoes lf_deep lf_slide la_ladders la_minutes la_known vf_deeds sf_facts cf_voices cf_step f_hutsToldOf f_singersToldOf x1 post_1) (h2 : q_wr_X4_clearDraft_0 lf_huts lf_singers lf_villages lf_dams lf_echoes lf_deep lf_slide la_ladders la_minutes la_known vf_deeds sf_facts cf_voices cf_step f_hutsToldOf f_singersToldOf x1 post_2) : q_wr_X4_clearDraft_0 lf_huts lf_singers lf_villages lf_dams lf_echoes lf_deep lf_slide la_ladders la_minutes la_known vf_deeds sf_facts cf_voices cf_step f_hutsToldOf f_singersToldOf x1 post_3 := ⟨fun c1 => ⟨fun c2 => ⟨fun c3 => h_post _ _ _ _ _ _ _ _ _ _ _ _ _ _ _ _ (((h1.1 c1).1 c2).1 c3) (((h2.1 c1).1 c2).1 c3), fun c4 => h_post _ _ _ _ _ _ _ _ _ _ _ _ _ _ _ _ (((h1.1 c1).1 c2).2 c4) (((h2.1 c1).1 c2).2 c4)⟩, fun c5 => h_post _ _ _ _ _ _ _ _ _ _ _ _ _ _ _ _ ((h1.1 c1).2 c5) ((h2.1 c1).2 c5)⟩, fun c6 => cj_q_wr_X2_clear_0 (fun _ _ _ _ _ _ _ _ _ _ h7 h8 => h_post _ _ _ _ _ _ _ _ _ _ _ _ _ _ _ _ h7 h8) (h1.2 c6) (h2.2 c6)⟩
set_option maxRecDepth 40000 in
theorem cj_q_wr_X4_isFull_173 {lf_huts : Int32} {lf_singers : Int32} {lf_echoes : Int32} {vf_deeds : Int32} {sf_facts : Int32} {cf_voices : Int32} {post_1 post_2 post_3 : Int32 → Prop} (h_post : ∀ x0, post_1 x0 → post_2 x0 → post_3 x0) (h1 : q_wr_X4_isFull_173 lf_huts lf_singers lf_echoes vf_deeds sf_facts cf_voices post_1) (h2 : q_wr_X4_isFull_173 lf_huts lf_singers lf_echoes vf_deeds sf_facts cf_voices post_2) : q_wr_X4_isFull_173 lf_huts lf_singers lf_echoes vf_deeds sf_facts cf_voices post_3 := ⟨fun c1 => h_post _ (h1.1 c1) (h2.1 c1), fun c2 => h_post _ (h1.2 c2) (h2.2 c2)⟩
set_option maxRecDepth 40000 in
theorem cj_q_wr_X4_isFull_30 {lf_huts : Int32} {lf_singers : Int32} {lf_echoes : Int32} {vf_deeds : Int32} {sf_facts : Int32} {cf_voices : Int32} {x1 : Int32} {post_1 post_2 post_3 : Int32 → Prop} (h_post : ∀ x0, post_1 x0 → post_2 x0 → post_3 x0) (h1 : q_wr_X4_isFull_30 lf_huts lf_singers lf_echoes vf_deeds sf_facts cf_voices x1 post_1) (h2 : q_wr_X4_isFull_30 lf_huts lf_singers lf_echoes vf_deeds sf_facts cf_voices x1 post_2) : q_wr_X4_isFull_30 lf_huts lf_singers lf_echoes vf_deeds sf_facts cf_voices x1 post_3 := ⟨fun c1 => h_post _ (h1.1 c1) (h2.1 c1), fun c2 => ⟨fun c3 => h_post _ ((h1.2.1 c2).1 c3) ((h2.2.1 c2).1 c3), fun c4 => h_post _ ((h1.2.1 c2).2 c4) ((h2.2.1 c2).2 c4)⟩, fun c5 => h_post _ (h1.2.2.1 c5) (h2.2.2.1 c5), fun c6 => h_post _ (h1.2.2.2.1 c6) (h2.2.2.2.1 c6), fun c7 => h_post _ (h1.2.2.2.2.1 c7) (h2.2.2.2.2.1 c7), fun c8 => h_post _ (h1.2.2.2.2.2.1 c8) (h2.2.2.2.2.2.1 c8), fun c9 => h_post _ (h1.2.2.2.2.2.2.1 c9) (h2.2.2.2.2.2.2.1 c9), fun c10 => ⟨fun c11 => h_post _ ((h1.2.2.2.2.2.2.2.1 c10).1 c11) ((h2.2.2.2.2.2.2.2.1 c10).1 c11), fun c12 => h_post _ ((h1.2.2.2.2.2.2.2.1 c10).2 c12) ((h2.2.2.2.2.2.2.2.1 c10).2 c12)⟩, fun c13 => h_post _ (h1.2.2.2.2.2.2.2.2.1 c13) (h2.2.2.2.2.2.2.2.2.1 c13), fun c14 => ⟨fun c15 => h_post _ ((h1.2.2.2.2.2.2.2.2.2.1 c14).1 c15) ((h2.2.2.2.2.2.2.2.2.2.1 c14).1 c15), fun c16 => h_post _ ((h1.2.2.2.2.2.2.2.2.2.1 c14).2 c16) ((h2.2.2.2.2.2.2.2.2.2.1 c14).2 c16)⟩, fun c17 => h_post _ (h1.2.2.2.2.2.2.2.2.2.2.1 c17) (h2.2.2.2.2.2.2.2.2.2.2.1 c17), fun c18 => h_post _ (h1.2.2.2.2.2.2.2.2.2.2.2.1 c18) (h2.2.2.2.2.2.2.2.2.2.2.2.1 c18), fun c19 => h_post _ (h1.2.2.2.2.2.2.2.2.2.2.2.2.1 c19) (h2.2.2.2.2.2.2.2.2.2.2.2.2.1 c19), fun c20 => h_post _ (h1.2.2.2.2.2.2.2.2.2.2.2.2.2.1 c20) (h2.2.2.2.2.2.2.2.2.2.2.2.2.2.1 c20), fun c21 => h_post _ (h1.2.2.2.2.2.2.2.2.2.2.2.2.2.2.1 c21) (h2.2.2.2.2.2.2.2.2.2.2.2.2.2.2.1 c21), fun c22 => h_post _ (h1.2.2.2.2.2.2.2.2.2.2.2.2.2.2.2.1 c22) (h2.2.2.2.2.2.2.2.2.2.2.2.2.2.2.2.1 c22), fun c23 => h_post _ (h1.2.2.2.2.2.2.2.2.2.2.2.2.2.2.2.2.1 c23) (h2.2.2.2.2.2.2.2.2.2.2.2.2.2.2.2.2.1 c23), fun c24 => cj_q_wr_X4_isFull_173 h_post (h1.2.2.2.2.2.2.2.2.2.2.2.2.2.2.2.2.2.1 c24) (h2.2.2.2.2.2.2.2.2.2.2.2.2.2.2.2.2.2.1 c24), fun c25 => cj_q_wr_X4_isFull_173 h_post (h1.2.2.2.2.2.2.2.2.2.2.2.2.2.2.2.2.2.2.1 c25) (h2.2.2.2.2.2.2.2.2.2.2.2.2.2.2.2.2.2.2.1 c25), fun c26 => ⟨fun c27 => h_post _ ((h1.2.2.2.2.2.2.2.2.2.2.2.2.2.2.2.2.2.2.2 c26).1 c27) ((h2.2.2.2.2.2.2.2.2.2.2.2.2.2.2.2.2.2.2.2 c26).1 c27), fun c28 => h_post _ ((h1.2.2.2.2.2.2.2.2.2.2.2.2.2.2.2.2.2.2.2 c26).2 c28) ((h2.2.2.2.2.2.2.2.2.2.2.2.2.2.2.2.2.2.2.2 c26).2 c28)⟩⟩
set_option maxRecDepth 40000 in
theorem cj_q_wr_X4_isFull_0 {lf_huts : Int32} {lf_singers : Int32} {lf_echoes : Int32} {vf_deeds : Int32} {sf_facts : Int32} {cf_voices : Int32} {x1 : Int32} {post_1 post_2 post_3 : Int32 → Prop} (h_post : ∀ x0, post_1 x0 → post_2 x0 → post_3 x0) (h1 : q_wr_X4_isFull_0 lf_huts lf_singers lf_echoes vf_deeds sf_facts cf_voices x1 post_1) (h2 : q_wr_X4_isFull_0 lf_huts lf_singers lf_echoes vf_deeds sf_facts cf_voices x1 post_2) : q_wr_X4_isFull_0 lf_huts lf_singers lf_echoes vf_deeds sf_facts cf_voices x1 post_3 := ⟨fun c1 => cj_q_wr_X4_isFull_30 h_post (h1.1 c1) (h2.1 c1), fun c2 => ⟨fun c3 => cj_q_wr_X4_isFull_30 h_post ((h1.2 c2).1 c3) ((h2.2 c2).1 c3), fun c4 => ⟨fun c5 => h_post _ (((h1.2 c2).2 c4).1 c5) (((h2.2 c2).2 c4).1 c5), fun c6 => h_post _ (((h1.2 c2).2 c4).2 c6) (((h2.2 c2).2 c4).2 c6)⟩⟩⟩
set_option maxRecDepth 40000 in
theorem cj_q_wr_X4_mark_0 {f_fault : Int32} {f_faultPlace : Int32} {x1 : Int32} {x2 : Int32} {post_1 post_2 post_3 : (Int32) → (Int32) → Prop} (h_post : ∀ x0 x1, post_1 x0 x1 → post_2 x0 x1 → post_3 x0 x1) (h1 : q_wr_X4_mark_0 f_fault f_faultPlace x1 x2 post_1) (h2 : q_wr_X4_mark_0 f_fault f_faultPlace x1 x2 post_2) : q_wr_X4_mark_0 f_fault f_faultPlace x1 x2 post_3 := ⟨fun c1 => h_post _ _ (h1.1 c1) (h2.1 c1), fun c2 => h_post _ _ (h1.2 c2) (h2.2 c2)⟩
set_option maxRecDepth 40000 in
theorem cj_q_wr_X4_canBe_67 {a_numbers : Nat → Int32} {post_1 post_2 post_3 : Int32 → Prop} (h_post : ∀ x0, post_1 x0 → post_2 x0 → post_3 x0) (h1 : q_wr_X4_canBe_67 a_numbers post_1) (h2 : q_wr_X4_canBe_67 a_numbers post_2) : q_wr_X4_canBe_67 a_numbers post_3 := h_post _ h1 h2
set_option maxRecDepth 40000 in
theorem cj_q_wr_X4_canBe_52 {a_numbers : Nat → Int32} {post_1 post_2 post_3 : Int32 → Prop} (h_post : ∀ x0, post_1 x0 → post_2 x0 → post_3 x0) (h1 : q_wr_X4_canBe_52 a_numbers post_1) (h2 : q_wr_X4_canBe_52 a_numbers post_2) : q_wr_X4_canBe_52 a_numbers post_3 := ⟨fun c1 => h_post _ (h1.1 c1) (h2.1 c1), fun c2 => cj_q_wr_X4_canBe_67 h_post (h1.2 c2) (h2.2 c2)⟩
set_option maxRecDepth 40000 in
theorem cj_q_wr_X4_canBe_0 {a_numbers : Nat → Int32} {x1 : Int32} {x2 : Int32} {post_1 post_2 post_3 : Int32 → Prop} (h_post : ∀ x0, post_1 x0 → post_2 x0 → post_3 x0) (h1 : q_wr_X4_canBe_0 a_numbers x1 x2 post_1) (h2 : q_wr_X4_canBe_0 a_numbers x1 x2 post_2) : q_wr_X4_canBe_0 a_numbers x1 x2 post_3 := fun v1 e2 => ⟨(h1 v1 e2).1, ⟨(h1 v1 e2).2.1, ⟨fun c3 => h_post _ ((h1 v1 e2).2.2.1 c3) ((h2 v1 e2).2.2.1 c3), fun c4 => ⟨((h1 v1 e2).2.2.2 c4).1, ⟨((h1 v1 e2).2.2.2 c4).2.1, ⟨fun c5 => ⟨fun c6 => cj_q_wr_X4_canBe_67 h_post ((((h1 v1 e2).2.2.2 c4).2.2.1 c5).1 c6) ((((h2 v1 e2).2.2.2 c4).2.2.1 c5).1 c6), fun c7 => ⟨fun c8 => cj_q_wr_X4_canBe_52 h_post (((((h1 v1 e2).2.2.2 c4).2.2.1 c5).2 c7).1 c8) (((((h2 v1 e2).2.2.2 c4).2.2.1 c5).2 c7).1 c8), fun c9 => ⟨fun c10 => cj_q_wr_X4_canBe_67 h_post ((((((h1 v1 e2).2.2.2 c4).2.2.1 c5).2 c7).2 c9).1 c10) ((((((h2 v1 e2).2.2.2 c4).2.2.1 c5).2 c7).2 c9).1 c10), fun c11 => cj_q_wr_X4_canBe_52 h_post ((((((h1 v1 e2).2.2.2 c4).2.2.1 c5).2 c7).2 c9).2 c11) ((((((h2 v1 e2).2.2.2 c4).2.2.1 c5).2 c7).2 c9).2 c11)⟩⟩⟩, fun c12 => h_post _ (((h1 v1 e2).2.2.2 c4).2.2.2 c12) (((h2 v1 e2).2.2.2 c4).2.2.2 c12)⟩⟩⟩⟩⟩⟩
set_option maxRecDepth 40000 in
theorem cj_q_wr_X4_readLine_124 {lf_huts : Int32} {lf_singers : Int32} {lf_villages : Int32} {lf_dams : Int32} {lf_echoes : Int32} {lf_deep : Int32} {lf_slide : Int32} {la_heights : Nat → Int32} {la_ladders : Nat → Int32} {la_minutes : Nat → Int32} {la_echoFrom : Nat → Int32} {la_echoTo : Nat → Int32} {la_homes : Nat → Int32} {la_talls : Nat → Int32} {la_known : Nat → Int32} {vf_deeds : Int32} {va_kinds : Nat → Int32} {va_firsts : Nat → Int32} {va_seconds : Nat → Int32} {sf_facts : Int32} {sa_heard : Nat → Int32} {sa_huts : Nat → Int32} {sa_minutes : Nat → Int32} {cf_voices : Int32} {cf_step : Int32} {ca_parts : Nat → Int32} {ca_heights : Nat → Int32} {f_fault : Int32} {f_faultPlace : Int32} {a_numbers : Nat → Int32} {a_tape : Nat → Int32} {f_length : Int32} {f_behind : Int32} {f_kind : Int32} {f_first : Int32} {f_value : Int32} {f_hutsToldOf : Int32} {f_singersToldOf : Int32} {post_1 post_2 post_3 : (Int32) → (Int32) → (Int32) → (Int32) → (Int32) → (Int32) → (Int32) → (Nat → Int32) → (Nat → Int32) → (Nat → Int32) → (Nat → Int32) → (Nat → Int32) → (Nat → Int32) → (Nat → Int32) → (Nat → Int32) → (Int32) → (Nat → Int32) → (Nat → Int32) → (Nat → Int32) → (Int32) → (Nat → Int32) → (Nat → Int32) → (Nat → Int32) → (Int32) → (Int32) → (Nat → Int32) → (Nat → Int32) → (Int32) → (Int32) → (Nat → Int32) → (Int32) → (Int32) → (Int32) → (Int32) → (Int32) → (Int32) → Prop} (h_post : ∀ x0 x1 x2 x3 x4 x5 x6 x7 x8 x9 x10 x11 x12 x13 x14 x15 x16 x17 x18 x19 x20 x21 x22 x23 x24 x25 x26 x27 x28 x29 x30 x31 x32 x33 x34 x35, post_1 x0 x1 x2 x3 x4 x5 x6 x7 x8 x9 x10 x11 x12 x13 x14 x15 x16 x17 x18 x19 x20 x21 x22 x23 x24 x25 x26 x27 x28 x29 x30 x31 x32 x33 x34 x35 → post_2 x0 x1 x2 x3 x4 x5 x6 x7 x8 x9 x10 x11 x12 x13 x14 x15 x16 x17 x18 x19 x20 x21 x22 x23 x24 x25 x26 x27 x28 x29 x30 x31 x32 x33 x34 x35 → post_3 x0 x1 x2 x3 x4 x5 x6 x7 x8 x9 x10 x11 x12 x13 x14 x15 x16 x17 x18 x19 x20 x21 x22 x23 x24 x25 x26 x27 x28 x29 x30 x31 x32 x33 x34 x35) (h1 : q_wr_X4_readLine_124 lf_huts lf_singers lf_villages lf_dams lf_echoes lf_deep lf_slide la_heights la_ladders la_minutes la_echoFrom la_echoTo la_homes la_talls la_known vf_deeds va_kinds va_firsts va_seconds sf_facts sa_heard sa_huts sa_minutes cf_voices cf_step ca_parts ca_heights f_fault f_faultPlace a_numbers a_tape f_length f_behind f_kind f_first f_value f_hutsToldOf f_singersToldOf post_1) (h2 : q_wr_X4_readLine_124 lf_huts lf_singers lf_villages lf_dams lf_echoes lf_deep lf_slide la_heights la_ladders la_minutes la_echoFrom la_echoTo la_homes la_talls la_known vf_deeds va_kinds va_firsts va_seconds sf_facts sa_heard sa_huts sa_minutes cf_voices cf_step ca_parts ca_heights f_fault f_faultPlace a_numbers a_tape f_length f_behind f_kind f_first f_value f_hutsToldOf f_singersToldOf post_2) : q_wr_X4_readLine_124 lf_huts lf_singers lf_villages lf_dams lf_echoes lf_deep lf_slide la_heights la_ladders la_minutes la_echoFrom la_echoTo la_homes la_talls la_known vf_deeds va_kinds va_firsts va_seconds sf_facts sa_heard sa_huts sa_minutes cf_voices cf_step ca_parts ca_heights f_fault f_faultPlace a_numbers a_tape f_length f_behind f_kind f_first f_value f_hutsToldOf f_singersToldOf post_3 := cj_q_wr_X4_advance_0 (fun _ _ _ _ h1 h2 => h_post _ _ _ _ _ _ _ _ _ _ _ _ _ _ _ _ _ _ _ _ _ _ _ _ _ _ _ _ _ _ _ _ _ _ _ _ h1 h2) h1 h2
set_option maxRecDepth 40000 in
theorem cj_q_wr_X4_readLine_89 {P39_1 P39_2 P39_3 : Int32 → (Int32) → (Int32) → (Nat → Int32) → (Int32) → (Int32) → (Int32) → (Int32) → Prop} {lf_huts : Int32} {lf_singers : Int32} {lf_villages : Int32} {lf_dams : Int32} {lf_echoes : Int32} {lf_deep : Int32} {lf_slide : Int32} {la_heights : Nat → Int32} {la_ladders : Nat → Int32} {la_minutes : Nat → Int32} {la_echoFrom : Nat → Int32} {la_echoTo : Nat → Int32} {la_homes : Nat → Int32} {la_talls : Nat → Int32} {la_known : Nat → Int32} {vf_deeds : Int32} {va_kinds : Nat → Int32} {va_firsts : Nat → Int32} {va_seconds : Nat → Int32} {sf_facts : Int32} {sa_heard : Nat → Int32} {sa_huts : Nat → Int32} {sa_minutes : Nat → Int32} {cf_voices : Int32} {cf_step : Int32} {ca_parts : Nat → Int32} {ca_heights : Nat → Int32} {f_fault : Int32} {f_faultPlace : Int32} {a_numbers : Nat → Int32} {a_tape : Nat → Int32} {f_length : Int32} {f_behind : Int32} {f_kind : Int32} {f_first : Int32} {f_value : Int32} {f_hutsToldOf : Int32} {f_singersToldOf : Int32} {x2 : Int32} {x3 : Int32} {post_1 post_2 post_3 : (Int32) → (Int32) → (Int32) → (Int32) → (Int32) → (Int32) → (Int32) → (Nat → Int32) → (Nat → Int32) → (Nat → Int32) → (Nat → Int32) → (Nat → Int32) → (Nat → Int32) → (Nat → Int32) → (Nat → Int32) → (Int32) → (Nat → Int32) → (Nat → Int32) → (Nat → Int32) → (Int32) → (Nat → Int32) → (Nat → Int32) → (Nat → Int32) → (Int32) → (Int32) → (Nat → Int32) → (Nat → Int32) → (Int32) → (Int32) → (Nat → Int32) → (Int32) → (Int32) → (Int32) → (Int32) → (Int32) → (Int32) → Prop} (h_P39 : ∀ x0 x1 x2 x3 x4 x5 x6 x7, P39_1 x0 x1 x2 x3 x4 x5 x6 x7 → P39_2 x0 x1 x2 x3 x4 x5 x6 x7 → P39_3 x0 x1 x2 x3 x4 x5 x6 x7) (h_post : ∀ x0 x1 x2 x3 x4 x5 x6 x7 x8 x9 x10 x11 x12 x13 x14 x15 x16 x17 x18 x19 x20 x21 x22 x23 x24 x25 x26 x27 x28 x29 x30 x31 x32 x33 x34 x35, post_1 x0 x1 x2 x3 x4 x5 x6 x7 x8 x9 x10 x11 x12 x13 x14 x15 x16 x17 x18 x19 x20 x21 x22 x23 x24 x25 x26 x27 x28 x29 x30 x31 x32 x33 x34 x35 → post_2 x0 x1 x2 x3 x4 x5 x6 x7 x8 x9 x10 x11 x12 x13 x14 x15 x16 x17 x18 x19 x20 x21 x22 x23 x24 x25 x26 x27 x28 x29 x30 x31 x32 x33 x34 x35 → post_3 x0 x1 x2 x3 x4 x5 x6 x7 x8 x9 x10 x11 x12 x13 x14 x15 x16 x17 x18 x19 x20 x21 x22 x23 x24 x25 x26 x27 x28 x29 x30 x31 x32 x33 x34 x35) (h1 : q_wr_X4_readLine_89 P39_1 lf_huts lf_singers lf_villages lf_dams lf_echoes lf_deep lf_slide la_heights la_ladders la_minutes la_echoFrom la_echoTo la_homes la_talls la_known vf_deeds va_kinds va_firsts va_seconds sf_facts sa_heard sa_huts sa_minutes cf_voices cf_step ca_parts ca_heights f_fault f_faultPlace a_numbers a_tape f_length f_behind f_kind f_first f_value f_hutsToldOf f_singersToldOf x2 x3 post_1) (h2 : q_wr_X4_readLine_89 P39_2 lf_huts lf_singers lf_villages lf_dams lf_echoes lf_deep lf_slide la_heights la_ladders la_minutes la_echoFrom la_echoTo la_homes la_talls la_known vf_deeds va_kinds va_firsts va_seconds sf_facts sa_heard sa_huts sa_minutes cf_voices cf_step ca_parts ca_heights f_fault f_faultPlace a_numbers a_tape f_length f_behind f_kind f_first f_value f_hutsToldOf f_singersToldOf x2 x3 post_2) : q_wr_X4_readLine_89 P39_3 lf_huts lf_singers lf_villages lf_dams lf_echoes lf_deep lf_slide la_heights la_ladders la_minutes la_echoFrom la_echoTo la_homes la_talls la_known vf_deeds va_kinds va_firsts va_seconds sf_facts sa_heard sa_huts sa_minutes cf_voices cf_step ca_parts ca_heights f_fault f_faultPlace a_numbers a_tape f_length f_behind f_kind f_first f_value f_hutsToldOf f_singersToldOf x2 x3 post_3 := cj_q_wr_X4_advance_0 (fun _ _ _ _ h1 h2 => fun v3 e4 => h_P39 _ _ _ _ _ _ _ _ (h1 v3 e4) (h2 v3 e4)) h1 h2
set_option maxRecDepth 40000 in
theorem cj_q_wr_X4_refuse_0 {f_fault : Int32} {f_faultPlace : Int32} {f_first : Int32} {post_1 post_2 post_3 : (Int32) → (Int32) → Prop} (h_post : ∀ x0 x1, post_1 x0 x1 → post_2 x0 x1 → post_3 x0 x1) (h1 : q_wr_X4_refuse_0 f_fault f_faultPlace f_first post_1) (h2 : q_wr_X4_refuse_0 f_fault f_faultPlace f_first post_2) : q_wr_X4_refuse_0 f_fault f_faultPlace f_first post_3 := h_post _ _ h1 h2
set_option maxRecDepth 40000 in
theorem cj_q_wr_X0_tell_0 {cf_voices : Int32} {ca_parts : Nat → Int32} {ca_heights : Nat → Int32} {x1 : Int32} {x2 : Int32} {post_1 post_2 post_3 : (Int32) → (Nat → Int32) → (Nat → Int32) → Prop} (h_post : ∀ x0 x1 x2, post_1 x0 x1 x2 → post_2 x0 x1 x2 → post_3 x0 x1 x2) (h1 : q_wr_X0_tell_0 cf_voices ca_parts ca_heights x1 x2 post_1) (h2 : q_wr_X0_tell_0 cf_voices ca_parts ca_heights x1 x2 post_2) : q_wr_X0_tell_0 cf_voices ca_parts ca_heights x1 x2 post_3 := ⟨fun c1 => h_post _ _ _ (h1.1 c1) (h2.1 c1), fun c2 => ⟨(h1.2 c2).1, fun v3 e4 => ⟨((h1.2 c2).2 v3 e4).1, fun v5 e6 => fun v7 e8 => h_post _ _ _ ((((h1.2 c2).2 v3 e4).2 v5 e6) v7 e8) ((((h2.2 c2).2 v3 e4).2 v5 e6) v7 e8)⟩⟩⟩
set_option maxRecDepth 40000 in
theorem cj_q_wr_X4_tellOfLand_0 {lf_huts : Int32} {lf_singers : Int32} {lf_villages : Int32} {lf_dams : Int32} {lf_echoes : Int32} {lf_deep : Int32} {lf_slide : Int32} {la_heights : Nat → Int32} {la_ladders : Nat → Int32} {la_minutes : Nat → Int32} {la_echoFrom : Nat → Int32} {la_echoTo : Nat → Int32} {la_homes : Nat → Int32} {la_talls : Nat → Int32} {la_known : Nat → Int32} {f_hutsToldOf : Int32} {f_singersToldOf : Int32} {x1 : Int32} {x2 : Int32} {x3 : Int32} {x4 : Int32} {post_1 post_2 post_3 : (Int32) → (Int32) → (Int32) → (Int32) → (Int32) → (Int32) → (Int32) → (Nat → Int32) → (Nat → Int32) → (Nat → Int32) → (Nat → Int32) → (Nat → Int32) → (Nat → Int32) → (Nat → Int32) → (Nat → Int32) → (Int32) → (Int32) → Prop} (h_post : ∀ x0 x1 x2 x3 x4 x5 x6 x7 x8 x9 x10 x11 x12 x13 x14 x15 x16, post_1 x0 x1 x2 x3 x4 x5 x6 x7 x8 x9 x10 x11 x12 x13 x14 x15 x16 → post_2 x0 x1 x2 x3 x4 x5 x6 x7 x8 x9 x10 x11 x12 x13 x14 x15 x16 → post_3 x0 x1 x2 x3 x4 x5 x6 x7 x8 x9 x10 x11 x12 x13 x14 x15 x16) (h1 : q_wr_X4_tellOfLand_0 lf_huts lf_singers lf_villages lf_dams lf_echoes lf_deep lf_slide la_heights la_ladders la_minutes la_echoFrom la_echoTo la_homes la_talls la_known f_hutsToldOf f_singersToldOf x1 x2 x3 x4 post_1) (h2 : q_wr_X4_tellOfLand_0 lf_huts lf_singers lf_villages lf_dams lf_echoes lf_deep lf_slide la_heights la_ladders la_minutes la_echoFrom la_echoTo la_homes la_talls la_known f_hutsToldOf f_singersToldOf x1 x2 x3 x4 post_2) : q_wr_X4_tellOfLand_0 lf_huts lf_singers lf_villages lf_dams lf_echoes lf_deep lf_slide la_heights la_ladders la_minutes la_echoFrom la_echoTo la_homes la_talls la_known f_hutsToldOf f_singersToldOf x1 x2 x3 x4 post_3 := ⟨fun c1 => ⟨(h1.1 c1).1, fun v2 e3 => ⟨((h1.1 c1).2 v2 e3).1, fun v4 e5 => fun v6 e7 => h_post _ _ _ _ _ _ _ _ _ _ _ _ _ _ _ _ _ ((((h1.1 c1).2 v2 e3).2 v4 e5) v6 e7) ((((h2.1 c1).2 v2 e3).2 v4 e5) v6 e7)⟩⟩, fun c8 => ⟨(h1.2.1 c8).1, fun v9 e10 => fun v11 e12 => h_post _ _ _ _ _ _ _ _ _ _ _ _ _ _ _ _ _ (((h1.2.1 c8).2 v9 e10) v11 e12) (((h2.2.1 c8).2 v9 e10) v11 e12)⟩, fun c13 => fun v14 e15 => fun v16 e17 => h_post _ _ _ _ _ _ _ _ _ _ _ _ _ _ _ _ _ (((h1.2.2.1 c13) v14 e15) v16 e17) (((h2.2.2.1 c13) v14 e15) v16 e17), fun c18 => fun v19 e20 => fun v21 e22 => h_post _ _ _ _ _ _ _ _ _ _ _ _ _ _ _ _ _ (((h1.2.2.2.1 c18) v19 e20) v21 e22) (((h2.2.2.2.1 c18) v19 e20) v21 e22), fun c23 => h_post _ _ _ _ _ _ _ _ _ _ _ _ _ _ _ _ _ (h1.2.2.2.2.1 c23) (h2.2.2.2.2.1 c23), fun c24 => h_post _ _ _ _ _ _ _ _ _ _ _ _ _ _ _ _ _ (h1.2.2.2.2.2.1 c24) (h2.2.2.2.2.2.1 c24), fun c25 => ⟨(h1.2.2.2.2.2.2.1 c25).1, fun v26 e27 => ⟨((h1.2.2.2.2.2.2.1 c25).2 v26 e27).1, fun v28 e29 => fun v30 e31 => h_post _ _ _ _ _ _ _ _ _ _ _ _ _ _ _ _ _ ((((h1.2.2.2.2.2.2.1 c25).2 v26 e27).2 v28 e29) v30 e31) ((((h2.2.2.2.2.2.2.1 c25).2 v26 e27).2 v28 e29) v30 e31)⟩⟩, fun c32 => ⟨(h1.2.2.2.2.2.2.2.1 c32).1, fun v33 e34 => ⟨((h1.2.2.2.2.2.2.2.1 c32).2 v33 e34).1, fun v35 e36 => fun v37 e38 => fun v39 e40 => h_post _ _ _ _ _ _ _ _ _ _ _ _ _ _ _ _ _ (((((h1.2.2.2.2.2.2.2.1 c32).2 v33 e34).2 v35 e36) v37 e38) v39 e40) (((((h2.2.2.2.2.2.2.2.1 c32).2 v33 e34).2 v35 e36) v37 e38) v39 e40)⟩⟩, fun c41 => ⟨(h1.2.2.2.2.2.2.2.2.1 c41).1, fun v42 e43 => fun v44 e45 => h_post _ _ _ _ _ _ _ _ _ _ _ _ _ _ _ _ _ (((h1.2.2.2.2.2.2.2.2.1 c41).2 v42 e43) v44 e45) (((h2.2.2.2.2.2.2.2.2.1 c41).2 v42 e43) v44 e45)⟩, fun c46 => ⟨(h1.2.2.2.2.2.2.2.2.2 c46).1, fun v47 e48 => ⟨((h1.2.2.2.2.2.2.2.2.2 c46).2 v47 e48).1, fun v49 e50 => fun v51 e52 => fun v53 e54 => h_post _ _ _ _ _ _ _ _ _ _ _ _ _ _ _ _ _ (((((h1.2.2.2.2.2.2.2.2.2 c46).2 v47 e48).2 v49 e50) v51 e52) v53 e54) (((((h2.2.2.2.2.2.2.2.2.2 c46).2 v47 e48).2 v49 e50) v51 e52) v53 e54)⟩⟩⟩
set_option maxRecDepth 40000 in
theorem cj_q_wr_X1_tell_0 {vf_deeds : Int32} {va_kinds : Nat → Int32} {va_firsts : Nat → Int32} {va_seconds : Nat → Int32} {x1 : Int32} {x2 : Int32} {x3 : Int32} {post_1 post_2 post_3 : (Int32) → (Nat → Int32) → (Nat → Int32) → (Nat → Int32) → Prop} (h_post : ∀ x0 x1 x2 x3, post_1 x0 x1 x2 x3 → post_2 x0 x1 x2 x3 → post_3 x0 x1 x2 x3) (h1 : q_wr_X1_tell_0 vf_deeds va_kinds va_firsts va_seconds x1 x2 x3 post_1) (h2 : q_wr_X1_tell_0 vf_deeds va_kinds va_firsts va_seconds x1 x2 x3 post_2) : q_wr_X1_tell_0 vf_deeds va_kinds va_firsts va_seconds x1 x2 x3 post_3 := ⟨fun c1 => h_post _ _ _ _ (h1.1 c1) (h2.1 c1), fun c2 => ⟨(h1.2 c2).1, fun v3 e4 => ⟨((h1.2 c2).2 v3 e4).1, fun v5 e6 => ⟨(((h1.2 c2).2 v3 e4).2 v5 e6).1, fun v7 e8 => fun v9 e10 => h_post _ _ _ _ (((((h1.2 c2).2 v3 e4).2 v5 e6).2 v7 e8) v9 e10) (((((h2.2 c2).2 v3 e4).2 v5 e6).2 v7 e8) v9 e10)⟩⟩⟩⟩
set_option maxRecDepth 40000 in
theorem cj_q_wr_X4_tell_71 {lf_huts : Int32} {lf_singers : Int32} {lf_villages : Int32} {lf_dams : Int32} {lf_echoes : Int32} {lf_deep : Int32} {lf_slide : Int32} {la_heights : Nat → Int32} {la_ladders : Nat → Int32} {la_minutes : Nat → Int32} {la_echoFrom : Nat → Int32} {la_echoTo : Nat → Int32} {la_homes : Nat → Int32} {la_talls : Nat → Int32} {la_known : Nat → Int32} {vf_deeds : Int32} {va_kinds : Nat → Int32} {va_firsts : Nat → Int32} {va_seconds : Nat → Int32} {sf_facts : Int32} {sa_heard : Nat → Int32} {sa_huts : Nat → Int32} {sa_minutes : Nat → Int32} {cf_voices : Int32} {cf_step : Int32} {ca_parts : Nat → Int32} {ca_heights : Nat → Int32} {a_numbers : Nat → Int32} {f_hutsToldOf : Int32} {f_singersToldOf : Int32} {y0 : Int32} {y1 : Int32} {y2 : Int32} {post_1 post_2 post_3 : (Int32) → (Int32) → (Int32) → (Int32) → (Int32) → (Int32) → (Int32) → (Nat → Int32) → (Nat → Int32) → (Nat → Int32) → (Nat → Int32) → (Nat → Int32) → (Nat → Int32) → (Nat → Int32) → (Nat → Int32) → (Int32) → (Nat → Int32) → (Nat → Int32) → (Nat → Int32) → (Int32) → (Nat → Int32) → (Nat → Int32) → (Nat → Int32) → (Int32) → (Int32) → (Nat → Int32) → (Nat → Int32) → (Int32) → (Int32) → Prop} (h_post : ∀ x0 x1 x2 x3 x4 x5 x6 x7 x8 x9 x10 x11 x12 x13 x14 x15 x16 x17 x18 x19 x20 x21 x22 x23 x24 x25 x26 x27 x28, post_1 x0 x1 x2 x3 x4 x5 x6 x7 x8 x9 x10 x11 x12 x13 x14 x15 x16 x17 x18 x19 x20 x21 x22 x23 x24 x25 x26 x27 x28 → post_2 x0 x1 x2 x3 x4 x5 x6 x7 x8 x9 x10 x11 x12 x13 x14 x15 x16 x17 x18 x19 x20 x21 x22 x23 x24 x25 x26 x27 x28 → post_3 x0 x1 x2 x3 x4 x5 x6 x7 x8 x9 x10 x11 x12 x13 x14 x15 x16 x17 x18 x19 x20 x21 x22 x23 x24 x25 x26 x27 x28) (h1 : q_wr_X4_tell_71 lf_huts lf_singers lf_villages lf_dams lf_echoes lf_deep lf_slide la_heights la_ladders la_minutes la_echoFrom la_echoTo la_homes la_talls la_known vf_deeds va_kinds va_firsts va_seconds sf_facts sa_heard sa_huts sa_minutes cf_voices cf_step ca_parts ca_heights a_numbers f_hutsToldOf f_singersToldOf y0 y1 y2 post_1) (h2 : q_wr_X4_tell_71 lf_huts lf_singers lf_villages lf_dams lf_echoes lf_deep lf_slide la_heights la_ladders la_minutes la_echoFrom la_echoTo la_homes la_talls la_known vf_deeds va_kinds va_firsts va_seconds sf_facts sa_heard sa_huts sa_minutes cf_voices cf_step ca_parts ca_heights a_numbers f_hutsToldOf f_singersToldOf y0 y1 y2 post_2) : q_wr_X4_tell_71 lf_huts lf_singers lf_villages lf_dams lf_echoes lf_deep lf_slide la_heights la_ladders la_minutes la_echoFrom la_echoTo la_homes la_talls la_known vf_deeds va_kinds va_firsts va_seconds sf_facts sa_heard sa_huts sa_minutes cf_voices cf_step ca_parts ca_heights a_numbers f_hutsToldOf f_singersToldOf y0 y1 y2 post_3 := cj_q_wr_X1_tell_0 (fun _ _ _ _ h1 h2 => h_post _ _ _ _ _ _ _ _ _ _ _ _ _ _ _ _ _ _ _ _ _ _ _ _ _ _ _ _ _ h1 h2) h1 h2
set_option maxRecDepth 40000 in
theorem cj_q_wr_X6_tell_0 {sf_facts : Int32} {sa_heard : Nat → Int32} {sa_huts : Nat → Int32} {sa_minutes : Nat → Int32} {x1 : Int32} {x2 : Int32} {x3 : Int32} {post_1 post_2 post_3 : (Int32) → (Nat → Int32) → (Nat → Int32) → (Nat → Int32) → Prop} (h_post : ∀ x0 x1 x2 x3, post_1 x0 x1 x2 x3 → post_2 x0 x1 x2 x3 → post_3 x0 x1 x2 x3) (h1 : q_wr_X6_tell_0 sf_facts sa_heard sa_huts sa_minutes x1 x2 x3 post_1) (h2 : q_wr_X6_tell_0 sf_facts sa_heard sa_huts sa_minutes x1 x2 x3 post_2) : q_wr_X6_tell_0 sf_facts sa_heard sa_huts sa_minutes x1 x2 x3 post_3 := ⟨fun c1 => h_post _ _ _ _ (h1.1 c1) (h2.1 c1), fun c2 => ⟨(h1.2 c2).1, fun v3 e4 => ⟨((h1.2 c2).2 v3 e4).1, fun v5 e6 => ⟨(((h1.2 c2).2 v3 e4).2 v5 e6).1, fun v7 e8 => fun v9 e10 => h_post _ _ _ _ (((((h1.2 c2).2 v3 e4).2 v5 e6).2 v7 e8) v9 e10) (((((h2.2 c2).2 v3 e4).2 v5 e6).2 v7 e8) v9 e10)⟩⟩⟩⟩
set_option maxRecDepth 40000 in
theorem cj_q_wr_X4_tell_98 {lf_huts : Int32} {lf_singers : Int32} {lf_villages : Int32} {lf_dams : Int32} {lf_echoes : Int32} {lf_deep : Int32} {lf_slide : Int32} {la_heights : Nat → Int32} {la_ladders : Nat → Int32} {la_minutes : Nat → Int32} {la_echoFrom : Nat → Int32} {la_echoTo : Nat → Int32} {la_homes : Nat → Int32} {la_talls : Nat → Int32} {la_known : Nat → Int32} {vf_deeds : Int32} {va_kinds : Nat → Int32} {va_firsts : Nat → Int32} {va_seconds : Nat → Int32} {sf_facts : Int32} {sa_heard : Nat → Int32} {sa_huts : Nat → Int32} {sa_minutes : Nat → Int32} {cf_voices : Int32} {cf_step : Int32} {ca_parts : Nat → Int32} {ca_heights : Nat → Int32} {a_numbers : Nat → Int32} {f_hutsToldOf : Int32} {f_singersToldOf : Int32} {y0 : Int32} {post_1 post_2 post_3 : (Int32) → (Int32) → (Int32) → (Int32) → (Int32) → (Int32) → (Int32) → (Nat → Int32) → (Nat → Int32) → (Nat → Int32) → (Nat → Int32) → (Nat → Int32) → (Nat → Int32) → (Nat → Int32) → (Nat → Int32) → (Int32) → (Nat → Int32) → (Nat → Int32) → (Nat → Int32) → (Int32) → (Nat → Int32) → (Nat → Int32) → (Nat → Int32) → (Int32) → (Int32) → (Nat → Int32) → (Nat → Int32) → (Int32) → (Int32) → Prop} (h_post : ∀ x0 x1 x2 x3 x4 x5 x6 x7 x8 x9 x10 x11 x12 x13 x14 x15 x16 x17 x18 x19 x20 x21 x22 x23 x24 x25 x26 x27 x28, post_1 x0 x1 x2 x3 x4 x5 x6 x7 x8 x9 x10 x11 x12 x13 x14 x15 x16 x17 x18 x19 x20 x21 x22 x23 x24 x25 x26 x27 x28 → post_2 x0 x1 x2 x3 x4 x5 x6 x7 x8 x9 x10 x11 x12 x13 x14 x15 x16 x17 x18 x19 x20 x21 x22 x23 x24 x25 x26 x27 x28 → post_3 x0 x1 x2 x3 x4 x5 x6 x7 x8 x9 x10 x11 x12 x13 x14 x15 x16 x17 x18 x19 x20 x21 x22 x23 x24 x25 x26 x27 x28) (h1 : q_wr_X4_tell_98 lf_huts lf_singers lf_villages lf_dams lf_echoes lf_deep lf_slide la_heights la_ladders la_minutes la_echoFrom la_echoTo la_homes la_talls la_known vf_deeds va_kinds va_firsts va_seconds sf_facts sa_heard sa_huts sa_minutes cf_voices cf_step ca_parts ca_heights a_numbers f_hutsToldOf f_singersToldOf y0 post_1) (h2 : q_wr_X4_tell_98 lf_huts lf_singers lf_villages lf_dams lf_echoes lf_deep lf_slide la_heights la_ladders la_minutes la_echoFrom la_echoTo la_homes la_talls la_known vf_deeds va_kinds va_firsts va_seconds sf_facts sa_heard sa_huts sa_minutes cf_voices cf_step ca_parts ca_heights a_numbers f_hutsToldOf f_singersToldOf y0 post_2) : q_wr_X4_tell_98 lf_huts lf_singers lf_villages lf_dams lf_echoes lf_deep lf_slide la_heights la_ladders la_minutes la_echoFrom la_echoTo la_homes la_talls la_known vf_deeds va_kinds va_firsts va_seconds sf_facts sa_heard sa_huts sa_minutes cf_voices cf_step ca_parts ca_heights a_numbers f_hutsToldOf f_singersToldOf y0 post_3 := cj_q_wr_X6_tell_0 (fun _ _ _ _ h1 h2 => h_post _ _ _ _ _ _ _ _ _ _ _ _ _ _ _ _ _ _ _ _ _ _ _ _ _ _ _ _ _ h1 h2) h1 h2
set_option maxRecDepth 40000 in
theorem cj_q_wr_X4_tell_0 {lf_huts : Int32} {lf_singers : Int32} {lf_villages : Int32} {lf_dams : Int32} {lf_echoes : Int32} {lf_deep : Int32} {lf_slide : Int32} {la_heights : Nat → Int32} {la_ladders : Nat → Int32} {la_minutes : Nat → Int32} {la_echoFrom : Nat → Int32} {la_echoTo : Nat → Int32} {la_homes : Nat → Int32} {la_talls : Nat → Int32} {la_known : Nat → Int32} {vf_deeds : Int32} {va_kinds : Nat → Int32} {va_firsts : Nat → Int32} {va_seconds : Nat → Int32} {sf_facts : Int32} {sa_heard : Nat → Int32} {sa_huts : Nat → Int32} {sa_minutes : Nat → Int32} {cf_voices : Int32} {cf_step : Int32} {ca_parts : Nat → Int32} {ca_heights : Nat → Int32} {a_numbers : Nat → Int32} {f_hutsToldOf : Int32} {f_singersToldOf : Int32} {x1 : Int32} {post_1 post_2 post_3 : (Int32) → (Int32) → (Int32) → (Int32) → (Int32) → (Int32) → (Int32) → (Nat → Int32) → (Nat → Int32) → (Nat → Int32) → (Nat → Int32) → (Nat → Int32) → (Nat → Int32) → (Nat → Int32) → (Nat → Int32) → (Int32) → (Nat → Int32) → (Nat → Int32) → (Nat → Int32) → (Int32) → (Nat → Int32) → (Nat → Int32) → (Nat → Int32) → (Int32) → (Int32) → (Nat → Int32) → (Nat → Int32) → (Int32) → (Int32) → Prop} (h_post : ∀ x0 x1 x2 x3 x4 x5 x6 x7 x8 x9 x10 x11 x12 x13 x14 x15 x16 x17 x18 x19 x20 x21 x22 x23 x24 x25 x26 x27 x28, post_1 x0 x1 x2 x3 x4 x5 x6 x7 x8 x9 x10 x11 x12 x13 x14 x15 x16 x17 x18 x19 x20 x21 x22 x23 x24 x25 x26 x27 x28 → post_2 x0 x1 x2 x3 x4 x5 x6 x7 x8 x9 x10 x11 x12 x13 x14 x15 x16 x17 x18 x19 x20 x21 x22 x23 x24 x25 x26 x27 x28 → post_3 x0 x1 x2 x3 x4 x5 x6 x7 x8 x9 x10 x11 x12 x13 x14 x15 x16 x17 x18 x19 x20 x21 x22 x23 x24 x25 x26 x27 x28) (h1 : q_wr_X4_tell_0 lf_huts lf_singers lf_villages lf_dams lf_echoes lf_deep lf_slide la_heights la_ladders la_minutes la_echoFrom la_echoTo la_homes la_talls la_known vf_deeds va_kinds va_firsts va_seconds sf_facts sa_heard sa_huts sa_minutes cf_voices cf_step ca_parts ca_heights a_numbers f_hutsToldOf f_singersToldOf x1 post_1) (h2 : q_wr_X4_tell_0 lf_huts lf_singers lf_villages lf_dams lf_echoes lf_deep lf_slide la_heights la_ladders la_minutes la_echoFrom la_echoTo la_homes la_talls la_known vf_deeds va_kinds va_firsts va_seconds sf_facts sa_heard sa_huts sa_minutes cf_voices cf_step ca_parts ca_heights a_numbers f_hutsToldOf f_singersToldOf x1 post_2) : q_wr_X4_tell_0 lf_huts lf_singers lf_villages lf_dams lf_echoes lf_deep lf_slide la_heights la_ladders la_minutes la_echoFrom la_echoTo la_homes la_talls la_known vf_deeds va_kinds va_firsts va_seconds sf_facts sa_heard sa_huts sa_minutes cf_voices cf_step ca_parts ca_heights a_numbers f_hutsToldOf f_singersToldOf x1 post_3 := ⟨fun c1 => ⟨fun c2 => ⟨fun c3 => ⟨fun c4 => fun v5 e6 => h_post _ _ _ _ _ _ _ _ _ _ _ _ _ _ _ _ _ _ _ _ _ _ _ _ _ _ _ _ _ (((((h1.1 c1).1 c2).1 c3).1 c4) v5 e6) (((((h2.1 c1).1 c2).1 c3).1 c4) v5 e6), fun c7 => cj_q_wr_X0_tell_0 (fun _ _ _ h8 h9 => h_post _ _ _ _ _ _ _ _ _ _ _ _ _ _ _ _ _ _ _ _ _ _ _ _ _ _ _ _ _ h8 h9) ((((h1.1 c1).1 c2).1 c3).2 c7) ((((h2.1 c1).1 c2).1 c3).2 c7)⟩, fun c10 => ⟨fun c11 => cj_q_wr_X4_tell_98 h_post ((((h1.1 c1).1 c2).2 c10).1 c11) ((((h2.1 c1).1 c2).2 c10).1 c11), fun c12 => cj_q_wr_X4_tell_98 h_post ((((h1.1 c1).1 c2).2 c10).2 c12) ((((h2.1 c1).1 c2).2 c10).2 c12)⟩⟩, fun c13 => ⟨((h1.1 c1).2 c13).1, ⟨fun c14 => cj_q_wr_X4_tell_71 h_post (((h1.1 c1).2 c13).2.1 c14) (((h2.1 c1).2 c13).2.1 c14), fun c15 => cj_q_wr_X4_tell_71 h_post (((h1.1 c1).2 c13).2.2 c15) (((h2.1 c1).2 c13).2.2 c15)⟩⟩⟩, fun c16 => cj_q_wr_X4_tellOfLand_0 (fun _ _ _ _ _ _ _ _ _ _ _ _ _ _ _ _ _ h17 h18 => h_post _ _ _ _ _ _ _ _ _ _ _ _ _ _ _ _ _ _ _ _ _ _ _ _ _ _ _ _ _ h17 h18) (h1.2 c16) (h2.2 c16)⟩
set_option maxRecDepth 40000 in
theorem cj_q_wr_X4_readLine_39 {lf_huts : Int32} {lf_singers : Int32} {lf_villages : Int32} {lf_dams : Int32} {lf_echoes : Int32} {lf_deep : Int32} {lf_slide : Int32} {la_heights : Nat → Int32} {la_ladders : Nat → Int32} {la_minutes : Nat → Int32} {la_echoFrom : Nat → Int32} {la_echoTo : Nat → Int32} {la_homes : Nat → Int32} {la_talls : Nat → Int32} {la_known : Nat → Int32} {vf_deeds : Int32} {va_kinds : Nat → Int32} {va_firsts : Nat → Int32} {va_seconds : Nat → Int32} {sf_facts : Int32} {sa_heard : Nat → Int32} {sa_huts : Nat → Int32} {sa_minutes : Nat → Int32} {cf_voices : Int32} {cf_step : Int32} {ca_parts : Nat → Int32} {ca_heights : Nat → Int32} {f_fault : Int32} {f_faultPlace : Int32} {a_numbers : Nat → Int32} {a_tape : Nat → Int32} {f_length : Int32} {f_behind : Int32} {f_kind : Int32} {f_first : Int32} {f_value : Int32} {f_hutsToldOf : Int32} {f_singersToldOf : Int32} {x2 : Int32} {x3 : Int32} {post_1 post_2 post_3 : (Int32) → (Int32) → (Int32) → (Int32) → (Int32) → (Int32) → (Int32) → (Nat → Int32) → (Nat → Int32) → (Nat → Int32) → (Nat → Int32) → (Nat → Int32) → (Nat → Int32) → (Nat → Int32) → (Nat → Int32) → (Int32) → (Nat → Int32) → (Nat → Int32) → (Nat → Int32) → (Int32) → (Nat → Int32) → (Nat → Int32) → (Nat → Int32) → (Int32) → (Int32) → (Nat → Int32) → (Nat → Int32) → (Int32) → (Int32) → (Nat → Int32) → (Int32) → (Int32) → (Int32) → (Int32) → (Int32) → (Int32) → Prop} (h_post : ∀ x0 x1 x2 x3 x4 x5 x6 x7 x8 x9 x10 x11 x12 x13 x14 x15 x16 x17 x18 x19 x20 x21 x22 x23 x24 x25 x26 x27 x28 x29 x30 x31 x32 x33 x34 x35, post_1 x0 x1 x2 x3 x4 x5 x6 x7 x8 x9 x10 x11 x12 x13 x14 x15 x16 x17 x18 x19 x20 x21 x22 x23 x24 x25 x26 x27 x28 x29 x30 x31 x32 x33 x34 x35 → post_2 x0 x1 x2 x3 x4 x5 x6 x7 x8 x9 x10 x11 x12 x13 x14 x15 x16 x17 x18 x19 x20 x21 x22 x23 x24 x25 x26 x27 x28 x29 x30 x31 x32 x33 x34 x35 → post_3 x0 x1 x2 x3 x4 x5 x6 x7 x8 x9 x10 x11 x12 x13 x14 x15 x16 x17 x18 x19 x20 x21 x22 x23 x24 x25 x26 x27 x28 x29 x30 x31 x32 x33 x34 x35) (h1 : q_wr_X4_readLine_39 lf_huts lf_singers lf_villages lf_dams lf_echoes lf_deep lf_slide la_heights la_ladders la_minutes la_echoFrom la_echoTo la_homes la_talls la_known vf_deeds va_kinds va_firsts va_seconds sf_facts sa_heard sa_huts sa_minutes cf_voices cf_step ca_parts ca_heights f_fault f_faultPlace a_numbers a_tape f_length f_behind f_kind f_first f_value f_hutsToldOf f_singersToldOf x2 x3 post_1) (h2 : q_wr_X4_readLine_39 lf_huts lf_singers lf_villages lf_dams lf_echoes lf_deep lf_slide la_heights la_ladders la_minutes la_echoFrom la_echoTo la_homes la_talls la_known vf_deeds va_kinds va_firsts va_seconds sf_facts sa_heard sa_huts sa_minutes cf_voices cf_step ca_parts ca_heights f_fault f_faultPlace a_numbers a_tape f_length f_behind f_kind f_first f_value f_hutsToldOf f_singersToldOf x2 x3 post_2) : q_wr_X4_readLine_39 lf_huts lf_singers lf_villages lf_dams lf_echoes lf_deep lf_slide la_heights la_ladders la_minutes la_echoFrom la_echoTo la_homes la_talls la_known vf_deeds va_kinds va_firsts va_seconds sf_facts sa_heard sa_huts sa_minutes cf_voices cf_step ca_parts ca_heights f_fault f_faultPlace a_numbers a_tape f_length f_behind f_kind f_first f_value f_hutsToldOf f_singersToldOf x2 x3 post_3 := lfp_8 h1 h2 (fun A B C hsk1 _ _ _ _ _ _ _ _ hak1 hck1 => ⟨hak1.1, ⟨fun c2 => ⟨fun c3 => ⟨fun c4 => cj_q_wr_X4_readLine_124 h_post (((hak1.2.1 c2).1 c3).1 c4) (((hck1.2.1 c2).1 c3).1 c4), fun c5 => cj_q_wr_X4_tell_0 (fun _ _ _ _ _ _ _ _ _ _ _ _ _ _ _ _ _ _ _ _ _ _ _ _ _ _ _ _ _ h6 h7 => cj_q_wr_X4_readLine_124 h_post h6 h7) (((hak1.2.1 c2).1 c3).2 c5) (((hck1.2.1 c2).1 c3).2 c5)⟩, fun c8 => cj_q_wr_X4_refuse_0 (fun _ _ h9 h10 => h_post _ _ _ _ _ _ _ _ _ _ _ _ _ _ _ _ _ _ _ _ _ _ _ _ _ _ _ _ _ _ _ _ _ _ _ _ h9 h10) ((hak1.2.1 c2).2 c8) ((hck1.2.1 c2).2 c8)⟩, fun c11 => ⟨fun c12 => ⟨((hak1.2.2 c11).1 c12).1, fun v13 e14 => cj_q_wr_X4_canBe_0 (fun _ h15 h16 => ⟨fun c17 => cj_q_wr_X4_readLine_89 hsk1 h_post (h15.1 c17) (h16.1 c17), fun c18 => cj_q_wr_X4_mark_0 (fun _ _ h19 h20 => cj_q_wr_X4_readLine_89 hsk1 h_post h19 h20) (h15.2 c18) (h16.2 c18)⟩) (((hak1.2.2 c11).1 c12).2 v13 e14) (((hck1.2.2 c11).1 c12).2 v13 e14)⟩, fun c21 => cj_q_wr_X4_refuse_0 (fun _ _ h22 h23 => h_post _ _ _ _ _ _ _ _ _ _ _ _ _ _ _ _ _ _ _ _ _ _ _ _ _ _ _ _ _ _ _ _ _ _ _ _ h22 h23) ((hak1.2.2 c11).2 c21) ((hck1.2.2 c11).2 c21)⟩⟩⟩) (fun A B hqk1 _ _ _ _ _ _ _ _ hbk1 => ⟨hbk1.1, ⟨fun c24 => ⟨fun c25 => ⟨fun c26 => cj_q_wr_X4_readLine_124 (fun _ _ _ _ _ _ _ _ _ _ _ _ _ _ _ _ _ _ _ _ _ _ _ _ _ _ _ _ _ _ _ _ _ _ _ _ h _ => h) (((hbk1.2.1 c24).1 c25).1 c26) (((hbk1.2.1 c24).1 c25).1 c26), fun c27 => cj_q_wr_X4_tell_0 (fun _ _ _ _ _ _ _ _ _ _ _ _ _ _ _ _ _ _ _ _ _ _ _ _ _ _ _ _ _ h28 h29 => cj_q_wr_X4_readLine_124 (fun _ _ _ _ _ _ _ _ _ _ _ _ _ _ _ _ _ _ _ _ _ _ _ _ _ _ _ _ _ _ _ _ _ _ _ _ h _ => h) h28 h29) (((hbk1.2.1 c24).1 c25).2 c27) (((hbk1.2.1 c24).1 c25).2 c27)⟩, fun c30 => cj_q_wr_X4_refuse_0 (fun _ _ h31 h32 => h31) ((hbk1.2.1 c24).2 c30) ((hbk1.2.1 c24).2 c30)⟩, fun c33 => ⟨fun c34 => ⟨((hbk1.2.2 c33).1 c34).1, fun v35 e36 => cj_q_wr_X4_canBe_0 (fun _ h37 h38 => ⟨fun c39 => cj_q_wr_X4_readLine_89 (fun _ _ _ _ _ _ _ _ h _ => hqk1 _ _ _ _ _ _ _ _ h) (fun _ _ _ _ _ _ _ _ _ _ _ _ _ _ _ _ _ _ _ _ _ _ _ _ _ _ _ _ _ _ _ _ _ _ _ _ h _ => h) (h37.1 c39) (h38.1 c39), fun c40 => cj_q_wr_X4_mark_0 (fun _ _ h41 h42 => cj_q_wr_X4_readLine_89 (fun _ _ _ _ _ _ _ _ h _ => hqk1 _ _ _ _ _ _ _ _ h) (fun _ _ _ _ _ _ _ _ _ _ _ _ _ _ _ _ _ _ _ _ _ _ _ _ _ _ _ _ _ _ _ _ _ _ _ _ h _ => h) h41 h42) (h37.2 c40) (h38.2 c40)⟩) (((hbk1.2.2 c33).1 c34).2 v35 e36) (((hbk1.2.2 c33).1 c34).2 v35 e36)⟩, fun c43 => cj_q_wr_X4_refuse_0 (fun _ _ h44 h45 => h44) ((hbk1.2.2 c33).2 c43) ((hbk1.2.2 c33).2 c43)⟩⟩⟩)
set_option maxRecDepth 40000 in
theorem cj_q_wr_X4_readLine_33 {lf_huts : Int32} {lf_singers : Int32} {lf_villages : Int32} {lf_dams : Int32} {lf_echoes : Int32} {lf_deep : Int32} {lf_slide : Int32} {la_heights : Nat → Int32} {la_ladders : Nat → Int32} {la_minutes : Nat → Int32} {la_echoFrom : Nat → Int32} {la_echoTo : Nat → Int32} {la_homes : Nat → Int32} {la_talls : Nat → Int32} {la_known : Nat → Int32} {vf_deeds : Int32} {va_kinds : Nat → Int32} {va_firsts : Nat → Int32} {va_seconds : Nat → Int32} {sf_facts : Int32} {sa_heard : Nat → Int32} {sa_huts : Nat → Int32} {sa_minutes : Nat → Int32} {cf_voices : Int32} {cf_step : Int32} {ca_parts : Nat → Int32} {ca_heights : Nat → Int32} {f_fault : Int32} {f_faultPlace : Int32} {a_numbers : Nat → Int32} {a_tape : Nat → Int32} {f_length : Int32} {f_behind : Int32} {f_kind : Int32} {f_first : Int32} {f_value : Int32} {f_hutsToldOf : Int32} {f_singersToldOf : Int32} {x2 : Int32} {post_1 post_2 post_3 : (Int32) → (Int32) → (Int32) → (Int32) → (Int32) → (Int32) → (Int32) → (Nat → Int32) → (Nat → Int32) → (Nat → Int32) → (Nat → Int32) → (Nat → Int32) → (Nat → Int32) → (Nat → Int32) → (Nat → Int32) → (Int32) → (Nat → Int32) → (Nat → Int32) → (Nat → Int32) → (Int32) → (Nat → Int32) → (Nat → Int32) → (Nat → Int32) → (Int32) → (Int32) → (Nat → Int32) → (Nat → Int32) → (Int32) → (Int32) → (Nat → Int32) → (Int32) → (Int32) → (Int32) → (Int32) → (Int32) → (Int32) → Prop} (h_post : ∀ x0 x1 x2 x3 x4 x5 x6 x7 x8 x9 x10 x11 x12 x13 x14 x15 x16 x17 x18 x19 x20 x21 x22 x23 x24 x25 x26 x27 x28 x29 x30 x31 x32 x33 x34 x35, post_1 x0 x1 x2 x3 x4 x5 x6 x7 x8 x9 x10 x11 x12 x13 x14 x15 x16 x17 x18 x19 x20 x21 x22 x23 x24 x25 x26 x27 x28 x29 x30 x31 x32 x33 x34 x35 → post_2 x0 x1 x2 x3 x4 x5 x6 x7 x8 x9 x10 x11 x12 x13 x14 x15 x16 x17 x18 x19 x20 x21 x22 x23 x24 x25 x26 x27 x28 x29 x30 x31 x32 x33 x34 x35 → post_3 x0 x1 x2 x3 x4 x5 x6 x7 x8 x9 x10 x11 x12 x13 x14 x15 x16 x17 x18 x19 x20 x21 x22 x23 x24 x25 x26 x27 x28 x29 x30 x31 x32 x33 x34 x35) (h1 : q_wr_X4_readLine_33 lf_huts lf_singers lf_villages lf_dams lf_echoes lf_deep lf_slide la_heights la_ladders la_minutes la_echoFrom la_echoTo la_homes la_talls la_known vf_deeds va_kinds va_firsts va_seconds sf_facts sa_heard sa_huts sa_minutes cf_voices cf_step ca_parts ca_heights f_fault f_faultPlace a_numbers a_tape f_length f_behind f_kind f_first f_value f_hutsToldOf f_singersToldOf x2 post_1) (h2 : q_wr_X4_readLine_33 lf_huts lf_singers lf_villages lf_dams lf_echoes lf_deep lf_slide la_heights la_ladders la_minutes la_echoFrom la_echoTo la_homes la_talls la_known vf_deeds va_kinds va_firsts va_seconds sf_facts sa_heard sa_huts sa_minutes cf_voices cf_step ca_parts ca_heights f_fault f_faultPlace a_numbers a_tape f_length f_behind f_kind f_first f_value f_hutsToldOf f_singersToldOf x2 post_2) : q_wr_X4_readLine_33 lf_huts lf_singers lf_villages lf_dams lf_echoes lf_deep lf_slide la_heights la_ladders la_minutes la_echoFrom la_echoTo la_homes la_talls la_known vf_deeds va_kinds va_firsts va_seconds sf_facts sa_heard sa_huts sa_minutes cf_voices cf_step ca_parts ca_heights f_fault f_faultPlace a_numbers a_tape f_length f_behind f_kind f_first f_value f_hutsToldOf f_singersToldOf x2 post_3 := cj_q_wr_X4_advance_0 (fun _ _ _ _ h1 h2 => cj_q_wr_X4_readLine_39 h_post h1 h2) h1 h2
set_option maxRecDepth 40000 in
theorem cj_q_spelling {x : Int32} {post_1 post_2 post_3 : Nat → Prop} (h_post : ∀ x0, post_1 x0 → post_2 x0 → post_3 x0) (h1 : q_spelling x post_1) (h2 : q_spelling x post_2) : q_spelling x post_3 := ⟨h1.1, h_post _ h1.2 h2.2⟩
set_option maxRecDepth 40000 in
theorem cj_q_wr_X4_isSpelled_20 {a_tape : Nat → Int32} {f_behind : Int32} {f_first : Int32} {x1 : Nat} {x2 : Int32} {post_1 post_2 post_3 : Int32 → Prop} (h_post : ∀ x0, post_1 x0 → post_2 x0 → post_3 x0) (h1 : q_wr_X4_isSpelled_20 a_tape f_behind f_first x1 x2 post_1) (h2 : q_wr_X4_isSpelled_20 a_tape f_behind f_first x1 x2 post_2) : q_wr_X4_isSpelled_20 a_tape f_behind f_first x1 x2 post_3 := lfp_1 h1 h2 (fun A B C hsk1 _ hak1 hck1 => ⟨hak1.1, ⟨fun c2 => h_post _ (hak1.2.1 c2) (hck1.2.1 c2), fun c3 => ⟨(hak1.2.2 c3).1, ⟨(hak1.2.2 c3).2.1, (hak1.2.2 c3).2.2.1, ⟨fun c4 => fun v5 e6 => hsk1 _ (((hak1.2.2 c3).2.2.2.1 c4) v5 e6) (((hck1.2.2 c3).2.2.2.1 c4) v5 e6), fun c7 => h_post _ ((hak1.2.2 c3).2.2.2.2 c7) ((hck1.2.2 c3).2.2.2.2 c7)⟩⟩⟩⟩⟩) (fun A B hqk1 _ hbk1 => ⟨hbk1.1, ⟨fun c8 => (hbk1.2.1 c8), fun c9 => ⟨(hbk1.2.2 c9).1, ⟨(hbk1.2.2 c9).2.1, (hbk1.2.2 c9).2.2.1, ⟨fun c10 => fun v11 e12 => hqk1 _ (((hbk1.2.2 c9).2.2.2.1 c10) v11 e12), fun c13 => ((hbk1.2.2 c9).2.2.2.2 c13)⟩⟩⟩⟩⟩)
set_option maxRecDepth 40000 in
theorem cj_q_wr_X4_isSpelled_0 {a_tape : Nat → Int32} {f_behind : Int32} {f_first : Int32} {x1 : Nat} {post_1 post_2 post_3 : Int32 → Prop} (h_post : ∀ x0, post_1 x0 → post_2 x0 → post_3 x0) (h1 : q_wr_X4_isSpelled_0 a_tape f_behind f_first x1 post_1) (h2 : q_wr_X4_isSpelled_0 a_tape f_behind f_first x1 post_2) : q_wr_X4_isSpelled_0 a_tape f_behind f_first x1 post_3 := ⟨h1.1, ⟨fun c1 => cj_q_wr_X4_isSpelled_20 h_post (h1.2.1 c1) (h2.2.1 c1), fun c2 => h_post _ (h1.2.2 c2) (h2.2.2 c2)⟩⟩
set_option maxRecDepth 40000 in
theorem cj_q_wr_X4_wordOf_16 {a_tape : Nat → Int32} {f_behind : Int32} {f_kind : Int32} {f_first : Int32} {x1 : Int32} {x2 : Int32} {post_1 post_2 post_3 : Int32 → Prop} (h_post : ∀ x0, post_1 x0 → post_2 x0 → post_3 x0) (h1 : q_wr_X4_wordOf_16 a_tape f_behind f_kind f_first x1 x2 post_1) (h2 : q_wr_X4_wordOf_16 a_tape f_behind f_kind f_first x1 x2 post_2) : q_wr_X4_wordOf_16 a_tape f_behind f_kind f_first x1 x2 post_3 := lfp_1 h1 h2 (fun A B C hsk1 _ hak1 hck1 => ⟨hak1.1, ⟨fun c2 => h_post _ (hak1.2.1 c2) (hck1.2.1 c2), fun c3 => cj_q_spelling (fun _ h4 h5 => cj_q_wr_X4_isSpelled_0 (fun _ h6 h7 => ⟨fun c8 => fun v9 e10 => hsk1 _ ((h6.1 c8) v9 e10) ((h7.1 c8) v9 e10), fun c11 => h_post _ (h6.2 c11) (h7.2 c11)⟩) h4 h5) (hak1.2.2 c3) (hck1.2.2 c3)⟩⟩) (fun A B hqk1 _ hbk1 => ⟨hbk1.1, ⟨fun c12 => (hbk1.2.1 c12), fun c13 => cj_q_spelling (fun _ h14 h15 => cj_q_wr_X4_isSpelled_0 (fun _ h16 h17 => ⟨fun c18 => fun v19 e20 => hqk1 _ ((h16.1 c18) v19 e20), fun c21 => (h16.2 c21)⟩) h14 h15) (hbk1.2.2 c13) (hbk1.2.2 c13)⟩⟩)
set_option maxRecDepth 40000 in
theorem cj_q_wr_X4_wordOf_0 {a_tape : Nat → Int32} {f_behind : Int32} {f_kind : Int32} {f_first : Int32} {x1 : Int32} {post_1 post_2 post_3 : Int32 → Prop} (h_post : ∀ x0, post_1 x0 → post_2 x0 → post_3 x0) (h1 : q_wr_X4_wordOf_0 a_tape f_behind f_kind f_first x1 post_1) (h2 : q_wr_X4_wordOf_0 a_tape f_behind f_kind f_first x1 post_2) : q_wr_X4_wordOf_0 a_tape f_behind f_kind f_first x1 post_3 := ⟨fun c1 => ⟨(h1.1 c1).1, fun v2 e3 => cj_q_wr_X4_wordOf_16 h_post ((h1.1 c1).2 v2 e3) ((h2.1 c1).2 v2 e3)⟩, fun c4 => h_post _ (h1.2 c4) (h2.2 c4)⟩
set_option maxRecDepth 40000 in
theorem cj_q_wr_X4_readLine_0 {lf_huts : Int32} {lf_singers : Int32} {lf_villages : Int32} {lf_dams : Int32} {lf_echoes : Int32} {lf_deep : Int32} {lf_slide : Int32} {la_heights : Nat → Int32} {la_ladders : Nat → Int32} {la_minutes : Nat → Int32} {la_echoFrom : Nat → Int32} {la_echoTo : Nat → Int32} {la_homes : Nat → Int32} {la_talls : Nat → Int32} {la_known : Nat → Int32} {vf_deeds : Int32} {va_kinds : Nat → Int32} {va_firsts : Nat → Int32} {va_seconds : Nat → Int32} {sf_facts : Int32} {sa_heard : Nat → Int32} {sa_huts : Nat → Int32} {sa_minutes : Nat → Int32} {cf_voices : Int32} {cf_step : Int32} {ca_parts : Nat → Int32} {ca_heights : Nat → Int32} {f_fault : Int32} {f_faultPlace : Int32} {a_numbers : Nat → Int32} {a_tape : Nat → Int32} {f_length : Int32} {f_behind : Int32} {f_kind : Int32} {f_first : Int32} {f_value : Int32} {f_hutsToldOf : Int32} {f_singersToldOf : Int32} {x1 : Int32} {post_1 post_2 post_3 : (Int32) → (Int32) → (Int32) → (Int32) → (Int32) → (Int32) → (Int32) → (Nat → Int32) → (Nat → Int32) → (Nat → Int32) → (Nat → Int32) → (Nat → Int32) → (Nat → Int32) → (Nat → Int32) → (Nat → Int32) → (Int32) → (Nat → Int32) → (Nat → Int32) → (Nat → Int32) → (Int32) → (Nat → Int32) → (Nat → Int32) → (Nat → Int32) → (Int32) → (Int32) → (Nat → Int32) → (Nat → Int32) → (Int32) → (Int32) → (Nat → Int32) → (Int32) → (Int32) → (Int32) → (Int32) → (Int32) → (Int32) → Prop} (h_post : ∀ x0 x1 x2 x3 x4 x5 x6 x7 x8 x9 x10 x11 x12 x13 x14 x15 x16 x17 x18 x19 x20 x21 x22 x23 x24 x25 x26 x27 x28 x29 x30 x31 x32 x33 x34 x35, post_1 x0 x1 x2 x3 x4 x5 x6 x7 x8 x9 x10 x11 x12 x13 x14 x15 x16 x17 x18 x19 x20 x21 x22 x23 x24 x25 x26 x27 x28 x29 x30 x31 x32 x33 x34 x35 → post_2 x0 x1 x2 x3 x4 x5 x6 x7 x8 x9 x10 x11 x12 x13 x14 x15 x16 x17 x18 x19 x20 x21 x22 x23 x24 x25 x26 x27 x28 x29 x30 x31 x32 x33 x34 x35 → post_3 x0 x1 x2 x3 x4 x5 x6 x7 x8 x9 x10 x11 x12 x13 x14 x15 x16 x17 x18 x19 x20 x21 x22 x23 x24 x25 x26 x27 x28 x29 x30 x31 x32 x33 x34 x35) (h1 : q_wr_X4_readLine_0 lf_huts lf_singers lf_villages lf_dams lf_echoes lf_deep lf_slide la_heights la_ladders la_minutes la_echoFrom la_echoTo la_homes la_talls la_known vf_deeds va_kinds va_firsts va_seconds sf_facts sa_heard sa_huts sa_minutes cf_voices cf_step ca_parts ca_heights f_fault f_faultPlace a_numbers a_tape f_length f_behind f_kind f_first f_value f_hutsToldOf f_singersToldOf x1 post_1) (h2 : q_wr_X4_readLine_0 lf_huts lf_singers lf_villages lf_dams lf_echoes lf_deep lf_slide la_heights la_ladders la_minutes la_echoFrom la_echoTo la_homes la_talls la_known vf_deeds va_kinds va_firsts va_seconds sf_facts sa_heard sa_huts sa_minutes cf_voices cf_step ca_parts ca_heights f_fault f_faultPlace a_numbers a_tape f_length f_behind f_kind f_first f_value f_hutsToldOf f_singersToldOf x1 post_2) : q_wr_X4_readLine_0 lf_huts lf_singers lf_villages lf_dams lf_echoes lf_deep lf_slide la_heights la_ladders la_minutes la_echoFrom la_echoTo la_homes la_talls la_known vf_deeds va_kinds va_firsts va_seconds sf_facts sa_heard sa_huts sa_minutes cf_voices cf_step ca_parts ca_heights f_fault f_faultPlace a_numbers a_tape f_length f_behind f_kind f_first f_value f_hutsToldOf f_singersToldOf x1 post_3 := cj_q_wr_X4_wordOf_0 (fun _ h1 h2 => ⟨fun c3 => cj_q_wr_X4_isFull_0 (fun _ h4 h5 => ⟨fun c6 => cj_q_wr_X4_readLine_33 h_post (h4.1 c6) (h5.1 c6), fun c7 => cj_q_wr_X4_mark_0 (fun _ _ h8 h9 => cj_q_wr_X4_readLine_33 h_post h8 h9) (h4.2 c7) (h5.2 c7)⟩) (h1.1 c3) (h2.1 c3), fun c10 => cj_q_wr_X4_refuse_0 (fun _ _ h11 h12 => h_post _ _ _ _ _ _ _ _ _ _ _ _ _ _ _ _ _ _ _ _ _ _ _ _ _ _ _ _ _ _ _ _ _ _ _ _ h11 h12) (h1.2 c10) (h2.2 c10)⟩) h1 h2
set_option maxRecDepth 40000 in
theorem cj_q_wr_X4_tellsOfMissing_30 {lf_huts : Int32} {lf_singers : Int32} {f_hutsToldOf : Int32} {f_singersToldOf : Int32} {post_1 post_2 post_3 : Int32 → Prop} (h_post : ∀ x0, post_1 x0 → post_2 x0 → post_3 x0) (h1 : q_wr_X4_tellsOfMissing_30 lf_huts lf_singers f_hutsToldOf f_singersToldOf post_1) (h2 : q_wr_X4_tellsOfMissing_30 lf_huts lf_singers f_hutsToldOf f_singersToldOf post_2) : q_wr_X4_tellsOfMissing_30 lf_huts lf_singers f_hutsToldOf f_singersToldOf post_3 := h_post _ h1 h2
set_option maxRecDepth 40000 in
theorem cj_q_wr_X4_tellsOfMissing_0 {lf_huts : Int32} {lf_singers : Int32} {f_hutsToldOf : Int32} {f_singersToldOf : Int32} {post_1 post_2 post_3 : Int32 → Prop} (h_post : ∀ x0, post_1 x0 → post_2 x0 → post_3 x0) (h1 : q_wr_X4_tellsOfMissing_0 lf_huts lf_singers f_hutsToldOf f_singersToldOf post_1) (h2 : q_wr_X4_tellsOfMissing_0 lf_huts lf_singers f_hutsToldOf f_singersToldOf post_2) : q_wr_X4_tellsOfMissing_0 lf_huts lf_singers f_hutsToldOf f_singersToldOf post_3 := ⟨fun c1 => cj_q_wr_X4_tellsOfMissing_30 h_post (h1.1 c1) (h2.1 c1), fun c2 => ⟨fun c3 => h_post _ ((h1.2 c2).1 c3) ((h2.2 c2).1 c3), fun c4 => cj_q_wr_X4_tellsOfMissing_30 h_post ((h1.2 c2).2 c4) ((h2.2 c2).2 c4)⟩⟩
set_option maxRecDepth 40000 in
theorem cj_q_wr_X4_read_23_78 {lf_huts : Int32} {lf_singers : Int32} {lf_villages : Int32} {lf_dams : Int32} {lf_echoes : Int32} {lf_deep : Int32} {lf_slide : Int32} {la_heights : Nat → Int32} {la_ladders : Nat → Int32} {la_minutes : Nat → Int32} {la_echoFrom : Nat → Int32} {la_echoTo : Nat → Int32} {la_homes : Nat → Int32} {la_talls : Nat → Int32} {la_known : Nat → Int32} {vf_deeds : Int32} {va_kinds : Nat → Int32} {va_firsts : Nat → Int32} {va_seconds : Nat → Int32} {sf_facts : Int32} {sa_heard : Nat → Int32} {sa_huts : Nat → Int32} {sa_minutes : Nat → Int32} {cf_voices : Int32} {cf_step : Int32} {ca_parts : Nat → Int32} {ca_heights : Nat → Int32} {f_fault : Int32} {f_faultPlace : Int32} {a_numbers : Nat → Int32} {a_tape : Nat → Int32} {f_length : Int32} {f_behind : Int32} {f_kind : Int32} {f_first : Int32} {f_value : Int32} {f_hutsToldOf : Int32} {f_singersToldOf : Int32} {z_from : Nat → Int32} {x3 : Int32} {post_1 post_2 post_3 : (Int32) → (Int32) → (Int32) → (Int32) → (Int32) → (Int32) → (Int32) → (Nat → Int32) → (Nat → Int32) → (Nat → Int32) → (Nat → Int32) → (Nat → Int32) → (Nat → Int32) → (Nat → Int32) → (Nat → Int32) → (Int32) → (Nat → Int32) → (Nat → Int32) → (Nat → Int32) → (Int32) → (Nat → Int32) → (Nat → Int32) → (Nat → Int32) → (Int32) → (Int32) → (Nat → Int32) → (Nat → Int32) → (Int32) → (Int32) → (Nat → Int32) → (Nat → Int32) → (Int32) → (Int32) → (Int32) → (Int32) → (Int32) → (Int32) → (Int32) → Prop} (h_post : ∀ x0 x1 x2 x3 x4 x5 x6 x7 x8 x9 x10 x11 x12 x13 x14 x15 x16 x17 x18 x19 x20 x21 x22 x23 x24 x25 x26 x27 x28 x29 x30 x31 x32 x33 x34 x35 x36 x37, post_1 x0 x1 x2 x3 x4 x5 x6 x7 x8 x9 x10 x11 x12 x13 x14 x15 x16 x17 x18 x19 x20 x21 x22 x23 x24 x25 x26 x27 x28 x29 x30 x31 x32 x33 x34 x35 x36 x37 → post_2 x0 x1 x2 x3 x4 x5 x6 x7 x8 x9 x10 x11 x12 x13 x14 x15 x16 x17 x18 x19 x20 x21 x22 x23 x24 x25 x26 x27 x28 x29 x30 x31 x32 x33 x34 x35 x36 x37 → post_3 x0 x1 x2 x3 x4 x5 x6 x7 x8 x9 x10 x11 x12 x13 x14 x15 x16 x17 x18 x19 x20 x21 x22 x23 x24 x25 x26 x27 x28 x29 x30 x31 x32 x33 x34 x35 x36 x37) (h1 : q_wr_X4_read_23_78 lf_huts lf_singers lf_villages lf_dams lf_echoes lf_deep lf_slide la_heights la_ladders la_minutes la_echoFrom la_echoTo la_homes la_talls la_known vf_deeds va_kinds va_firsts va_seconds sf_facts sa_heard sa_huts sa_minutes cf_voices cf_step ca_parts ca_heights f_fault f_faultPlace a_numbers a_tape f_length f_behind f_kind f_first f_value f_hutsToldOf f_singersToldOf z_from x3 post_1) (h2 : q_wr_X4_read_23_78 lf_huts lf_singers lf_villages lf_dams lf_echoes lf_deep lf_slide la_heights la_ladders la_minutes la_echoFrom la_echoTo la_homes la_talls la_known vf_deeds va_kinds va_firsts va_seconds sf_facts sa_heard sa_huts sa_minutes cf_voices cf_step ca_parts ca_heights f_fault f_faultPlace a_numbers a_tape f_length f_behind f_kind f_first f_value f_hutsToldOf f_singersToldOf z_from x3 post_2) : q_wr_X4_read_23_78 lf_huts lf_singers lf_villages lf_dams lf_echoes lf_deep lf_slide la_heights la_ladders la_minutes la_echoFrom la_echoTo la_homes la_talls la_known vf_deeds va_kinds va_firsts va_seconds sf_facts sa_heard sa_huts sa_minutes cf_voices cf_step ca_parts ca_heights f_fault f_faultPlace a_numbers a_tape f_length f_behind f_kind f_first f_value f_hutsToldOf f_singersToldOf z_from x3 post_3 := ⟨fun c1 => h_post _ _ _ _ _ _ _ _ _ _ _ _ _ _ _ _ _ _ _ _ _ _ _ _ _ _ _ _ _ _ _ _ _ _ _ _ _ _ (h1.1 c1) (h2.1 c1), fun c2 => ⟨fun c3 => h_post _ _ _ _ _ _ _ _ _ _ _ _ _ _ _ _ _ _ _ _ _ _ _ _ _ _ _ _ _ _ _ _ _ _ _ _ _ _ ((h1.2 c2).1 c3) ((h2.2 c2).1 c3), fun c4 => cj_q_wr_X4_tellsOfMissing_0 (fun _ h5 h6 => ⟨fun c7 => h_post _ _ _ _ _ _ _ _ _ _ _ _ _ _ _ _ _ _ _ _ _ _ _ _ _ _ _ _ _ _ _ _ _ _ _ _ _ _ (h5.1 c7) (h6.1 c7), fun c8 => cj_q_wr_X4_mark_0 (fun _ _ h9 h10 => h_post _ _ _ _ _ _ _ _ _ _ _ _ _ _ _ _ _ _ _ _ _ _ _ _ _ _ _ _ _ _ _ _ _ _ _ _ _ _ h9 h10) (h5.2 c8) (h6.2 c8)⟩) ((h1.2 c2).2 c4) ((h2.2 c2).2 c4)⟩⟩
set_option maxRecDepth 40000 in
theorem cj_q_wr_X4_read_23_43 {lf_huts : Int32} {lf_singers : Int32} {lf_villages : Int32} {lf_dams : Int32} {lf_echoes : Int32} {lf_deep : Int32} {lf_slide : Int32} {la_heights : Nat → Int32} {la_ladders : Nat → Int32} {la_minutes : Nat → Int32} {la_echoFrom : Nat → Int32} {la_echoTo : Nat → Int32} {la_homes : Nat → Int32} {la_talls : Nat → Int32} {la_known : Nat → Int32} {vf_deeds : Int32} {va_kinds : Nat → Int32} {va_firsts : Nat → Int32} {va_seconds : Nat → Int32} {sf_facts : Int32} {sa_heard : Nat → Int32} {sa_huts : Nat → Int32} {sa_minutes : Nat → Int32} {cf_voices : Int32} {cf_step : Int32} {ca_parts : Nat → Int32} {ca_heights : Nat → Int32} {f_fault : Int32} {f_faultPlace : Int32} {a_numbers : Nat → Int32} {a_tape : Nat → Int32} {f_length : Int32} {f_behind : Int32} {f_kind : Int32} {f_first : Int32} {f_value : Int32} {f_hutsToldOf : Int32} {f_singersToldOf : Int32} {z_from : Nat → Int32} {x3 : Int32} {x4 : Int32} {post_1 post_2 post_3 : (Int32) → (Int32) → (Int32) → (Int32) → (Int32) → (Int32) → (Int32) → (Nat → Int32) → (Nat → Int32) → (Nat → Int32) → (Nat → Int32) → (Nat → Int32) → (Nat → Int32) → (Nat → Int32) → (Nat → Int32) → (Int32) → (Nat → Int32) → (Nat → Int32) → (Nat → Int32) → (Int32) → (Nat → Int32) → (Nat → Int32) → (Nat → Int32) → (Int32) → (Int32) → (Nat → Int32) → (Nat → Int32) → (Int32) → (Int32) → (Nat → Int32) → (Nat → Int32) → (Int32) → (Int32) → (Int32) → (Int32) → (Int32) → (Int32) → (Int32) → Prop} (h_post : ∀ x0 x1 x2 x3 x4 x5 x6 x7 x8 x9 x10 x11 x12 x13 x14 x15 x16 x17 x18 x19 x20 x21 x22 x23 x24 x25 x26 x27 x28 x29 x30 x31 x32 x33 x34 x35 x36 x37, post_1 x0 x1 x2 x3 x4 x5 x6 x7 x8 x9 x10 x11 x12 x13 x14 x15 x16 x17 x18 x19 x20 x21 x22 x23 x24 x25 x26 x27 x28 x29 x30 x31 x32 x33 x34 x35 x36 x37 → post_2 x0 x1 x2 x3 x4 x5 x6 x7 x8 x9 x10 x11 x12 x13 x14 x15 x16 x17 x18 x19 x20 x21 x22 x23 x24 x25 x26 x27 x28 x29 x30 x31 x32 x33 x34 x35 x36 x37 → post_3 x0 x1 x2 x3 x4 x5 x6 x7 x8 x9 x10 x11 x12 x13 x14 x15 x16 x17 x18 x19 x20 x21 x22 x23 x24 x25 x26 x27 x28 x29 x30 x31 x32 x33 x34 x35 x36 x37) (h1 : q_wr_X4_read_23_43 lf_huts lf_singers lf_villages lf_dams lf_echoes lf_deep lf_slide la_heights la_ladders la_minutes la_echoFrom la_echoTo la_homes la_talls la_known vf_deeds va_kinds va_firsts va_seconds sf_facts sa_heard sa_huts sa_minutes cf_voices cf_step ca_parts ca_heights f_fault f_faultPlace a_numbers a_tape f_length f_behind f_kind f_first f_value f_hutsToldOf f_singersToldOf z_from x3 x4 post_1) (h2 : q_wr_X4_read_23_43 lf_huts lf_singers lf_villages lf_dams lf_echoes lf_deep lf_slide la_heights la_ladders la_minutes la_echoFrom la_echoTo la_homes la_talls la_known vf_deeds va_kinds va_firsts va_seconds sf_facts sa_heard sa_huts sa_minutes cf_voices cf_step ca_parts ca_heights f_fault f_faultPlace a_numbers a_tape f_length f_behind f_kind f_first f_value f_hutsToldOf f_singersToldOf z_from x3 x4 post_2) : q_wr_X4_read_23_43 lf_huts lf_singers lf_villages lf_dams lf_echoes lf_deep lf_slide la_heights la_ladders la_minutes la_echoFrom la_echoTo la_homes la_talls la_known vf_deeds va_kinds va_firsts va_seconds sf_facts sa_heard sa_huts sa_minutes cf_voices cf_step ca_parts ca_heights f_fault f_faultPlace a_numbers a_tape f_length f_behind f_kind f_first f_value f_hutsToldOf f_singersToldOf z_from x3 x4 post_3 := lfp_37 h1 h2 (fun A B C hsk1 _ _ _ _ _ _ _ _ _ _ _ _ _ _ _ _ _ _ _ _ _ _ _ _ _ _ _ _ _ _ _ _ _ _ _ _ _ hak1 hck1 => ⟨fun c2 => cj_q_wr_X4_read_23_78 h_post (hak1.1 c2) (hck1.1 c2), fun c3 => ⟨fun c4 => cj_q_wr_X4_read_23_78 h_post ((hak1.2 c3).1 c4) ((hck1.2 c3).1 c4), fun c5 => ⟨fun c6 => cj_q_wr_X4_read_23_78 h_post (((hak1.2 c3).2 c5).1 c6) (((hck1.2 c3).2 c5).1 c6), fun c7 => cj_q_wr_X4_readLine_0 (fun _ _ _ _ _ _ _ _ _ _ _ _ _ _ _ _ _ _ _ _ _ _ _ _ _ _ _ _ _ _ _ _ _ _ _ _ h8 h9 => fun v10 e11 => hsk1 _ _ _ _ _ _ _ _ _ _ _ _ _ _ _ _ _ _ _ _ _ _ _ _ _ _ _ _ _ _ _ _ _ _ _ _ _ (h8 v10 e11) (h9 v10 e11)) (((hak1.2 c3).2 c5).2 c7) (((hck1.2 c3).2 c5).2 c7)⟩⟩⟩) (fun A B hqk1 _ _ _ _ _ _ _ _ _ _ _ _ _ _ _ _ _ _ _ _ _ _ _ _ _ _ _ _ _ _ _ _ _ _ _ _ _ hbk1 => ⟨fun c12 => cj_q_wr_X4_read_23_78 (fun _ _ _ _ _ _ _ _ _ _ _ _ _ _ _ _ _ _ _ _ _ _ _ _ _ _ _ _ _ _ _ _ _ _ _ _ _ _ h _ => h) (hbk1.1 c12) (hbk1.1 c12), fun c13 => ⟨fun c14 => cj_q_wr_X4_read_23_78 (fun _ _ _ _ _ _ _ _ _ _ _ _ _ _ _ _ _ _ _ _ _ _ _ _ _ _ _ _ _ _ _ _ _ _ _ _ _ _ h _ => h) ((hbk1.2 c13).1 c14) ((hbk1.2 c13).1 c14), fun c15 => ⟨fun c16 => cj_q_wr_X4_read_23_78 (fun _ _ _ _ _ _ _ _ _ _ _ _ _ _ _ _ _ _ _ _ _ _ _ _ _ _ _ _ _ _ _ _ _ _ _ _ _ _ h _ => h) (((hbk1.2 c13).2 c15).1 c16) (((hbk1.2 c13).2 c15).1 c16), fun c17 => cj_q_wr_X4_readLine_0 (fun _ _ _ _ _ _ _ _ _ _ _ _ _ _ _ _ _ _ _ _ _ _ _ _ _ _ _ _ _ _ _ _ _ _ _ _ h18 h19 => fun v20 e21 => hqk1 _ _ _ _ _ _ _ _ _ _ _ _ _ _ _ _ _ _ _ _ _ _ _ _ _ _ _ _ _ _ _ _ _ _ _ _ _ (h18 v20 e21)) (((hbk1.2 c13).2 c15).2 c17) (((hbk1.2 c13).2 c15).2 c17)⟩⟩⟩)
set_option maxRecDepth 40000 in
theorem cj_q_wr_X4_read_23_0 {lf_huts : Int32} {lf_singers : Int32} {lf_villages : Int32} {lf_dams : Int32} {lf_echoes : Int32} {lf_deep : Int32} {lf_slide : Int32} {la_heights : Nat → Int32} {la_ladders : Nat → Int32} {la_minutes : Nat → Int32} {la_echoFrom : Nat → Int32} {la_echoTo : Nat → Int32} {la_homes : Nat → Int32} {la_talls : Nat → Int32} {la_known : Nat → Int32} {vf_deeds : Int32} {va_kinds : Nat → Int32} {va_firsts : Nat → Int32} {va_seconds : Nat → Int32} {sf_facts : Int32} {sa_heard : Nat → Int32} {sa_huts : Nat → Int32} {sa_minutes : Nat → Int32} {cf_voices : Int32} {cf_step : Int32} {ca_parts : Nat → Int32} {ca_heights : Nat → Int32} {f_fault : Int32} {f_faultPlace : Int32} {a_numbers : Nat → Int32} {a_tape : Nat → Int32} {f_length : Int32} {f_behind : Int32} {f_kind : Int32} {f_first : Int32} {f_value : Int32} {f_hutsToldOf : Int32} {f_singersToldOf : Int32} {z_from : Nat → Int32} {x2 : Int32} {x3 : Int32} {post_1 post_2 post_3 : (Int32) → (Int32) → (Int32) → (Int32) → (Int32) → (Int32) → (Int32) → (Nat → Int32) → (Nat → Int32) → (Nat → Int32) → (Nat → Int32) → (Nat → Int32) → (Nat → Int32) → (Nat → Int32) → (Nat → Int32) → (Int32) → (Nat → Int32) → (Nat → Int32) → (Nat → Int32) → (Int32) → (Nat → Int32) → (Nat → Int32) → (Nat → Int32) → (Int32) → (Int32) → (Nat → Int32) → (Nat → Int32) → (Int32) → (Int32) → (Nat → Int32) → (Nat → Int32) → (Int32) → (Int32) → (Int32) → (Int32) → (Int32) → (Int32) → (Int32) → Prop} (h_post : ∀ x0 x1 x2 x3 x4 x5 x6 x7 x8 x9 x10 x11 x12 x13 x14 x15 x16 x17 x18 x19 x20 x21 x22 x23 x24 x25 x26 x27 x28 x29 x30 x31 x32 x33 x34 x35 x36 x37, post_1 x0 x1 x2 x3 x4 x5 x6 x7 x8 x9 x10 x11 x12 x13 x14 x15 x16 x17 x18 x19 x20 x21 x22 x23 x24 x25 x26 x27 x28 x29 x30 x31 x32 x33 x34 x35 x36 x37 → post_2 x0 x1 x2 x3 x4 x5 x6 x7 x8 x9 x10 x11 x12 x13 x14 x15 x16 x17 x18 x19 x20 x21 x22 x23 x24 x25 x26 x27 x28 x29 x30 x31 x32 x33 x34 x35 x36 x37 → post_3 x0 x1 x2 x3 x4 x5 x6 x7 x8 x9 x10 x11 x12 x13 x14 x15 x16 x17 x18 x19 x20 x21 x22 x23 x24 x25 x26 x27 x28 x29 x30 x31 x32 x33 x34 x35 x36 x37) (h1 : q_wr_X4_read_23_0 lf_huts lf_singers lf_villages lf_dams lf_echoes lf_deep lf_slide la_heights la_ladders la_minutes la_echoFrom la_echoTo la_homes la_talls la_known vf_deeds va_kinds va_firsts va_seconds sf_facts sa_heard sa_huts sa_minutes cf_voices cf_step ca_parts ca_heights f_fault f_faultPlace a_numbers a_tape f_length f_behind f_kind f_first f_value f_hutsToldOf f_singersToldOf z_from x2 x3 post_1) (h2 : q_wr_X4_read_23_0 lf_huts lf_singers lf_villages lf_dams lf_echoes lf_deep lf_slide la_heights la_ladders la_minutes la_echoFrom la_echoTo la_homes la_talls la_known vf_deeds va_kinds va_firsts va_seconds sf_facts sa_heard sa_huts sa_minutes cf_voices cf_step ca_parts ca_heights f_fault f_faultPlace a_numbers a_tape f_length f_behind f_kind f_first f_value f_hutsToldOf f_singersToldOf z_from x2 x3 post_2) : q_wr_X4_read_23_0 lf_huts lf_singers lf_villages lf_dams lf_echoes lf_deep lf_slide la_heights la_ladders la_minutes la_echoFrom la_echoTo la_homes la_talls la_known vf_deeds va_kinds va_firsts va_seconds sf_facts sa_heard sa_huts sa_minutes cf_voices cf_step ca_parts ca_heights f_fault f_faultPlace a_numbers a_tape f_length f_behind f_kind f_first f_value f_hutsToldOf f_singersToldOf z_from x2 x3 post_3 := ⟨h1.1, ⟨h1.2.1, ⟨h1.2.2.1, ⟨h1.2.2.2.1, fun v1 e2 => cj_q_wr_X4_clearDraft_0 (fun _ _ _ _ _ _ _ _ _ _ _ _ _ _ _ _ h3 h4 => cj_q_wr_X4_advance_0 (fun _ _ _ _ h5 h6 => cj_q_wr_X4_read_23_43 h_post h5 h6) h3 h4) (h1.2.2.2.2 v1 e2) (h2.2.2.2.2 v1 e2)⟩⟩⟩⟩
set_option maxRecDepth 40000 in
theorem cj_q_wcc_X0_copyFrom_3_0 {f_voices : Int32} {f_step : Int32} {a_parts : Nat → Int32} {a_heights : Nat → Int32} {of_voices : Int32} {of_step : Int32} {oa_parts : Nat → Int32} {oa_heights : Nat → Int32} {post_1 post_2 post_3 : (Int32) → (Int32) → (Nat → Int32) → (Nat → Int32) → Prop} (h_post : ∀ x0 x1 x2 x3, post_1 x0 x1 x2 x3 → post_2 x0 x1 x2 x3 → post_3 x0 x1 x2 x3) (h1 : q_wcc_X0_copyFrom_3_0 f_voices f_step a_parts a_heights of_voices of_step oa_parts oa_heights post_1) (h2 : q_wcc_X0_copyFrom_3_0 f_voices f_step a_parts a_heights of_voices of_step oa_parts oa_heights post_2) : q_wcc_X0_copyFrom_3_0 f_voices f_step a_parts a_heights of_voices of_step oa_parts oa_heights post_3 := ⟨h1.1, ⟨h1.2.1, ⟨h1.2.2.1, fun v1 e2 => ⟨(h1.2.2.2 v1 e2).1, ⟨(h1.2.2.2 v1 e2).2.1, ⟨(h1.2.2.2 v1 e2).2.2.1, fun v3 e4 => h_post _ _ _ _ ((h1.2.2.2 v1 e2).2.2.2 v3 e4) ((h2.2.2.2 v1 e2).2.2.2 v3 e4)⟩⟩⟩⟩⟩⟩
set_option maxRecDepth 40000 in
theorem cj_q_wll_X2_copyFrom_9_0 {f_huts : Int32} {f_singers : Int32} {f_villages : Int32} {f_dams : Int32} {f_echoes : Int32} {f_deep : Int32} {f_slide : Int32} {a_heights : Nat → Int32} {a_ladders : Nat → Int32} {a_minutes : Nat → Int32} {a_echoFrom : Nat → Int32} {a_echoTo : Nat → Int32} {a_homes : Nat → Int32} {a_talls : Nat → Int32} {a_known : Nat → Int32} {of_huts : Int32} {of_singers : Int32} {of_villages : Int32} {of_dams : Int32} {of_echoes : Int32} {of_deep : Int32} {of_slide : Int32} {oa_heights : Nat → Int32} {oa_ladders : Nat → Int32} {oa_minutes : Nat → Int32} {oa_echoFrom : Nat → Int32} {oa_echoTo : Nat → Int32} {oa_homes : Nat → Int32} {oa_talls : Nat → Int32} {oa_known : Nat → Int32} {post_1 post_2 post_3 : (Int32) → (Int32) → (Int32) → (Int32) → (Int32) → (Int32) → (Int32) → (Nat → Int32) → (Nat → Int32) → (Nat → Int32) → (Nat → Int32) → (Nat → Int32) → (Nat → Int32) → (Nat → Int32) → (Nat → Int32) → Prop} (h_post : ∀ x0 x1 x2 x3 x4 x5 x6 x7 x8 x9 x10 x11 x12 x13 x14, post_1 x0 x1 x2 x3 x4 x5 x6 x7 x8 x9 x10 x11 x12 x13 x14 → post_2 x0 x1 x2 x3 x4 x5 x6 x7 x8 x9 x10 x11 x12 x13 x14 → post_3 x0 x1 x2 x3 x4 x5 x6 x7 x8 x9 x10 x11 x12 x13 x14) (h1 : q_wll_X2_copyFrom_9_0 f_huts f_singers f_villages f_dams f_echoes f_deep f_slide a_heights a_ladders a_minutes a_echoFrom a_echoTo a_homes a_talls a_known of_huts of_singers of_villages of_dams of_echoes of_deep of_slide oa_heights oa_ladders oa_minutes oa_echoFrom oa_echoTo oa_homes oa_talls oa_known post_1) (h2 : q_wll_X2_copyFrom_9_0 f_huts f_singers f_villages f_dams f_echoes f_deep f_slide a_heights a_ladders a_minutes a_echoFrom a_echoTo a_homes a_talls a_known of_huts of_singers of_villages of_dams of_echoes of_deep of_slide oa_heights oa_ladders oa_minutes oa_echoFrom oa_echoTo oa_homes oa_talls oa_known post_2) : q_wll_X2_copyFrom_9_0 f_huts f_singers f_villages f_dams f_echoes f_deep f_slide a_heights a_ladders a_minutes a_echoFrom a_echoTo a_homes a_talls a_known of_huts of_singers of_villages of_dams of_echoes of_deep of_slide oa_heights oa_ladders oa_minutes oa_echoFrom oa_echoTo oa_homes oa_talls oa_known post_3 := fun v1 e2 => fun v3 e4 => fun v5 e6 => fun v7 e8 => fun v9 e10 => fun v11 e12 => fun v13 e14 => fun v15 e16 => h_post _ _ _ _ _ _ _ _ _ _ _ _ _ _ _ ((((((((h1 v1 e2) v3 e4) v5 e6) v7 e8) v9 e10) v11 e12) v13 e14) v15 e16) ((((((((h2 v1 e2) v3 e4) v5 e6) v7 e8) v9 e10) v11 e12) v13 e14) v15 e16)
set_option maxRecDepth 40000 in
theorem cj_q_wss_X6_copyFrom_4_0 {f_facts : Int32} {a_heard : Nat → Int32} {a_huts : Nat → Int32} {a_minutes : Nat → Int32} {of_facts : Int32} {oa_heard : Nat → Int32} {oa_huts : Nat → Int32} {oa_minutes : Nat → Int32} {post_1 post_2 post_3 : (Int32) → (Nat → Int32) → (Nat → Int32) → (Nat → Int32) → Prop} (h_post : ∀ x0 x1 x2 x3, post_1 x0 x1 x2 x3 → post_2 x0 x1 x2 x3 → post_3 x0 x1 x2 x3) (h1 : q_wss_X6_copyFrom_4_0 f_facts a_heard a_huts a_minutes of_facts oa_heard oa_huts oa_minutes post_1) (h2 : q_wss_X6_copyFrom_4_0 f_facts a_heard a_huts a_minutes of_facts oa_heard oa_huts oa_minutes post_2) : q_wss_X6_copyFrom_4_0 f_facts a_heard a_huts a_minutes of_facts oa_heard oa_huts oa_minutes post_3 := ⟨h1.1, ⟨h1.2.1, ⟨h1.2.2.1, fun v1 e2 => ⟨(h1.2.2.2 v1 e2).1, ⟨(h1.2.2.2 v1 e2).2.1, ⟨(h1.2.2.2 v1 e2).2.2.1, fun v3 e4 => ⟨((h1.2.2.2 v1 e2).2.2.2 v3 e4).1, ⟨((h1.2.2.2 v1 e2).2.2.2 v3 e4).2.1, ⟨((h1.2.2.2 v1 e2).2.2.2 v3 e4).2.2.1, fun v5 e6 => h_post _ _ _ _ (((h1.2.2.2 v1 e2).2.2.2 v3 e4).2.2.2 v5 e6) (((h2.2.2.2 v1 e2).2.2.2 v3 e4).2.2.2 v5 e6)⟩⟩⟩⟩⟩⟩⟩⟩⟩
set_option maxRecDepth 40000 in
theorem cj_q_wvv_X1_copyFrom_4_0 {f_deeds : Int32} {a_kinds : Nat → Int32} {a_firsts : Nat → Int32} {a_seconds : Nat → Int32} {of_deeds : Int32} {oa_kinds : Nat → Int32} {oa_firsts : Nat → Int32} {oa_seconds : Nat → Int32} {post_1 post_2 post_3 : (Int32) → (Nat → Int32) → (Nat → Int32) → (Nat → Int32) → Prop} (h_post : ∀ x0 x1 x2 x3, post_1 x0 x1 x2 x3 → post_2 x0 x1 x2 x3 → post_3 x0 x1 x2 x3) (h1 : q_wvv_X1_copyFrom_4_0 f_deeds a_kinds a_firsts a_seconds of_deeds oa_kinds oa_firsts oa_seconds post_1) (h2 : q_wvv_X1_copyFrom_4_0 f_deeds a_kinds a_firsts a_seconds of_deeds oa_kinds oa_firsts oa_seconds post_2) : q_wvv_X1_copyFrom_4_0 f_deeds a_kinds a_firsts a_seconds of_deeds oa_kinds oa_firsts oa_seconds post_3 := ⟨h1.1, ⟨h1.2.1, ⟨h1.2.2.1, fun v1 e2 => ⟨(h1.2.2.2 v1 e2).1, ⟨(h1.2.2.2 v1 e2).2.1, ⟨(h1.2.2.2 v1 e2).2.2.1, fun v3 e4 => ⟨((h1.2.2.2 v1 e2).2.2.2 v3 e4).1, ⟨((h1.2.2.2 v1 e2).2.2.2 v3 e4).2.1, ⟨((h1.2.2.2 v1 e2).2.2.2 v3 e4).2.2.1, fun v5 e6 => h_post _ _ _ _ (((h1.2.2.2 v1 e2).2.2.2 v3 e4).2.2.2 v5 e6) (((h2.2.2.2 v1 e2).2.2.2 v3 e4).2.2.2 v5 e6)⟩⟩⟩⟩⟩⟩⟩⟩⟩
set_option maxRecDepth 40000 in
theorem cj_q_wx_X10_keep_99 {ta_counts : Nat → Int32} {tl0f_huts : Int32} {tl0f_singers : Int32} {tl0f_villages : Int32} {tl0f_dams : Int32} {tl0f_echoes : Int32} {tl0f_deep : Int32} {tl0f_slide : Int32} {tl0a_heights : Nat → Int32} {tl0a_ladders : Nat → Int32} {tl0a_minutes : Nat → Int32} {tl0a_echoFrom : Nat → Int32} {tl0a_echoTo : Nat → Int32} {tl0a_homes : Nat → Int32} {tl0a_talls : Nat → Int32} {tl0a_known : Nat → Int32} {tl1f_huts : Int32} {tl1f_singers : Int32} {tl1f_villages : Int32} {tl1f_dams : Int32} {tl1f_echoes : Int32} {tl1f_deep : Int32} {tl1f_slide : Int32} {tl1a_heights : Nat → Int32} {tl1a_ladders : Nat → Int32} {tl1a_minutes : Nat → Int32} {tl1a_echoFrom : Nat → Int32} {tl1a_echoTo : Nat → Int32} {tl1a_homes : Nat → Int32} {tl1a_talls : Nat → Int32} {tl1a_known : Nat → Int32} {tv0f_deeds : Int32} {tv0a_kinds : Nat → Int32} {tv0a_firsts : Nat → Int32} {tv0a_seconds : Nat → Int32} {tv1f_deeds : Int32} {tv1a_kinds : Nat → Int32} {tv1a_firsts : Nat → Int32} {tv1a_seconds : Nat → Int32} {ts0f_facts : Int32} {ts0a_heard : Nat → Int32} {ts0a_huts : Nat → Int32} {ts0a_minutes : Nat → Int32} {ts1f_facts : Int32} {ts1a_heard : Nat → Int32} {ts1a_huts : Nat → Int32} {ts1a_minutes : Nat → Int32} {tc0f_voices : Int32} {tc0f_step : Int32} {tc0a_parts : Nat → Int32} {tc0a_heights : Nat → Int32} {tc1f_voices : Int32} {tc1f_step : Int32} {tc1a_parts : Nat → Int32} {tc1a_heights : Nat → Int32} {rlf_huts : Int32} {rlf_singers : Int32} {rlf_villages : Int32} {rlf_dams : Int32} {rlf_echoes : Int32} {rlf_deep : Int32} {rlf_slide : Int32} {rla_heights : Nat → Int32} {rla_ladders : Nat → Int32} {rla_minutes : Nat → Int32} {rla_echoFrom : Nat → Int32} {rla_echoTo : Nat → Int32} {rla_homes : Nat → Int32} {rla_talls : Nat → Int32} {rla_known : Nat → Int32} {rvf_deeds : Int32} {rva_kinds : Nat → Int32} {rva_firsts : Nat → Int32} {rva_seconds : Nat → Int32} {rsf_facts : Int32} {rsa_heard : Nat → Int32} {rsa_huts : Nat → Int32} {rsa_minutes : Nat → Int32} {rcf_voices : Int32} {rcf_step : Int32} {rca_parts : Nat → Int32} {rca_heights : Nat → Int32} {x1 : Int32} {x2 : Int32} {post_1 post_2 post_3 : (Nat → Int32) → (Int32) → (Int32) → (Int32) → (Int32) → (Int32) → (Int32) → (Int32) → (Nat → Int32) → (Nat → Int32) → (Nat → Int32) → (Nat → Int32) → (Nat → Int32) → (Nat → Int32) → (Nat → Int32) → (Nat → Int32) → (Int32) → (Int32) → (Int32) → (Int32) → (Int32) → (Int32) → (Int32) → (Nat → Int32) → (Nat → Int32) → (Nat → Int32) → (Nat → Int32) → (Nat → Int32) → (Nat → Int32) → (Nat → Int32) → (Nat → Int32) → (Int32) → (Nat → Int32) → (Nat → Int32) → (Nat → Int32) → (Int32) → (Nat → Int32) → (Nat → Int32) → (Nat → Int32) → (Int32) → (Nat → Int32) → (Nat → Int32) → (Nat → Int32) → (Int32) → (Nat → Int32) → (Nat → Int32) → (Nat → Int32) → (Int32) → (Int32) → (Nat → Int32) → (Nat → Int32) → (Int32) → (Int32) → (Nat → Int32) → (Nat → Int32) → Prop} (h_post : ∀ x0 x1 x2 x3 x4 x5 x6 x7 x8 x9 x10 x11 x12 x13 x14 x15 x16 x17 x18 x19 x20 x21 x22 x23 x24 x25 x26 x27 x28 x29 x30 x31 x32 x33 x34 x35 x36 x37 x38 x39 x40 x41 x42 x43 x44 x45 x46 x47 x48 x49 x50 x51 x52 x53 x54, post_1 x0 x1 x2 x3 x4 x5 x6 x7 x8 x9 x10 x11 x12 x13 x14 x15 x16 x17 x18 x19 x20 x21 x22 x23 x24 x25 x26 x27 x28 x29 x30 x31 x32 x33 x34 x35 x36 x37 x38 x39 x40 x41 x42 x43 x44 x45 x46 x47 x48 x49 x50 x51 x52 x53 x54 → post_2 x0 x1 x2 x3 x4 x5 x6 x7 x8 x9 x10 x11 x12 x13 x14 x15 x16 x17 x18 x19 x20 x21 x22 x23 x24 x25 x26 x27 x28 x29 x30 x31 x32 x33 x34 x35 x36 x37 x38 x39 x40 x41 x42 x43 x44 x45 x46 x47 x48 x49 x50 x51 x52 x53 x54 → post_3 x0 x1 x2 x3 x4 x5 x6 x7 x8 x9 x10 x11 x12 x13 x14 x15 x16 x17 x18 x19 x20 x21 x22 x23 x24 x25 x26 x27 x28 x29 x30 x31 x32 x33 x34 x35 x36 x37 x38 x39 x40 x41 x42 x43 x44 x45 x46 x47 x48 x49 x50 x51 x52 x53 x54) (h1 : q_wx_X10_keep_99 ta_counts tl0f_huts tl0f_singers tl0f_villages tl0f_dams tl0f_echoes tl0f_deep tl0f_slide tl0a_heights tl0a_ladders tl0a_minutes tl0a_echoFrom tl0a_echoTo tl0a_homes tl0a_talls tl0a_known tl1f_huts tl1f_singers tl1f_villages tl1f_dams tl1f_echoes tl1f_deep tl1f_slide tl1a_heights tl1a_ladders tl1a_minutes tl1a_echoFrom tl1a_echoTo tl1a_homes tl1a_talls tl1a_known tv0f_deeds tv0a_kinds tv0a_firsts tv0a_seconds tv1f_deeds tv1a_kinds tv1a_firsts tv1a_seconds ts0f_facts ts0a_heard ts0a_huts ts0a_minutes ts1f_facts ts1a_heard ts1a_huts ts1a_minutes tc0f_voices tc0f_step tc0a_parts tc0a_heights tc1f_voices tc1f_step tc1a_parts tc1a_heights rlf_huts rlf_singers rlf_villages rlf_dams rlf_echoes rlf_deep rlf_slide rla_heights rla_ladders rla_minutes rla_echoFrom rla_echoTo rla_homes rla_talls rla_known rvf_deeds rva_kinds rva_firsts rva_seconds rsf_facts rsa_heard rsa_huts rsa_minutes rcf_voices rcf_step rca_parts rca_heights x1 x2 post_1) (h2 : q_wx_X10_keep_99 ta_counts tl0f_huts tl0f_singers tl0f_villages tl0f_dams tl0f_echoes tl0f_deep tl0f_slide tl0a_heights tl0a_ladders tl0a_minutes tl0a_echoFrom tl0a_echoTo tl0a_homes tl0a_talls tl0a_known tl1f_huts tl1f_singers tl1f_villages tl1f_dams tl1f_echoes tl1f_deep tl1f_slide tl1a_heights tl1a_ladders tl1a_minutes tl1a_echoFrom tl1a_echoTo tl1a_homes tl1a_talls tl1a_known tv0f_deeds tv0a_kinds tv0a_firsts tv0a_seconds tv1f_deeds tv1a_kinds tv1a_firsts tv1a_seconds ts0f_facts ts0a_heard ts0a_huts ts0a_minutes ts1f_facts ts1a_heard ts1a_huts ts1a_minutes tc0f_voices tc0f_step tc0a_parts tc0a_heights tc1f_voices tc1f_step tc1a_parts tc1a_heights rlf_huts rlf_singers rlf_villages rlf_dams rlf_echoes rlf_deep rlf_slide rla_heights rla_ladders rla_minutes rla_echoFrom rla_echoTo rla_homes rla_talls rla_known rvf_deeds rva_kinds rva_firsts rva_seconds rsf_facts rsa_heard rsa_huts rsa_minutes rcf_voices rcf_step rca_parts rca_heights x1 x2 post_2) : q_wx_X10_keep_99 ta_counts tl0f_huts tl0f_singers tl0f_villages tl0f_dams tl0f_echoes tl0f_deep tl0f_slide tl0a_heights tl0a_ladders tl0a_minutes tl0a_echoFrom tl0a_echoTo tl0a_homes tl0a_talls tl0a_known tl1f_huts tl1f_singers tl1f_villages tl1f_dams tl1f_echoes tl1f_deep tl1f_slide tl1a_heights tl1a_ladders tl1a_minutes tl1a_echoFrom tl1a_echoTo tl1a_homes tl1a_talls tl1a_known tv0f_deeds tv0a_kinds tv0a_firsts tv0a_seconds tv1f_deeds tv1a_kinds tv1a_firsts tv1a_seconds ts0f_facts ts0a_heard ts0a_huts ts0a_minutes ts1f_facts ts1a_heard ts1a_huts ts1a_minutes tc0f_voices tc0f_step tc0a_parts tc0a_heights tc1f_voices tc1f_step tc1a_parts tc1a_heights rlf_huts rlf_singers rlf_villages rlf_dams rlf_echoes rlf_deep rlf_slide rla_heights rla_ladders rla_minutes rla_echoFrom rla_echoTo rla_homes rla_talls rla_known rvf_deeds rva_kinds rva_firsts rva_seconds rsf_facts rsa_heard rsa_huts rsa_minutes rcf_voices rcf_step rca_parts rca_heights x1 x2 post_3 := ⟨h1.1, fun v1 e2 => ⟨(h1.2 v1 e2).1, fun v3 e4 => h_post _ _ _ _ _ _ _ _ _ _ _ _ _ _ _ _ _ _ _ _ _ _ _ _ _ _ _ _ _ _ _ _ _ _ _ _ _ _ _ _ _ _ _ _ _ _ _ _ _ _ _ _ _ _ _ ((h1.2 v1 e2).2 v3 e4) ((h2.2 v1 e2).2 v3 e4)⟩⟩
set_option maxRecDepth 40000 in
theorem cj_q_wx_X10_keep_0 {ta_counts : Nat → Int32} {tl0f_huts : Int32} {tl0f_singers : Int32} {tl0f_villages : Int32} {tl0f_dams : Int32} {tl0f_echoes : Int32} {tl0f_deep : Int32} {tl0f_slide : Int32} {tl0a_heights : Nat → Int32} {tl0a_ladders : Nat → Int32} {tl0a_minutes : Nat → Int32} {tl0a_echoFrom : Nat → Int32} {tl0a_echoTo : Nat → Int32} {tl0a_homes : Nat → Int32} {tl0a_talls : Nat → Int32} {tl0a_known : Nat → Int32} {tl1f_huts : Int32} {tl1f_singers : Int32} {tl1f_villages : Int32} {tl1f_dams : Int32} {tl1f_echoes : Int32} {tl1f_deep : Int32} {tl1f_slide : Int32} {tl1a_heights : Nat → Int32} {tl1a_ladders : Nat → Int32} {tl1a_minutes : Nat → Int32} {tl1a_echoFrom : Nat → Int32} {tl1a_echoTo : Nat → Int32} {tl1a_homes : Nat → Int32} {tl1a_talls : Nat → Int32} {tl1a_known : Nat → Int32} {tv0f_deeds : Int32} {tv0a_kinds : Nat → Int32} {tv0a_firsts : Nat → Int32} {tv0a_seconds : Nat → Int32} {tv1f_deeds : Int32} {tv1a_kinds : Nat → Int32} {tv1a_firsts : Nat → Int32} {tv1a_seconds : Nat → Int32} {ts0f_facts : Int32} {ts0a_heard : Nat → Int32} {ts0a_huts : Nat → Int32} {ts0a_minutes : Nat → Int32} {ts1f_facts : Int32} {ts1a_heard : Nat → Int32} {ts1a_huts : Nat → Int32} {ts1a_minutes : Nat → Int32} {tc0f_voices : Int32} {tc0f_step : Int32} {tc0a_parts : Nat → Int32} {tc0a_heights : Nat → Int32} {tc1f_voices : Int32} {tc1f_step : Int32} {tc1a_parts : Nat → Int32} {tc1a_heights : Nat → Int32} {rlf_huts : Int32} {rlf_singers : Int32} {rlf_villages : Int32} {rlf_dams : Int32} {rlf_echoes : Int32} {rlf_deep : Int32} {rlf_slide : Int32} {rla_heights : Nat → Int32} {rla_ladders : Nat → Int32} {rla_minutes : Nat → Int32} {rla_echoFrom : Nat → Int32} {rla_echoTo : Nat → Int32} {rla_homes : Nat → Int32} {rla_talls : Nat → Int32} {rla_known : Nat → Int32} {rvf_deeds : Int32} {rva_kinds : Nat → Int32} {rva_firsts : Nat → Int32} {rva_seconds : Nat → Int32} {rsf_facts : Int32} {rsa_heard : Nat → Int32} {rsa_huts : Nat → Int32} {rsa_minutes : Nat → Int32} {rcf_voices : Int32} {rcf_step : Int32} {rca_parts : Nat → Int32} {rca_heights : Nat → Int32} {x1 : Int32} {x2 : Int32} {post_1 post_2 post_3 : (Nat → Int32) → (Int32) → (Int32) → (Int32) → (Int32) → (Int32) → (Int32) → (Int32) → (Nat → Int32) → (Nat → Int32) → (Nat → Int32) → (Nat → Int32) → (Nat → Int32) → (Nat → Int32) → (Nat → Int32) → (Nat → Int32) → (Int32) → (Int32) → (Int32) → (Int32) → (Int32) → (Int32) → (Int32) → (Nat → Int32) → (Nat → Int32) → (Nat → Int32) → (Nat → Int32) → (Nat → Int32) → (Nat → Int32) → (Nat → Int32) → (Nat → Int32) → (Int32) → (Nat → Int32) → (Nat → Int32) → (Nat → Int32) → (Int32) → (Nat → Int32) → (Nat → Int32) → (Nat → Int32) → (Int32) → (Nat → Int32) → (Nat → Int32) → (Nat → Int32) → (Int32) → (Nat → Int32) → (Nat → Int32) → (Nat → Int32) → (Int32) → (Int32) → (Nat → Int32) → (Nat → Int32) → (Int32) → (Int32) → (Nat → Int32) → (Nat → Int32) → Prop} (h_post : ∀ x0 x1 x2 x3 x4 x5 x6 x7 x8 x9 x10 x11 x12 x13 x14 x15 x16 x17 x18 x19 x20 x21 x22 x23 x24 x25 x26 x27 x28 x29 x30 x31 x32 x33 x34 x35 x36 x37 x38 x39 x40 x41 x42 x43 x44 x45 x46 x47 x48 x49 x50 x51 x52 x53 x54, post_1 x0 x1 x2 x3 x4 x5 x6 x7 x8 x9 x10 x11 x12 x13 x14 x15 x16 x17 x18 x19 x20 x21 x22 x23 x24 x25 x26 x27 x28 x29 x30 x31 x32 x33 x34 x35 x36 x37 x38 x39 x40 x41 x42 x43 x44 x45 x46 x47 x48 x49 x50 x51 x52 x53 x54 → post_2 x0 x1 x2 x3 x4 x5 x6 x7 x8 x9 x10 x11 x12 x13 x14 x15 x16 x17 x18 x19 x20 x21 x22 x23 x24 x25 x26 x27 x28 x29 x30 x31 x32 x33 x34 x35 x36 x37 x38 x39 x40 x41 x42 x43 x44 x45 x46 x47 x48 x49 x50 x51 x52 x53 x54 → post_3 x0 x1 x2 x3 x4 x5 x6 x7 x8 x9 x10 x11 x12 x13 x14 x15 x16 x17 x18 x19 x20 x21 x22 x23 x24 x25 x26 x27 x28 x29 x30 x31 x32 x33 x34 x35 x36 x37 x38 x39 x40 x41 x42 x43 x44 x45 x46 x47 x48 x49 x50 x51 x52 x53 x54) (h1 : q_wx_X10_keep_0 ta_counts tl0f_huts tl0f_singers tl0f_villages tl0f_dams tl0f_echoes tl0f_deep tl0f_slide tl0a_heights tl0a_ladders tl0a_minutes tl0a_echoFrom tl0a_echoTo tl0a_homes tl0a_talls tl0a_known tl1f_huts tl1f_singers tl1f_villages tl1f_dams tl1f_echoes tl1f_deep tl1f_slide tl1a_heights tl1a_ladders tl1a_minutes tl1a_echoFrom tl1a_echoTo tl1a_homes tl1a_talls tl1a_known tv0f_deeds tv0a_kinds tv0a_firsts tv0a_seconds tv1f_deeds tv1a_kinds tv1a_firsts tv1a_seconds ts0f_facts ts0a_heard ts0a_huts ts0a_minutes ts1f_facts ts1a_heard ts1a_huts ts1a_minutes tc0f_voices tc0f_step tc0a_parts tc0a_heights tc1f_voices tc1f_step tc1a_parts tc1a_heights rlf_huts rlf_singers rlf_villages rlf_dams rlf_echoes rlf_deep rlf_slide rla_heights rla_ladders rla_minutes rla_echoFrom rla_echoTo rla_homes rla_talls rla_known rvf_deeds rva_kinds rva_firsts rva_seconds rsf_facts rsa_heard rsa_huts rsa_minutes rcf_voices rcf_step rca_parts rca_heights x1 x2 post_1) (h2 : q_wx_X10_keep_0 ta_counts tl0f_huts tl0f_singers tl0f_villages tl0f_dams tl0f_echoes tl0f_deep tl0f_slide tl0a_heights tl0a_ladders tl0a_minutes tl0a_echoFrom tl0a_echoTo tl0a_homes tl0a_talls tl0a_known tl1f_huts tl1f_singers tl1f_villages tl1f_dams tl1f_echoes tl1f_deep tl1f_slide tl1a_heights tl1a_ladders tl1a_minutes tl1a_echoFrom tl1a_echoTo tl1a_homes tl1a_talls tl1a_known tv0f_deeds tv0a_kinds tv0a_firsts tv0a_seconds tv1f_deeds tv1a_kinds tv1a_firsts tv1a_seconds ts0f_facts ts0a_heard ts0a_huts ts0a_minutes ts1f_facts ts1a_heard ts1a_huts ts1a_minutes tc0f_voices tc0f_step tc0a_parts tc0a_heights tc1f_voices tc1f_step tc1a_parts tc1a_heights rlf_huts rlf_singers rlf_villages rlf_dams rlf_echoes rlf_deep rlf_slide rla_heights rla_ladders rla_minutes rla_echoFrom rla_echoTo rla_homes rla_talls rla_known rvf_deeds rva_kinds rva_firsts rva_seconds rsf_facts rsa_heard rsa_huts rsa_minutes rcf_voices rcf_step rca_parts rca_heights x1 x2 post_2) : q_wx_X10_keep_0 ta_counts tl0f_huts tl0f_singers tl0f_villages tl0f_dams tl0f_echoes tl0f_deep tl0f_slide tl0a_heights tl0a_ladders tl0a_minutes tl0a_echoFrom tl0a_echoTo tl0a_homes tl0a_talls tl0a_known tl1f_huts tl1f_singers tl1f_villages tl1f_dams tl1f_echoes tl1f_deep tl1f_slide tl1a_heights tl1a_ladders tl1a_minutes tl1a_echoFrom tl1a_echoTo tl1a_homes tl1a_talls tl1a_known tv0f_deeds tv0a_kinds tv0a_firsts tv0a_seconds tv1f_deeds tv1a_kinds tv1a_firsts tv1a_seconds ts0f_facts ts0a_heard ts0a_huts ts0a_minutes ts1f_facts ts1a_heard ts1a_huts ts1a_minutes tc0f_voices tc0f_step tc0a_parts tc0a_heights tc1f_voices tc1f_step tc1a_parts tc1a_heights rlf_huts rlf_singers rlf_villages rlf_dams rlf_echoes rlf_deep rlf_slide rla_heights rla_ladders rla_minutes rla_echoFrom rla_echoTo rla_homes rla_talls rla_known rvf_deeds rva_kinds rva_firsts rva_seconds rsf_facts rsa_heard rsa_huts rsa_minutes rcf_voices rcf_step rca_parts rca_heights x1 x2 post_3 := ⟨fun c1 => ⟨fun c2 => ⟨fun c3 => ⟨(((h1.1 c1).1 c2).1 c3).1, fun c4 => cj_q_wcc_X0_copyFrom_3_0 (fun _ _ _ _ h5 h6 => cj_q_wx_X10_keep_99 h_post h5 h6) ((((h1.1 c1).1 c2).1 c3).2.1 c4) ((((h2.1 c1).1 c2).1 c3).2.1 c4), fun c7 => cj_q_wcc_X0_copyFrom_3_0 (fun _ _ _ _ h8 h9 => cj_q_wx_X10_keep_99 h_post h8 h9) ((((h1.1 c1).1 c2).1 c3).2.2 c7) ((((h2.1 c1).1 c2).1 c3).2.2 c7)⟩, fun c10 => ⟨(((h1.1 c1).1 c2).2 c10).1, fun c11 => cj_q_wss_X6_copyFrom_4_0 (fun _ _ _ _ h12 h13 => cj_q_wx_X10_keep_99 h_post h12 h13) ((((h1.1 c1).1 c2).2 c10).2.1 c11) ((((h2.1 c1).1 c2).2 c10).2.1 c11), fun c14 => cj_q_wss_X6_copyFrom_4_0 (fun _ _ _ _ h15 h16 => cj_q_wx_X10_keep_99 h_post h15 h16) ((((h1.1 c1).1 c2).2 c10).2.2 c14) ((((h2.1 c1).1 c2).2 c10).2.2 c14)⟩⟩, fun c17 => ⟨((h1.1 c1).2 c17).1, fun c18 => cj_q_wvv_X1_copyFrom_4_0 (fun _ _ _ _ h19 h20 => cj_q_wx_X10_keep_99 h_post h19 h20) (((h1.1 c1).2 c17).2.1 c18) (((h2.1 c1).2 c17).2.1 c18), fun c21 => cj_q_wvv_X1_copyFrom_4_0 (fun _ _ _ _ h22 h23 => cj_q_wx_X10_keep_99 h_post h22 h23) (((h1.1 c1).2 c17).2.2 c21) (((h2.1 c1).2 c17).2.2 c21)⟩⟩, fun c24 => ⟨(h1.2 c24).1, fun c25 => cj_q_wll_X2_copyFrom_9_0 (fun _ _ _ _ _ _ _ _ _ _ _ _ _ _ _ h26 h27 => cj_q_wx_X10_keep_99 h_post h26 h27) ((h1.2 c24).2.1 c25) ((h2.2 c24).2.1 c25), fun c28 => cj_q_wll_X2_copyFrom_9_0 (fun _ _ _ _ _ _ _ _ _ _ _ _ _ _ _ h29 h30 => cj_q_wx_X10_keep_99 h_post h29 h30) ((h1.2 c24).2.2 c28) ((h2.2 c24).2.2 c28)⟩⟩
set_option maxRecDepth 40000 in
theorem cj_q_wx_X10_numberFor_0 {ta_counts : Nat → Int32} {x1 : Int32} {x2 : Int32} {post_1 post_2 post_3 : Int32 → Prop} (h_post : ∀ x0, post_1 x0 → post_2 x0 → post_3 x0) (h1 : q_wx_X10_numberFor_0 ta_counts x1 x2 post_1) (h2 : q_wx_X10_numberFor_0 ta_counts x1 x2 post_2) : q_wx_X10_numberFor_0 ta_counts x1 x2 post_3 := ⟨fun c1 => h_post _ (h1.1 c1) (h2.1 c1), fun c2 => ⟨fun c3 => ⟨((h1.2 c2).1 c3).1, fun v4 e5 => ⟨fun c6 => ⟨fun c7 => h_post _ (((((h1.2 c2).1 c3).2 v4 e5).1 c6).1 c7) (((((h2.2 c2).1 c3).2 v4 e5).1 c6).1 c7), fun c8 => ⟨fun c9 => h_post _ ((((((h1.2 c2).1 c3).2 v4 e5).1 c6).2 c8).1 c9) ((((((h2.2 c2).1 c3).2 v4 e5).1 c6).2 c8).1 c9), fun c10 => h_post _ ((((((h1.2 c2).1 c3).2 v4 e5).1 c6).2 c8).2 c10) ((((((h2.2 c2).1 c3).2 v4 e5).1 c6).2 c8).2 c10)⟩⟩, fun c11 => ⟨fun c12 => h_post _ (((((h1.2 c2).1 c3).2 v4 e5).2 c11).1 c12) (((((h2.2 c2).1 c3).2 v4 e5).2 c11).1 c12), fun c13 => h_post _ (((((h1.2 c2).1 c3).2 v4 e5).2 c11).2 c13) (((((h2.2 c2).1 c3).2 v4 e5).2 c11).2 c13)⟩⟩⟩, fun c14 => h_post _ ((h1.2 c2).2 c14) ((h2.2 c2).2 c14)⟩⟩
set_option maxRecDepth 40000 in
theorem cj_q_wx_X10_text_0 {ta_tape : Nat → Int32} {tf_length : Int32} {tf_fault : Int32} {tf_place : Int32} {ta_counts : Nat → Int32} {tl0f_huts : Int32} {tl0f_singers : Int32} {tl0f_villages : Int32} {tl0f_dams : Int32} {tl0f_echoes : Int32} {tl0f_deep : Int32} {tl0f_slide : Int32} {tl0a_heights : Nat → Int32} {tl0a_ladders : Nat → Int32} {tl0a_minutes : Nat → Int32} {tl0a_echoFrom : Nat → Int32} {tl0a_echoTo : Nat → Int32} {tl0a_homes : Nat → Int32} {tl0a_talls : Nat → Int32} {tl0a_known : Nat → Int32} {tl1f_huts : Int32} {tl1f_singers : Int32} {tl1f_villages : Int32} {tl1f_dams : Int32} {tl1f_echoes : Int32} {tl1f_deep : Int32} {tl1f_slide : Int32} {tl1a_heights : Nat → Int32} {tl1a_ladders : Nat → Int32} {tl1a_minutes : Nat → Int32} {tl1a_echoFrom : Nat → Int32} {tl1a_echoTo : Nat → Int32} {tl1a_homes : Nat → Int32} {tl1a_talls : Nat → Int32} {tl1a_known : Nat → Int32} {tv0f_deeds : Int32} {tv0a_kinds : Nat → Int32} {tv0a_firsts : Nat → Int32} {tv0a_seconds : Nat → Int32} {tv1f_deeds : Int32} {tv1a_kinds : Nat → Int32} {tv1a_firsts : Nat → Int32} {tv1a_seconds : Nat → Int32} {ts0f_facts : Int32} {ts0a_heard : Nat → Int32} {ts0a_huts : Nat → Int32} {ts0a_minutes : Nat → Int32} {ts1f_facts : Int32} {ts1a_heard : Nat → Int32} {ts1a_huts : Nat → Int32} {ts1a_minutes : Nat → Int32} {tc0f_voices : Int32} {tc0f_step : Int32} {tc0a_parts : Nat → Int32} {tc0a_heights : Nat → Int32} {tc1f_voices : Int32} {tc1f_step : Int32} {tc1a_parts : Nat → Int32} {tc1a_heights : Nat → Int32} {rlf_huts : Int32} {rlf_singers : Int32} {rlf_villages : Int32} {rlf_dams : Int32} {rlf_echoes : Int32} {rlf_deep : Int32} {rlf_slide : Int32} {rla_heights : Nat → Int32} {rla_ladders : Nat → Int32} {rla_minutes : Nat → Int32} {rla_echoFrom : Nat → Int32} {rla_echoTo : Nat → Int32} {rla_homes : Nat → Int32} {rla_talls : Nat → Int32} {rla_known : Nat → Int32} {rvf_deeds : Int32} {rva_kinds : Nat → Int32} {rva_firsts : Nat → Int32} {rva_seconds : Nat → Int32} {rsf_facts : Int32} {rsa_heard : Nat → Int32} {rsa_huts : Nat → Int32} {rsa_minutes : Nat → Int32} {rcf_voices : Int32} {rcf_step : Int32} {rca_parts : Nat → Int32} {rca_heights : Nat → Int32} {rf_fault : Int32} {rf_faultPlace : Int32} {ra_numbers : Nat → Int32} {ra_tape : Nat → Int32} {rf_length : Int32} {rf_behind : Int32} {rf_kind : Int32} {rf_first : Int32} {rf_value : Int32} {rf_hutsToldOf : Int32} {rf_singersToldOf : Int32} {x1 : Int32} {x2 : Int32} {post_1 post_2 post_3 : Int32 → (Int32) → (Int32) → (Int32) → (Nat → Int32) → (Int32) → (Int32) → (Int32) → (Int32) → (Int32) → (Int32) → (Int32) → (Nat → Int32) → (Nat → Int32) → (Nat → Int32) → (Nat → Int32) → (Nat → Int32) → (Nat → Int32) → (Nat → Int32) → (Nat → Int32) → (Int32) → (Int32) → (Int32) → (Int32) → (Int32) → (Int32) → (Int32) → (Nat → Int32) → (Nat → Int32) → (Nat → Int32) → (Nat → Int32) → (Nat → Int32) → (Nat → Int32) → (Nat → Int32) → (Nat → Int32) → (Int32) → (Nat → Int32) → (Nat → Int32) → (Nat → Int32) → (Int32) → (Nat → Int32) → (Nat → Int32) → (Nat → Int32) → (Int32) → (Nat → Int32) → (Nat → Int32) → (Nat → Int32) → (Int32) → (Nat → Int32) → (Nat → Int32) → (Nat → Int32) → (Int32) → (Int32) → (Nat → Int32) → (Nat → Int32) → (Int32) → (Int32) → (Nat → Int32) → (Nat → Int32) → (Int32) → (Int32) → (Int32) → (Int32) → (Int32) → (Int32) → (Int32) → (Nat → Int32) → (Nat → Int32) → (Nat → Int32) → (Nat → Int32) → (Nat → Int32) → (Nat → Int32) → (Nat → Int32) → (Nat → Int32) → (Int32) → (Nat → Int32) → (Nat → Int32) → (Nat → Int32) → (Int32) → (Nat → Int32) → (Nat → Int32) → (Nat → Int32) → (Int32) → (Int32) → (Nat → Int32) → (Nat → Int32) → (Int32) → (Int32) → (Nat → Int32) → (Nat → Int32) → (Int32) → (Int32) → (Int32) → (Int32) → (Int32) → (Int32) → (Int32) → Prop} (h_post : ∀ x0 x1 x2 x3 x4 x5 x6 x7 x8 x9 x10 x11 x12 x13 x14 x15 x16 x17 x18 x19 x20 x21 x22 x23 x24 x25 x26 x27 x28 x29 x30 x31 x32 x33 x34 x35 x36 x37 x38 x39 x40 x41 x42 x43 x44 x45 x46 x47 x48 x49 x50 x51 x52 x53 x54 x55 x56 x57 x58 x59 x60 x61 x62 x63 x64 x65 x66 x67 x68 x69 x70 x71 x72 x73 x74 x75 x76 x77 x78 x79 x80 x81 x82 x83 x84 x85 x86 x87 x88 x89 x90 x91 x92 x93 x94 x95 x96, post_1 x0 x1 x2 x3 x4 x5 x6 x7 x8 x9 x10 x11 x12 x13 x14 x15 x16 x17 x18 x19 x20 x21 x22 x23 x24 x25 x26 x27 x28 x29 x30 x31 x32 x33 x34 x35 x36 x37 x38 x39 x40 x41 x42 x43 x44 x45 x46 x47 x48 x49 x50 x51 x52 x53 x54 x55 x56 x57 x58 x59 x60 x61 x62 x63 x64 x65 x66 x67 x68 x69 x70 x71 x72 x73 x74 x75 x76 x77 x78 x79 x80 x81 x82 x83 x84 x85 x86 x87 x88 x89 x90 x91 x92 x93 x94 x95 x96 → post_2 x0 x1 x2 x3 x4 x5 x6 x7 x8 x9 x10 x11 x12 x13 x14 x15 x16 x17 x18 x19 x20 x21 x22 x23 x24 x25 x26 x27 x28 x29 x30 x31 x32 x33 x34 x35 x36 x37 x38 x39 x40 x41 x42 x43 x44 x45 x46 x47 x48 x49 x50 x51 x52 x53 x54 x55 x56 x57 x58 x59 x60 x61 x62 x63 x64 x65 x66 x67 x68 x69 x70 x71 x72 x73 x74 x75 x76 x77 x78 x79 x80 x81 x82 x83 x84 x85 x86 x87 x88 x89 x90 x91 x92 x93 x94 x95 x96 → post_3 x0 x1 x2 x3 x4 x5 x6 x7 x8 x9 x10 x11 x12 x13 x14 x15 x16 x17 x18 x19 x20 x21 x22 x23 x24 x25 x26 x27 x28 x29 x30 x31 x32 x33 x34 x35 x36 x37 x38 x39 x40 x41 x42 x43 x44 x45 x46 x47 x48 x49 x50 x51 x52 x53 x54 x55 x56 x57 x58 x59 x60 x61 x62 x63 x64 x65 x66 x67 x68 x69 x70 x71 x72 x73 x74 x75 x76 x77 x78 x79 x80 x81 x82 x83 x84 x85 x86 x87 x88 x89 x90 x91 x92 x93 x94 x95 x96) (h1 : q_wx_X10_text_0 ta_tape tf_length tf_fault tf_place ta_counts tl0f_huts tl0f_singers tl0f_villages tl0f_dams tl0f_echoes tl0f_deep tl0f_slide tl0a_heights tl0a_ladders tl0a_minutes tl0a_echoFrom tl0a_echoTo tl0a_homes tl0a_talls tl0a_known tl1f_huts tl1f_singers tl1f_villages tl1f_dams tl1f_echoes tl1f_deep tl1f_slide tl1a_heights tl1a_ladders tl1a_minutes tl1a_echoFrom tl1a_echoTo tl1a_homes tl1a_talls tl1a_known tv0f_deeds tv0a_kinds tv0a_firsts tv0a_seconds tv1f_deeds tv1a_kinds tv1a_firsts tv1a_seconds ts0f_facts ts0a_heard ts0a_huts ts0a_minutes ts1f_facts ts1a_heard ts1a_huts ts1a_minutes tc0f_voices tc0f_step tc0a_parts tc0a_heights tc1f_voices tc1f_step tc1a_parts tc1a_heights rlf_huts rlf_singers rlf_villages rlf_dams rlf_echoes rlf_deep rlf_slide rla_heights rla_ladders rla_minutes rla_echoFrom rla_echoTo rla_homes rla_talls rla_known rvf_deeds rva_kinds rva_firsts rva_seconds rsf_facts rsa_heard rsa_huts rsa_minutes rcf_voices rcf_step rca_parts rca_heights rf_fault rf_faultPlace ra_numbers ra_tape rf_length rf_behind rf_kind rf_first rf_value rf_hutsToldOf rf_singersToldOf x1 x2 post_1) (h2 : q_wx_X10_text_0 ta_tape tf_length tf_fault tf_place ta_counts tl0f_huts tl0f_singers tl0f_villages tl0f_dams tl0f_echoes tl0f_deep tl0f_slide tl0a_heights tl0a_ladders tl0a_minutes tl0a_echoFrom tl0a_echoTo tl0a_homes tl0a_talls tl0a_known tl1f_huts tl1f_singers tl1f_villages tl1f_dams tl1f_echoes tl1f_deep tl1f_slide tl1a_heights tl1a_ladders tl1a_minutes tl1a_echoFrom tl1a_echoTo tl1a_homes tl1a_talls tl1a_known tv0f_deeds tv0a_kinds tv0a_firsts tv0a_seconds tv1f_deeds tv1a_kinds tv1a_firsts tv1a_seconds ts0f_facts ts0a_heard ts0a_huts ts0a_minutes ts1f_facts ts1a_heard ts1a_huts ts1a_minutes tc0f_voices tc0f_step tc0a_parts tc0a_heights tc1f_voices tc1f_step tc1a_parts tc1a_heights rlf_huts rlf_singers rlf_villages rlf_dams rlf_echoes rlf_deep rlf_slide rla_heights rla_ladders rla_minutes rla_echoFrom rla_echoTo rla_homes rla_talls rla_known rvf_deeds rva_kinds rva_firsts rva_seconds rsf_facts rsa_heard rsa_huts rsa_minutes rcf_voices rcf_step rca_parts rca_heights rf_fault rf_faultPlace ra_numbers ra_tape rf_length rf_behind rf_kind rf_first rf_value rf_hutsToldOf rf_singersToldOf x1 x2 post_2) : q_wx_X10_text_0 ta_tape tf_length tf_fault tf_place ta_counts tl0f_huts tl0f_singers tl0f_villages tl0f_dams tl0f_echoes tl0f_deep tl0f_slide tl0a_heights tl0a_ladders tl0a_minutes tl0a_echoFrom tl0a_echoTo tl0a_homes tl0a_talls tl0a_known tl1f_huts tl1f_singers tl1f_villages tl1f_dams tl1f_echoes tl1f_deep tl1f_slide tl1a_heights tl1a_ladders tl1a_minutes tl1a_echoFrom tl1a_echoTo tl1a_homes tl1a_talls tl1a_known tv0f_deeds tv0a_kinds tv0a_firsts tv0a_seconds tv1f_deeds tv1a_kinds tv1a_firsts tv1a_seconds ts0f_facts ts0a_heard ts0a_huts ts0a_minutes ts1f_facts ts1a_heard ts1a_huts ts1a_minutes tc0f_voices tc0f_step tc0a_parts tc0a_heights tc1f_voices tc1f_step tc1a_parts tc1a_heights rlf_huts rlf_singers rlf_villages rlf_dams rlf_echoes rlf_deep rlf_slide rla_heights rla_ladders rla_minutes rla_echoFrom rla_echoTo rla_homes rla_talls rla_known rvf_deeds rva_kinds rva_firsts rva_seconds rsf_facts rsa_heard rsa_huts rsa_minutes rcf_voices rcf_step rca_parts rca_heights rf_fault rf_faultPlace ra_numbers ra_tape rf_length rf_behind rf_kind rf_first rf_value rf_hutsToldOf rf_singersToldOf x1 x2 post_3 := cj_q_wx_X10_numberFor_0 (fun _ h1 h2 => ⟨fun c3 => cj_q_wr_X4_read_23_0 (fun _ _ _ _ _ _ _ _ _ _ _ _ _ _ _ _ _ _ _ _ _ _ _ _ _ _ _ _ _ _ _ _ _ _ _ _ _ _ h4 h5 => ⟨fun c6 => cj_q_wx_X10_keep_0 (fun _ _ _ _ _ _ _ _ _ _ _ _ _ _ _ _ _ _ _ _ _ _ _ _ _ _ _ _ _ _ _ _ _ _ _ _ _ _ _ _ _ _ _ _ _ _ _ _ _ _ _ _ _ _ _ h7 h8 => h_post _ _ _ _ _ _ _ _ _ _ _ _ _ _ _ _ _ _ _ _ _ _ _ _ _ _ _ _ _ _ _ _ _ _ _ _ _ _ _ _ _ _ _ _ _ _ _ _ _ _ _ _ _ _ _ _ _ _ _ _ _ _ _ _ _ _ _ _ _ _ _ _ _ _ _ _ _ _ _ _ _ _ _ _ _ _ _ _ _ _ _ _ _ _ _ _ _ h7 h8) (h4.1 c6) (h5.1 c6), fun c9 => h_post _ _ _ _ _ _ _ _ _ _ _ _ _ _ _ _ _ _ _ _ _ _ _ _ _ _ _ _ _ _ _ _ _ _ _ _ _ _ _ _ _ _ _ _ _ _ _ _ _ _ _ _ _ _ _ _ _ _ _ _ _ _ _ _ _ _ _ _ _ _ _ _ _ _ _ _ _ _ _ _ _ _ _ _ _ _ _ _ _ _ _ _ _ _ _ _ _ (h4.2 c9) (h5.2 c9)⟩) (h1.1 c3) (h2.1 c3), fun c10 => h_post _ _ _ _ _ _ _ _ _ _ _ _ _ _ _ _ _ _ _ _ _ _ _ _ _ _ _ _ _ _ _ _ _ _ _ _ _ _ _ _ _ _ _ _ _ _ _ _ _ _ _ _ _ _ _ _ _ _ _ _ _ _ _ _ _ _ _ _ _ _ _ _ _ _ _ _ _ _ _ _ _ _ _ _ _ _ _ _ _ _ _ _ _ _ _ _ _ (h1.2 c10) (h2.2 c10)⟩) h1 h2
set_option maxRecDepth 40000 in
theorem cj_q_m_four_3 {a_tape : Nat → Int32} {a_size : Nat → Int32} {x1 : Int32} {x2 : Int32} {post_1 post_2 post_3 : (Nat → Int32) → (Nat → Int32) → Prop} (h_post : ∀ x0 x1, post_1 x0 x1 → post_2 x0 x1 → post_3 x0 x1) (h1 : q_m_four_3 a_tape a_size x1 x2 post_1) (h2 : q_m_four_3 a_tape a_size x1 x2 post_2) : q_m_four_3 a_tape a_size x1 x2 post_3 := lfp_3 h1 h2 (fun A B C hsk1 _ _ _ hak1 hck1 => ⟨fun c2 => h_post _ _ (hak1.1 c2) (hck1.1 c2), fun c3 => fun v4 e5 => ⟨((hak1.2 c3) v4 e5).1, fun v6 e7 => fun v8 e9 => fun v10 e11 => fun v12 e13 => hsk1 _ _ _ ((((((hak1.2 c3) v4 e5).2 v6 e7) v8 e9) v10 e11) v12 e13) ((((((hck1.2 c3) v4 e5).2 v6 e7) v8 e9) v10 e11) v12 e13)⟩⟩) (fun A B hqk1 _ _ _ hbk1 => ⟨fun c14 => (hbk1.1 c14), fun c15 => fun v16 e17 => ⟨((hbk1.2 c15) v16 e17).1, fun v18 e19 => fun v20 e21 => fun v22 e23 => fun v24 e25 => hqk1 _ _ _ ((((((hbk1.2 c15) v16 e17).2 v18 e19) v20 e21) v22 e23) v24 e25)⟩⟩)
set_option maxRecDepth 40000 in
theorem cj_q_m_four_0 {a_tape : Nat → Int32} {a_size : Nat → Int32} {x1 : Int32} {post_1 post_2 post_3 : (Nat → Int32) → (Nat → Int32) → Prop} (h_post : ∀ x0 x1, post_1 x0 x1 → post_2 x0 x1 → post_3 x0 x1) (h1 : q_m_four_0 a_tape a_size x1 post_1) (h2 : q_m_four_0 a_tape a_size x1 post_2) : q_m_four_0 a_tape a_size x1 post_3 := cj_q_m_four_3 h_post h1 h2
set_option maxRecDepth 40000 in
theorem cj_q_m_feed_0 {f_code : Int32} {a_tape : Nat → Int32} {a_size : Nat → Int32} {x1 : Int32} {x2 : Int32} {x3 : Int32} {x4 : Int32} {x5 : Int32} {post_1 post_2 post_3 : Int32 → (Int32) → (Nat → Int32) → (Nat → Int32) → Prop} (h_post : ∀ x0 x1 x2 x3, post_1 x0 x1 x2 x3 → post_2 x0 x1 x2 x3 → post_3 x0 x1 x2 x3) (h1 : q_m_feed_0 f_code a_tape a_size x1 x2 x3 x4 x5 post_1) (h2 : q_m_feed_0 f_code a_tape a_size x1 x2 x3 x4 x5 post_2) : q_m_feed_0 f_code a_tape a_size x1 x2 x3 x4 x5 post_3 := ⟨fun c1 => cj_q_m_four_0 (fun _ _ h2 h3 => cj_q_m_four_0 (fun _ _ h4 h5 => cj_q_m_four_0 (fun _ _ h6 h7 => cj_q_m_four_0 (fun _ _ h8 h9 => cj_q_m_four_0 (fun _ _ h10 h11 => h_post _ _ _ _ h10 h11) h8 h9) h6 h7) h4 h5) h2 h3) (h1.1 c1) (h2.1 c1), fun c12 => h_post _ _ _ _ (h1.2 c12) (h2.2 c12)⟩
set_option maxRecDepth 40000 in
theorem cj_q_m_in_0 {x0 : Int32} {x1 : Int32} {x2 : Int32} {post_1 post_2 post_3 : Int32 → Prop} (h_post : ∀ x0, post_1 x0 → post_2 x0 → post_3 x0) (h1 : q_m_in_0 x0 x1 x2 post_1) (h2 : q_m_in_0 x0 x1 x2 post_2) : q_m_in_0 x0 x1 x2 post_3 := ⟨fun c1 => h_post _ (h1.1 c1) (h2.1 c1), fun c2 => ⟨fun c3 => h_post _ ((h1.2 c2).1 c3) ((h2.2 c2).1 c3), fun c4 => h_post _ ((h1.2 c2).2 c4) ((h2.2 c2).2 c4)⟩⟩
set_option maxRecDepth 40000 in
theorem cj_q_m_is_0 {a_many : Nat → Int32} {x1 : Int32} {x2 : Int32} {post_1 post_2 post_3 : Int32 → Prop} (h_post : ∀ x0, post_1 x0 → post_2 x0 → post_3 x0) (h1 : q_m_is_0 a_many x1 x2 post_1) (h2 : q_m_is_0 a_many x1 x2 post_2) : q_m_is_0 a_many x1 x2 post_3 := ⟨h1.1, cj_q_m_in_0 (fun _ h1 h2 => ⟨h1.1, h_post _ h1.2 h2.2⟩) h1.2 h2.2⟩
set_option maxRecDepth 40000 in
theorem cj_q_m_fails_0 {f_begins : Int32} {f_wrongAt : Int32} {post_1 post_2 post_3 : Int32 → (Int32) → Prop} (h_post : ∀ x0 x1, post_1 x0 x1 → post_2 x0 x1 → post_3 x0 x1) (h1 : q_m_fails_0 f_begins f_wrongAt post_1) (h2 : q_m_fails_0 f_begins f_wrongAt post_2) : q_m_fails_0 f_begins f_wrongAt post_3 := h_post _ _ h1 h2
set_option maxRecDepth 40000 in
theorem cj_q_m_further_0 {a_told : Nat → Int32} {x1 : Int32} {x2 : Int32} {post_1 post_2 post_3 : Int32 → (Nat → Int32) → Prop} (h_post : ∀ x0 x1, post_1 x0 x1 → post_2 x0 x1 → post_3 x0 x1) (h1 : q_m_further_0 a_told x1 x2 post_1) (h2 : q_m_further_0 a_told x1 x2 post_2) : q_m_further_0 a_told x1 x2 post_3 := ⟨h1.1, fun v1 e2 => ⟨fun c3 => ⟨((h1.2 v1 e2).1 c3).1, fun v4 e5 => ⟨(((h1.2 v1 e2).1 c3).2 v4 e5).1, fun v6 e7 => h_post _ _ ((((h1.2 v1 e2).1 c3).2 v4 e5).2 v6 e7) ((((h2.2 v1 e2).1 c3).2 v4 e5).2 v6 e7)⟩⟩, fun c8 => h_post _ _ ((h1.2 v1 e2).2 c8) ((h2.2 v1 e2).2 c8)⟩⟩
set_option maxRecDepth 40000 in
theorem cj_q_m_keep_10 {a_told : Nat → Int32} {a_read : Nat → Int32} {x1 : Int32} {x3 : Int32} {x4 : Int32} {post_1 post_2 post_3 : (Nat → Int32) → Prop} (h_post : ∀ x0, post_1 x0 → post_2 x0 → post_3 x0) (h1 : q_m_keep_10 a_told a_read x1 x3 x4 post_1) (h2 : q_m_keep_10 a_told a_read x1 x3 x4 post_2) : q_m_keep_10 a_told a_read x1 x3 x4 post_3 := lfp_2 h1 h2 (fun A B C hsk1 _ _ hak1 hck1 => ⟨fun c2 => h_post _ (hak1.1 c2) (hck1.1 c2), fun c3 => ⟨fun c4 => h_post _ ((hak1.2 c3).1 c4) ((hck1.2 c3).1 c4), fun c5 => ⟨((hak1.2 c3).2 c5).1, fun v6 e7 => ⟨(((hak1.2 c3).2 c5).2 v6 e7).1, fun v8 e9 => fun v10 e11 => hsk1 _ _ (((((hak1.2 c3).2 c5).2 v6 e7).2 v8 e9) v10 e11) (((((hck1.2 c3).2 c5).2 v6 e7).2 v8 e9) v10 e11)⟩⟩⟩⟩) (fun A B hqk1 _ _ hbk1 => ⟨fun c12 => (hbk1.1 c12), fun c13 => ⟨fun c14 => ((hbk1.2 c13).1 c14), fun c15 => ⟨((hbk1.2 c13).2 c15).1, fun v16 e17 => ⟨(((hbk1.2 c13).2 c15).2 v16 e17).1, fun v18 e19 => fun v20 e21 => hqk1 _ _ (((((hbk1.2 c13).2 c15).2 v16 e17).2 v18 e19) v20 e21)⟩⟩⟩⟩)
set_option maxRecDepth 40000 in
theorem cj_q_m_keep_0 {a_told : Nat → Int32} {a_read : Nat → Int32} {x1 : Int32} {x2 : Int32} {post_1 post_2 post_3 : (Nat → Int32) → Prop} (h_post : ∀ x0, post_1 x0 → post_2 x0 → post_3 x0) (h1 : q_m_keep_0 a_told a_read x1 x2 post_1) (h2 : q_m_keep_0 a_told a_read x1 x2 post_2) : q_m_keep_0 a_told a_read x1 x2 post_3 := cj_q_m_further_0 (fun _ _ h1 h2 => cj_q_m_keep_10 h_post h1 h2) h1 h2
set_option maxRecDepth 40000 in
theorem cj_q_m_later_31 {f_laterFault : Int32} {f_laterPlace : Int32} {x1 : Int32} {x2 : Int32} {post_1 post_2 post_3 : (Int32) → (Int32) → Prop} (h_post : ∀ x0 x1, post_1 x0 x1 → post_2 x0 x1 → post_3 x0 x1) (h1 : q_m_later_31 f_laterFault f_laterPlace x1 x2 post_1) (h2 : q_m_later_31 f_laterFault f_laterPlace x1 x2 post_2) : q_m_later_31 f_laterFault f_laterPlace x1 x2 post_3 := h_post _ _ h1 h2
set_option maxRecDepth 40000 in
theorem cj_q_m_later_0 {f_laterFault : Int32} {f_laterPlace : Int32} {x1 : Int32} {x2 : Int32} {post_1 post_2 post_3 : (Int32) → (Int32) → Prop} (h_post : ∀ x0 x1, post_1 x0 x1 → post_2 x0 x1 → post_3 x0 x1) (h1 : q_m_later_0 f_laterFault f_laterPlace x1 x2 post_1) (h2 : q_m_later_0 f_laterFault f_laterPlace x1 x2 post_2) : q_m_later_0 f_laterFault f_laterPlace x1 x2 post_3 := ⟨fun c1 => cj_q_m_later_31 h_post (h1.1 c1) (h2.1 c1), fun c2 => ⟨fun c3 => cj_q_m_later_31 h_post ((h1.2 c2).1 c3) ((h2.2 c2).1 c3), fun c4 => ⟨fun c5 => h_post _ _ (((h1.2 c2).2 c4).1 c5) (((h2.2 c2).2 c4).1 c5), fun c6 => ⟨fun c7 => h_post _ _ ((((h1.2 c2).2 c4).2 c6).1 c7) ((((h2.2 c2).2 c4).2 c6).1 c7), fun c8 => cj_q_m_later_31 h_post ((((h1.2 c2).2 c4).2 c6).2 c8) ((((h2.2 c2).2 c4).2 c6).2 c8)⟩⟩⟩⟩
set_option maxRecDepth 40000 in
theorem cj_q_m_see_0 {a_tape : Nat → Int32} {f_reached : Int32} {f_length : Int32} {post_1 post_2 post_3 : Int32 → Prop} (h_post : ∀ x0, post_1 x0 → post_2 x0 → post_3 x0) (h1 : q_m_see_0 a_tape f_reached f_length post_1) (h2 : q_m_see_0 a_tape f_reached f_length post_2) : q_m_see_0 a_tape f_reached f_length post_3 := ⟨fun c1 => h_post _ (h1.1 c1) (h2.1 c1), fun c2 => ⟨(h1.2 c2).1, h_post _ (h1.2 c2).2 (h2.2 c2).2⟩⟩
set_option maxRecDepth 40000 in
theorem cj_q_m_token_205 {P163_1 P163_2 P163_3 : Int32 → (Int32) → (Int32) → Prop} {a_tape : Nat → Int32} {f_reached : Int32} {f_length : Int32} {f_begins : Int32} {f_sort : Int32} {f_value : Int32} {f_word : Int64} {x2 : Int32} {y0 : Int32} {post_1 post_2 post_3 : (Int32) → (Int32) → (Int32) → (Int32) → (Int64) → Prop} (h_P163 : ∀ x0 x1 x2, P163_1 x0 x1 x2 → P163_2 x0 x1 x2 → P163_3 x0 x1 x2) (h_post : ∀ x0 x1 x2 x3 x4, post_1 x0 x1 x2 x3 x4 → post_2 x0 x1 x2 x3 x4 → post_3 x0 x1 x2 x3 x4) (h1 : q_m_token_205 P163_1 a_tape f_reached f_length f_begins f_sort f_value f_word x2 y0 post_1) (h2 : q_m_token_205 P163_2 a_tape f_reached f_length f_begins f_sort f_value f_word x2 y0 post_2) : q_m_token_205 P163_3 a_tape f_reached f_length f_begins f_sort f_value f_word x2 y0 post_3 := fun v1 e2 => fun v3 e4 => h_P163 _ _ _ ((h1 v1 e2) v3 e4) ((h2 v1 e2) v3 e4)
set_option maxRecDepth 40000 in
theorem cj_q_m_token_235 {a_tape : Nat → Int32} {f_reached : Int32} {f_length : Int32} {f_begins : Int32} {f_sort : Int32} {f_value : Int32} {f_word : Int64} {y0 : Int32} {post_1 post_2 post_3 : (Int32) → (Int32) → (Int32) → (Int32) → (Int64) → Prop} (h_post : ∀ x0 x1 x2 x3 x4, post_1 x0 x1 x2 x3 x4 → post_2 x0 x1 x2 x3 x4 → post_3 x0 x1 x2 x3 x4) (h1 : q_m_token_235 a_tape f_reached f_length f_begins f_sort f_value f_word y0 post_1) (h2 : q_m_token_235 a_tape f_reached f_length f_begins f_sort f_value f_word y0 post_2) : q_m_token_235 a_tape f_reached f_length f_begins f_sort f_value f_word y0 post_3 := h_post _ _ _ _ _ h1 h2
set_option maxRecDepth 40000 in
theorem cj_q_m_token_163 {a_tape : Nat → Int32} {f_reached : Int32} {f_length : Int32} {f_begins : Int32} {f_sort : Int32} {f_value : Int32} {f_word : Int64} {x2 : Int32} {post_1 post_2 post_3 : (Int32) → (Int32) → (Int32) → (Int32) → (Int64) → Prop} (h_post : ∀ x0 x1 x2 x3 x4, post_1 x0 x1 x2 x3 x4 → post_2 x0 x1 x2 x3 x4 → post_3 x0 x1 x2 x3 x4) (h1 : q_m_token_163 a_tape f_reached f_length f_begins f_sort f_value f_word x2 post_1) (h2 : q_m_token_163 a_tape f_reached f_length f_begins f_sort f_value f_word x2 post_2) : q_m_token_163 a_tape f_reached f_length f_begins f_sort f_value f_word x2 post_3 := lfp_3 h1 h2 (fun A B C hsk1 _ _ _ hak1 hck1 => cj_q_m_see_0 (fun _ h2 h3 => cj_q_m_in_0 (fun _ h4 h5 => ⟨fun c6 => ⟨fun c7 => cj_q_m_token_235 h_post ((h4.1 c6).1 c7) ((h5.1 c6).1 c7), fun c8 => cj_q_m_token_235 h_post ((h4.1 c6).2 c8) ((h5.1 c6).2 c8)⟩, fun c9 => ⟨fun c10 => cj_q_m_token_205 hsk1 h_post ((h4.2 c9).1 c10) ((h5.2 c9).1 c10), fun c11 => cj_q_m_see_0 (fun _ h12 h13 => cj_q_m_token_205 hsk1 h_post h12 h13) ((h4.2 c9).2 c11) ((h5.2 c9).2 c11)⟩⟩) h2 h3) hak1 hck1) (fun A B hqk1 _ _ _ hbk1 => cj_q_m_see_0 (fun _ h14 h15 => cj_q_m_in_0 (fun _ h16 h17 => ⟨fun c18 => ⟨fun c19 => cj_q_m_token_235 (fun _ _ _ _ _ h _ => h) ((h16.1 c18).1 c19) ((h17.1 c18).1 c19), fun c20 => cj_q_m_token_235 (fun _ _ _ _ _ h _ => h) ((h16.1 c18).2 c20) ((h17.1 c18).2 c20)⟩, fun c21 => ⟨fun c22 => cj_q_m_token_205 (fun _ _ _ h _ => hqk1 _ _ _ h) (fun _ _ _ _ _ h _ => h) ((h16.2 c21).1 c22) ((h17.2 c21).1 c22), fun c23 => cj_q_m_see_0 (fun _ h24 h25 => cj_q_m_token_205 (fun _ _ _ h _ => hqk1 _ _ _ h) (fun _ _ _ _ _ h _ => h) h24 h25) ((h16.2 c21).2 c23) ((h17.2 c21).2 c23)⟩⟩) h14 h15) hbk1 hbk1)
set_option maxRecDepth 40000 in
theorem cj_q_m_token_18 {P0_1 P0_2 P0_3 : (Int32) → Prop} {a_tape : Nat → Int32} {f_reached : Int32} {f_length : Int32} {f_begins : Int32} {f_sort : Int32} {f_value : Int32} {f_word : Int64} {post_1 post_2 post_3 : (Int32) → (Int32) → (Int32) → (Int32) → (Int64) → Prop} (h_P0 : ∀ x0, P0_1 x0 → P0_2 x0 → P0_3 x0) (h_post : ∀ x0 x1 x2 x3 x4, post_1 x0 x1 x2 x3 x4 → post_2 x0 x1 x2 x3 x4 → post_3 x0 x1 x2 x3 x4) (h1 : q_m_token_18 P0_1 a_tape f_reached f_length f_begins f_sort f_value f_word post_1) (h2 : q_m_token_18 P0_2 a_tape f_reached f_length f_begins f_sort f_value f_word post_2) : q_m_token_18 P0_3 a_tape f_reached f_length f_begins f_sort f_value f_word post_3 := fun v1 e2 => h_P0 _ (h1 v1 e2) (h2 v1 e2)
set_option maxRecDepth 40000 in
theorem cj_q_m_token_263 {a_tape : Nat → Int32} {f_reached : Int32} {f_length : Int32} {f_begins : Int32} {f_sort : Int32} {f_value : Int32} {f_word : Int64} {y0 : Int32} {post_1 post_2 post_3 : (Int32) → (Int32) → (Int32) → (Int32) → (Int64) → Prop} (h_post : ∀ x0 x1 x2 x3 x4, post_1 x0 x1 x2 x3 x4 → post_2 x0 x1 x2 x3 x4 → post_3 x0 x1 x2 x3 x4) (h1 : q_m_token_263 a_tape f_reached f_length f_begins f_sort f_value f_word y0 post_1) (h2 : q_m_token_263 a_tape f_reached f_length f_begins f_sort f_value f_word y0 post_2) : q_m_token_263 a_tape f_reached f_length f_begins f_sort f_value f_word y0 post_3 := h_post _ _ _ _ _ h1 h2
set_option maxRecDepth 40000 in
theorem cj_q_m_token_136 {a_tape : Nat → Int32} {f_reached : Int32} {f_length : Int32} {f_begins : Int32} {f_sort : Int32} {f_value : Int32} {f_word : Int64} {y0 : Int64} {post_1 post_2 post_3 : (Int32) → (Int32) → (Int32) → (Int32) → (Int64) → Prop} (h_post : ∀ x0 x1 x2 x3 x4, post_1 x0 x1 x2 x3 x4 → post_2 x0 x1 x2 x3 x4 → post_3 x0 x1 x2 x3 x4) (h1 : q_m_token_136 a_tape f_reached f_length f_begins f_sort f_value f_word y0 post_1) (h2 : q_m_token_136 a_tape f_reached f_length f_begins f_sort f_value f_word y0 post_2) : q_m_token_136 a_tape f_reached f_length f_begins f_sort f_value f_word y0 post_3 := h_post _ _ _ _ _ h1 h2
set_option maxRecDepth 40000 in
theorem cj_q_m_token_74 {a_tape : Nat → Int32} {f_reached : Int32} {f_length : Int32} {f_begins : Int32} {f_sort : Int32} {f_value : Int32} {f_word : Int64} {x2 : Int32} {post_1 post_2 post_3 : (Int32) → (Int32) → (Int32) → (Int32) → (Int64) → Prop} (h_post : ∀ x0 x1 x2 x3 x4, post_1 x0 x1 x2 x3 x4 → post_2 x0 x1 x2 x3 x4 → post_3 x0 x1 x2 x3 x4) (h1 : q_m_token_74 a_tape f_reached f_length f_begins f_sort f_value f_word x2 post_1) (h2 : q_m_token_74 a_tape f_reached f_length f_begins f_sort f_value f_word x2 post_2) : q_m_token_74 a_tape f_reached f_length f_begins f_sort f_value f_word x2 post_3 := lfp_3 h1 h2 (fun A B C hsk1 _ _ _ hak1 hck1 => cj_q_m_see_0 (fun _ h2 h3 => cj_q_m_in_0 (fun _ h4 h5 => ⟨fun c6 => ⟨fun c7 => cj_q_m_token_136 h_post ((h4.1 c6).1 c7) ((h5.1 c6).1 c7), fun c8 => cj_q_m_token_136 h_post ((h4.1 c6).2 c8) ((h5.1 c6).2 c8)⟩, fun c9 => cj_q_m_see_0 (fun _ h10 h11 => fun v12 e13 => fun v14 e15 => fun v16 e17 => hsk1 _ _ _ (((h10 v12 e13) v14 e15) v16 e17) (((h11 v12 e13) v14 e15) v16 e17)) (h4.2 c9) (h5.2 c9)⟩) h2 h3) hak1 hck1) (fun A B hqk1 _ _ _ hbk1 => cj_q_m_see_0 (fun _ h18 h19 => cj_q_m_in_0 (fun _ h20 h21 => ⟨fun c22 => ⟨fun c23 => cj_q_m_token_136 (fun _ _ _ _ _ h _ => h) ((h20.1 c22).1 c23) ((h21.1 c22).1 c23), fun c24 => cj_q_m_token_136 (fun _ _ _ _ _ h _ => h) ((h20.1 c22).2 c24) ((h21.1 c22).2 c24)⟩, fun c25 => cj_q_m_see_0 (fun _ h26 h27 => fun v28 e29 => fun v30 e31 => fun v32 e33 => hqk1 _ _ _ (((h26 v28 e29) v30 e31) v32 e33)) (h20.2 c25) (h21.2 c25)⟩) h18 h19) hbk1 hbk1)
set_option maxRecDepth 40000 in
theorem cj_q_m_token_0 {a_tape : Nat → Int32} {f_reached : Int32} {f_length : Int32} {f_begins : Int32} {f_sort : Int32} {f_value : Int32} {f_word : Int64} {post_1 post_2 post_3 : (Int32) → (Int32) → (Int32) → (Int32) → (Int64) → Prop} (h_post : ∀ x0 x1 x2 x3 x4, post_1 x0 x1 x2 x3 x4 → post_2 x0 x1 x2 x3 x4 → post_3 x0 x1 x2 x3 x4) (h1 : q_m_token_0 a_tape f_reached f_length f_begins f_sort f_value f_word post_1) (h2 : q_m_token_0 a_tape f_reached f_length f_begins f_sort f_value f_word post_2) : q_m_token_0 a_tape f_reached f_length f_begins f_sort f_value f_word post_3 := lfp_1 h1 h2 (fun A B C hsk1 _ hak1 hck1 => cj_q_m_see_0 (fun _ h2 h3 => ⟨fun c4 => cj_q_m_token_18 hsk1 h_post (h2.1 c4) (h3.1 c4), fun c5 => cj_q_m_see_0 (fun _ h6 h7 => ⟨fun c8 => cj_q_m_see_0 (fun _ h9 h10 => ⟨fun c11 => cj_q_m_in_0 (fun _ h12 h13 => ⟨fun c14 => cj_q_m_in_0 (fun _ h15 h16 => ⟨fun c17 => fun v18 e19 => ⟨fun c20 => cj_q_m_token_263 h_post (((h15.1 c17) v18 e19).1 c20) (((h16.1 c17) v18 e19).1 c20), fun c21 => cj_q_m_token_263 h_post (((h15.1 c17) v18 e19).2 c21) (((h16.1 c17) v18 e19).2 c21)⟩, fun c22 => cj_q_m_token_163 h_post (h15.2 c22) (h16.2 c22)⟩) (h12.1 c14) (h13.1 c14), fun c23 => cj_q_m_token_74 h_post (h12.2 c23) (h13.2 c23)⟩) (h9.1 c11) (h10.1 c11), fun c24 => h_post _ _ _ _ _ (h9.2 c24) (h10.2 c24)⟩) (h6.1 c8) (h7.1 c8), fun c25 => cj_q_m_token_18 hsk1 h_post (h6.2 c25) (h7.2 c25)⟩) (h2.2 c5) (h3.2 c5)⟩) hak1 hck1) (fun A B hqk1 _ hbk1 => cj_q_m_see_0 (fun _ h26 h27 => ⟨fun c28 => cj_q_m_token_18 (fun _ h _ => hqk1 _ h) (fun _ _ _ _ _ h _ => h) (h26.1 c28) (h27.1 c28), fun c29 => cj_q_m_see_0 (fun _ h30 h31 => ⟨fun c32 => cj_q_m_see_0 (fun _ h33 h34 => ⟨fun c35 => cj_q_m_in_0 (fun _ h36 h37 => ⟨fun c38 => cj_q_m_in_0 (fun _ h39 h40 => ⟨fun c41 => fun v42 e43 => ⟨fun c44 => cj_q_m_token_263 (fun _ _ _ _ _ h _ => h) (((h39.1 c41) v42 e43).1 c44) (((h40.1 c41) v42 e43).1 c44), fun c45 => cj_q_m_token_263 (fun _ _ _ _ _ h _ => h) (((h39.1 c41) v42 e43).2 c45) (((h40.1 c41) v42 e43).2 c45)⟩, fun c46 => cj_q_m_token_163 (fun _ _ _ _ _ h _ => h) (h39.2 c46) (h40.2 c46)⟩) (h36.1 c38) (h37.1 c38), fun c47 => cj_q_m_token_74 (fun _ _ _ _ _ h _ => h) (h36.2 c47) (h37.2 c47)⟩) (h33.1 c35) (h34.1 c35), fun c48 => (h33.2 c48)⟩) (h30.1 c32) (h31.1 c32), fun c49 => cj_q_m_token_18 (fun _ h _ => hqk1 _ h) (fun _ _ _ _ _ h _ => h) (h30.2 c49) (h31.2 c49)⟩) (h26.2 c29) (h27.2 c29)⟩) hbk1 hbk1)
set_option maxRecDepth 40000 in
theorem cj_q_m_takeBut_58 {a_tape : Nat → Int32} {f_reached : Int32} {f_length : Int32} {f_begins : Int32} {f_sort : Int32} {f_value : Int32} {f_word : Int64} {f_wrongAt : Int32} {f_laterFault : Int32} {f_laterPlace : Int32} {a_read : Nat → Int32} {f_good : Int32} {post_1 post_2 post_3 : Int32 → (Int32) → (Int32) → (Int32) → (Int32) → (Int64) → (Int32) → (Int32) → (Int32) → (Nat → Int32) → (Int32) → Prop} (h_post : ∀ x0 x1 x2 x3 x4 x5 x6 x7 x8 x9 x10, post_1 x0 x1 x2 x3 x4 x5 x6 x7 x8 x9 x10 → post_2 x0 x1 x2 x3 x4 x5 x6 x7 x8 x9 x10 → post_3 x0 x1 x2 x3 x4 x5 x6 x7 x8 x9 x10) (h1 : q_m_takeBut_58 a_tape f_reached f_length f_begins f_sort f_value f_word f_wrongAt f_laterFault f_laterPlace a_read f_good post_1) (h2 : q_m_takeBut_58 a_tape f_reached f_length f_begins f_sort f_value f_word f_wrongAt f_laterFault f_laterPlace a_read f_good post_2) : q_m_takeBut_58 a_tape f_reached f_length f_begins f_sort f_value f_word f_wrongAt f_laterFault f_laterPlace a_read f_good post_3 := cj_q_m_token_0 (fun _ _ _ _ _ h1 h2 => h_post _ _ _ _ _ _ _ _ _ _ _ h1 h2) h1 h2
set_option maxRecDepth 40000 in
theorem cj_q_m_takeBut_44 {a_tape : Nat → Int32} {f_reached : Int32} {f_length : Int32} {f_begins : Int32} {f_sort : Int32} {f_value : Int32} {f_word : Int64} {f_wrongAt : Int32} {f_laterFault : Int32} {f_laterPlace : Int32} {a_read : Nat → Int32} {f_good : Int32} {post_1 post_2 post_3 : Int32 → (Int32) → (Int32) → (Int32) → (Int32) → (Int64) → (Int32) → (Int32) → (Int32) → (Nat → Int32) → (Int32) → Prop} (h_post : ∀ x0 x1 x2 x3 x4 x5 x6 x7 x8 x9 x10, post_1 x0 x1 x2 x3 x4 x5 x6 x7 x8 x9 x10 → post_2 x0 x1 x2 x3 x4 x5 x6 x7 x8 x9 x10 → post_3 x0 x1 x2 x3 x4 x5 x6 x7 x8 x9 x10) (h1 : q_m_takeBut_44 a_tape f_reached f_length f_begins f_sort f_value f_word f_wrongAt f_laterFault f_laterPlace a_read f_good post_1) (h2 : q_m_takeBut_44 a_tape f_reached f_length f_begins f_sort f_value f_word f_wrongAt f_laterFault f_laterPlace a_read f_good post_2) : q_m_takeBut_44 a_tape f_reached f_length f_begins f_sort f_value f_word f_wrongAt f_laterFault f_laterPlace a_read f_good post_3 := cj_q_m_later_0 (fun _ _ h1 h2 => cj_q_m_takeBut_58 h_post h1 h2) h1 h2
set_option maxRecDepth 40000 in
theorem cj_q_m_takeBut_0 {a_tape : Nat → Int32} {f_reached : Int32} {f_length : Int32} {f_begins : Int32} {f_sort : Int32} {f_value : Int32} {f_word : Int64} {f_wrongAt : Int32} {f_laterFault : Int32} {f_laterPlace : Int32} {a_read : Nat → Int32} {f_good : Int32} {x1 : Int32} {x2 : Int32} {x3 : Int32} {x4 : Int32} {post_1 post_2 post_3 : Int32 → (Int32) → (Int32) → (Int32) → (Int32) → (Int64) → (Int32) → (Int32) → (Int32) → (Nat → Int32) → (Int32) → Prop} (h_post : ∀ x0 x1 x2 x3 x4 x5 x6 x7 x8 x9 x10, post_1 x0 x1 x2 x3 x4 x5 x6 x7 x8 x9 x10 → post_2 x0 x1 x2 x3 x4 x5 x6 x7 x8 x9 x10 → post_3 x0 x1 x2 x3 x4 x5 x6 x7 x8 x9 x10) (h1 : q_m_takeBut_0 a_tape f_reached f_length f_begins f_sort f_value f_word f_wrongAt f_laterFault f_laterPlace a_read f_good x1 x2 x3 x4 post_1) (h2 : q_m_takeBut_0 a_tape f_reached f_length f_begins f_sort f_value f_word f_wrongAt f_laterFault f_laterPlace a_read f_good x1 x2 x3 x4 post_2) : q_m_takeBut_0 a_tape f_reached f_length f_begins f_sort f_value f_word f_wrongAt f_laterFault f_laterPlace a_read f_good x1 x2 x3 x4 post_3 := ⟨fun c1 => ⟨(h1.1 c1).1, fun v2 e3 => cj_q_m_in_0 (fun _ h4 h5 => ⟨fun c6 => cj_q_m_takeBut_44 h_post (h4.1 c6) (h5.1 c6), fun c7 => ⟨fun c8 => cj_q_m_takeBut_58 h_post ((h4.2 c7).1 c8) ((h5.2 c7).1 c8), fun c9 => cj_q_m_takeBut_44 h_post ((h4.2 c7).2 c9) ((h5.2 c7).2 c9)⟩⟩) ((h1.1 c1).2 v2 e3) ((h2.1 c1).2 v2 e3)⟩, fun c10 => cj_q_m_fails_0 (fun _ _ h11 h12 => ⟨h11.1, h_post _ _ _ _ _ _ _ _ _ _ _ h11.2 h12.2⟩) (h1.2 c10) (h2.2 c10)⟩
set_option maxRecDepth 40000 in
theorem cj_q_m_take_0 {a_tape : Nat → Int32} {f_reached : Int32} {f_length : Int32} {f_begins : Int32} {f_sort : Int32} {f_value : Int32} {f_word : Int64} {f_wrongAt : Int32} {f_laterFault : Int32} {f_laterPlace : Int32} {a_read : Nat → Int32} {f_good : Int32} {x1 : Int32} {x2 : Int32} {x3 : Int32} {post_1 post_2 post_3 : Int32 → (Int32) → (Int32) → (Int32) → (Int32) → (Int64) → (Int32) → (Int32) → (Int32) → (Nat → Int32) → (Int32) → Prop} (h_post : ∀ x0 x1 x2 x3 x4 x5 x6 x7 x8 x9 x10, post_1 x0 x1 x2 x3 x4 x5 x6 x7 x8 x9 x10 → post_2 x0 x1 x2 x3 x4 x5 x6 x7 x8 x9 x10 → post_3 x0 x1 x2 x3 x4 x5 x6 x7 x8 x9 x10) (h1 : q_m_take_0 a_tape f_reached f_length f_begins f_sort f_value f_word f_wrongAt f_laterFault f_laterPlace a_read f_good x1 x2 x3 post_1) (h2 : q_m_take_0 a_tape f_reached f_length f_begins f_sort f_value f_word f_wrongAt f_laterFault f_laterPlace a_read f_good x1 x2 x3 post_2) : q_m_take_0 a_tape f_reached f_length f_begins f_sort f_value f_word f_wrongAt f_laterFault f_laterPlace a_read f_good x1 x2 x3 post_3 := cj_q_m_takeBut_0 (fun _ _ _ _ _ _ _ _ _ _ _ h1 h2 => ⟨h1.1, h_post _ _ _ _ _ _ _ _ _ _ _ h1.2 h2.2⟩) h1 h2
set_option maxRecDepth 40000 in
theorem cj_q_m_plainLine_0 {a_tape : Nat → Int32} {f_reached : Int32} {f_length : Int32} {f_begins : Int32} {f_sort : Int32} {f_value : Int32} {f_word : Int64} {f_wrongAt : Int32} {f_laterFault : Int32} {f_laterPlace : Int32} {a_told : Nat → Int32} {a_read : Nat → Int32} {f_good : Int32} {x1 : Int32} {x2 : Int32} {x3 : Int32} {post_1 post_2 post_3 : Int32 → (Int32) → (Int32) → (Int32) → (Int32) → (Int64) → (Int32) → (Int32) → (Int32) → (Nat → Int32) → (Nat → Int32) → (Int32) → Prop} (h_post : ∀ x0 x1 x2 x3 x4 x5 x6 x7 x8 x9 x10 x11, post_1 x0 x1 x2 x3 x4 x5 x6 x7 x8 x9 x10 x11 → post_2 x0 x1 x2 x3 x4 x5 x6 x7 x8 x9 x10 x11 → post_3 x0 x1 x2 x3 x4 x5 x6 x7 x8 x9 x10 x11) (h1 : q_m_plainLine_0 a_tape f_reached f_length f_begins f_sort f_value f_word f_wrongAt f_laterFault f_laterPlace a_told a_read f_good x1 x2 x3 post_1) (h2 : q_m_plainLine_0 a_tape f_reached f_length f_begins f_sort f_value f_word f_wrongAt f_laterFault f_laterPlace a_told a_read f_good x1 x2 x3 post_2) : q_m_plainLine_0 a_tape f_reached f_length f_begins f_sort f_value f_word f_wrongAt f_laterFault f_laterPlace a_told a_read f_good x1 x2 x3 post_3 := cj_q_m_take_0 (fun _ _ _ _ _ _ _ _ _ _ _ h1 h2 => ⟨fun c3 => fun v4 e5 => ⟨((h1.1 c3) v4 e5).1, fun v6 e7 => h_post _ _ _ _ _ _ _ _ _ _ _ _ (((h1.1 c3) v4 e5).2 v6 e7) (((h2.1 c3) v4 e5).2 v6 e7)⟩, fun c8 => h_post _ _ _ _ _ _ _ _ _ _ _ _ (h1.2 c8) (h2.2 c8)⟩) h1 h2
set_option maxRecDepth 40000 in
theorem cj_q_m_choirLine_37 {a_tape : Nat → Int32} {f_reached : Int32} {f_length : Int32} {f_begins : Int32} {f_sort : Int32} {f_value : Int32} {f_word : Int64} {f_wrongAt : Int32} {f_laterFault : Int32} {f_laterPlace : Int32} {a_told : Nat → Int32} {a_read : Nat → Int32} {f_good : Int32} {x1 : Int64} {post_1 post_2 post_3 : Int32 → (Int32) → (Int32) → (Int32) → (Int32) → (Int64) → (Int32) → (Int32) → (Int32) → (Nat → Int32) → (Nat → Int32) → (Int32) → Prop} (h_post : ∀ x0 x1 x2 x3 x4 x5 x6 x7 x8 x9 x10 x11, post_1 x0 x1 x2 x3 x4 x5 x6 x7 x8 x9 x10 x11 → post_2 x0 x1 x2 x3 x4 x5 x6 x7 x8 x9 x10 x11 → post_3 x0 x1 x2 x3 x4 x5 x6 x7 x8 x9 x10 x11) (h1 : q_m_choirLine_37 a_tape f_reached f_length f_begins f_sort f_value f_word f_wrongAt f_laterFault f_laterPlace a_told a_read f_good x1 post_1) (h2 : q_m_choirLine_37 a_tape f_reached f_length f_begins f_sort f_value f_word f_wrongAt f_laterFault f_laterPlace a_told a_read f_good x1 post_2) : q_m_choirLine_37 a_tape f_reached f_length f_begins f_sort f_value f_word f_wrongAt f_laterFault f_laterPlace a_told a_read f_good x1 post_3 := cj_q_m_token_0 (fun _ _ _ _ _ h1 h2 => ⟨fun c3 => cj_q_m_take_0 (fun _ _ _ _ _ _ _ _ _ _ _ h4 h5 => ⟨fun c6 => h_post _ _ _ _ _ _ _ _ _ _ _ _ (h4.1 c6) (h5.1 c6), fun c7 => cj_q_m_take_0 (fun _ _ _ _ _ _ _ _ _ _ _ h8 h9 => ⟨fun c10 => cj_q_m_keep_0 (fun _ h11 h12 => h_post _ _ _ _ _ _ _ _ _ _ _ _ h11 h12) (h8.1 c10) (h9.1 c10), fun c13 => h_post _ _ _ _ _ _ _ _ _ _ _ _ (h8.2 c13) (h9.2 c13)⟩) (h4.2 c7) (h5.2 c7)⟩) (h1.1 c3) (h2.1 c3), fun c14 => cj_q_m_plainLine_0 (fun _ _ _ _ _ _ _ _ _ _ _ _ h15 h16 => ⟨h15.1, h_post _ _ _ _ _ _ _ _ _ _ _ _ h15.2 h16.2⟩) (h1.2 c14) (h2.2 c14)⟩) h1 h2
set_option maxRecDepth 40000 in
theorem cj_q_m_full_0 {f_laterFault : Int32} {f_laterPlace : Int32} {a_told : Nat → Int32} {x1 : Int32} {x2 : Int32} {x3 : Int32} {post_1 post_2 post_3 : (Int32) → (Int32) → Prop} (h_post : ∀ x0 x1, post_1 x0 x1 → post_2 x0 x1 → post_3 x0 x1) (h1 : q_m_full_0 f_laterFault f_laterPlace a_told x1 x2 x3 post_1) (h2 : q_m_full_0 f_laterFault f_laterPlace a_told x1 x2 x3 post_2) : q_m_full_0 f_laterFault f_laterPlace a_told x1 x2 x3 post_3 := ⟨h1.1, ⟨fun c1 => h_post _ _ (h1.2.1 c1) (h2.2.1 c1), fun c2 => cj_q_m_later_0 (fun _ _ h3 h4 => h_post _ _ h3 h4) (h1.2.2 c2) (h2.2.2 c2)⟩⟩
set_option maxRecDepth 40000 in
theorem cj_q_m_choirLine_21 {a_tape : Nat → Int32} {f_reached : Int32} {f_length : Int32} {f_begins : Int32} {f_sort : Int32} {f_value : Int32} {f_word : Int64} {f_wrongAt : Int32} {f_laterFault : Int32} {f_laterPlace : Int32} {a_told : Nat → Int32} {a_read : Nat → Int32} {f_good : Int32} {x1 : Int64} {x3 : Int32} {post_1 post_2 post_3 : Int32 → (Int32) → (Int32) → (Int32) → (Int32) → (Int64) → (Int32) → (Int32) → (Int32) → (Nat → Int32) → (Nat → Int32) → (Int32) → Prop} (h_post : ∀ x0 x1 x2 x3 x4 x5 x6 x7 x8 x9 x10 x11, post_1 x0 x1 x2 x3 x4 x5 x6 x7 x8 x9 x10 x11 → post_2 x0 x1 x2 x3 x4 x5 x6 x7 x8 x9 x10 x11 → post_3 x0 x1 x2 x3 x4 x5 x6 x7 x8 x9 x10 x11) (h1 : q_m_choirLine_21 a_tape f_reached f_length f_begins f_sort f_value f_word f_wrongAt f_laterFault f_laterPlace a_told a_read f_good x1 x3 post_1) (h2 : q_m_choirLine_21 a_tape f_reached f_length f_begins f_sort f_value f_word f_wrongAt f_laterFault f_laterPlace a_told a_read f_good x1 x3 post_2) : q_m_choirLine_21 a_tape f_reached f_length f_begins f_sort f_value f_word f_wrongAt f_laterFault f_laterPlace a_told a_read f_good x1 x3 post_3 := ⟨fun c1 => cj_q_m_choirLine_37 h_post (h1.1 c1) (h2.1 c1), fun c2 => cj_q_m_full_0 (fun _ _ h3 h4 => cj_q_m_choirLine_37 h_post h3 h4) (h1.2 c2) (h2.2 c2)⟩
set_option maxRecDepth 40000 in
theorem cj_q_m_choirLine_0 {a_tape : Nat → Int32} {f_reached : Int32} {f_length : Int32} {f_begins : Int32} {f_sort : Int32} {f_value : Int32} {f_word : Int64} {f_wrongAt : Int32} {f_laterFault : Int32} {f_laterPlace : Int32} {a_told : Nat → Int32} {a_read : Nat → Int32} {f_good : Int32} {x1 : Int64} {x3 : Int32} {post_1 post_2 post_3 : Int32 → (Int32) → (Int32) → (Int32) → (Int32) → (Int64) → (Int32) → (Int32) → (Int32) → (Nat → Int32) → (Nat → Int32) → (Int32) → Prop} (h_post : ∀ x0 x1 x2 x3 x4 x5 x6 x7 x8 x9 x10 x11, post_1 x0 x1 x2 x3 x4 x5 x6 x7 x8 x9 x10 x11 → post_2 x0 x1 x2 x3 x4 x5 x6 x7 x8 x9 x10 x11 → post_3 x0 x1 x2 x3 x4 x5 x6 x7 x8 x9 x10 x11) (h1 : q_m_choirLine_0 a_tape f_reached f_length f_begins f_sort f_value f_word f_wrongAt f_laterFault f_laterPlace a_told a_read f_good x1 x3 post_1) (h2 : q_m_choirLine_0 a_tape f_reached f_length f_begins f_sort f_value f_word f_wrongAt f_laterFault f_laterPlace a_told a_read f_good x1 x3 post_2) : q_m_choirLine_0 a_tape f_reached f_length f_begins f_sort f_value f_word f_wrongAt f_laterFault f_laterPlace a_told a_read f_good x1 x3 post_3 := ⟨fun c1 => cj_q_m_choirLine_21 h_post (h1.1 c1) (h2.1 c1), fun c2 => ⟨fun c3 => cj_q_m_choirLine_21 h_post ((h1.2 c2).1 c3) ((h2.2 c2).1 c3), fun c4 => cj_q_m_fails_0 (fun _ _ h5 h6 => ⟨h5.1, h_post _ _ _ _ _ _ _ _ _ _ _ _ h5.2 h6.2⟩) ((h1.2 c2).2 c4) ((h2.2 c2).2 c4)⟩⟩
set_option maxRecDepth 40000 in
theorem cj_q_m_deedBy_0 {x0 : Int64} {post_1 post_2 post_3 : Int32 → Prop} (h_post : ∀ x0, post_1 x0 → post_2 x0 → post_3 x0) (h1 : q_m_deedBy_0 x0 post_1) (h2 : q_m_deedBy_0 x0 post_2) : q_m_deedBy_0 x0 post_3 := ⟨fun c1 => ⟨fun c2 => ⟨fun c3 => ⟨fun c4 => ⟨fun c5 => ⟨fun c6 => h_post _ ((((((h1.1 c1).1 c2).1 c3).1 c4).1 c5).1 c6) ((((((h2.1 c1).1 c2).1 c3).1 c4).1 c5).1 c6), fun c7 => h_post _ ((((((h1.1 c1).1 c2).1 c3).1 c4).1 c5).2 c7) ((((((h2.1 c1).1 c2).1 c3).1 c4).1 c5).2 c7)⟩, fun c8 => h_post _ (((((h1.1 c1).1 c2).1 c3).1 c4).2 c8) (((((h2.1 c1).1 c2).1 c3).1 c4).2 c8)⟩, fun c9 => h_post _ ((((h1.1 c1).1 c2).1 c3).2 c9) ((((h2.1 c1).1 c2).1 c3).2 c9)⟩, fun c10 => h_post _ (((h1.1 c1).1 c2).2 c10) (((h2.1 c1).1 c2).2 c10)⟩, fun c11 => h_post _ ((h1.1 c1).2 c11) ((h2.1 c1).2 c11)⟩, fun c12 => h_post _ (h1.2 c12) (h2.2 c12)⟩
set_option maxRecDepth 40000 in
theorem cj_q_m_eveningLine_75 {a_tape : Nat → Int32} {f_reached : Int32} {f_length : Int32} {f_begins : Int32} {f_sort : Int32} {f_value : Int32} {f_word : Int64} {f_wrongAt : Int32} {f_laterFault : Int32} {f_laterPlace : Int32} {a_told : Nat → Int32} {a_read : Nat → Int32} {f_good : Int32} {x4 : Int32} {post_1 post_2 post_3 : Int32 → (Int32) → (Int32) → (Int32) → (Int32) → (Int64) → (Int32) → (Int32) → (Int32) → (Nat → Int32) → (Nat → Int32) → (Int32) → Prop} (h_post : ∀ x0 x1 x2 x3 x4 x5 x6 x7 x8 x9 x10 x11, post_1 x0 x1 x2 x3 x4 x5 x6 x7 x8 x9 x10 x11 → post_2 x0 x1 x2 x3 x4 x5 x6 x7 x8 x9 x10 x11 → post_3 x0 x1 x2 x3 x4 x5 x6 x7 x8 x9 x10 x11) (h1 : q_m_eveningLine_75 a_tape f_reached f_length f_begins f_sort f_value f_word f_wrongAt f_laterFault f_laterPlace a_told a_read f_good x4 post_1) (h2 : q_m_eveningLine_75 a_tape f_reached f_length f_begins f_sort f_value f_word f_wrongAt f_laterFault f_laterPlace a_told a_read f_good x4 post_2) : q_m_eveningLine_75 a_tape f_reached f_length f_begins f_sort f_value f_word f_wrongAt f_laterFault f_laterPlace a_told a_read f_good x4 post_3 := fun v1 e2 => cj_q_m_keep_0 (fun _ h3 h4 => h_post _ _ _ _ _ _ _ _ _ _ _ _ h3 h4) (h1 v1 e2) (h2 v1 e2)
set_option maxRecDepth 40000 in
theorem cj_q_m_eveningLine_67 {a_tape : Nat → Int32} {f_reached : Int32} {f_length : Int32} {f_begins : Int32} {f_sort : Int32} {f_value : Int32} {f_word : Int64} {f_wrongAt : Int32} {f_laterFault : Int32} {f_laterPlace : Int32} {a_told : Nat → Int32} {a_read : Nat → Int32} {f_good : Int32} {x4 : Int32} {y0 : Int32} {y1 : Int32} {y2 : Int32} {post_1 post_2 post_3 : Int32 → (Int32) → (Int32) → (Int32) → (Int32) → (Int64) → (Int32) → (Int32) → (Int32) → (Nat → Int32) → (Nat → Int32) → (Int32) → Prop} (h_post : ∀ x0 x1 x2 x3 x4 x5 x6 x7 x8 x9 x10 x11, post_1 x0 x1 x2 x3 x4 x5 x6 x7 x8 x9 x10 x11 → post_2 x0 x1 x2 x3 x4 x5 x6 x7 x8 x9 x10 x11 → post_3 x0 x1 x2 x3 x4 x5 x6 x7 x8 x9 x10 x11) (h1 : q_m_eveningLine_67 a_tape f_reached f_length f_begins f_sort f_value f_word f_wrongAt f_laterFault f_laterPlace a_told a_read f_good x4 y0 y1 y2 post_1) (h2 : q_m_eveningLine_67 a_tape f_reached f_length f_begins f_sort f_value f_word f_wrongAt f_laterFault f_laterPlace a_told a_read f_good x4 y0 y1 y2 post_2) : q_m_eveningLine_67 a_tape f_reached f_length f_begins f_sort f_value f_word f_wrongAt f_laterFault f_laterPlace a_told a_read f_good x4 y0 y1 y2 post_3 := cj_q_m_take_0 (fun _ _ _ _ _ _ _ _ _ _ _ h1 h2 => ⟨fun c3 => cj_q_m_eveningLine_75 h_post (h1.1 c3) (h2.1 c3), fun c4 => h_post _ _ _ _ _ _ _ _ _ _ _ _ (h1.2 c4) (h2.2 c4)⟩) h1 h2
set_option maxRecDepth 40000 in
theorem cj_q_m_eveningLine_0 {a_tape : Nat → Int32} {f_reached : Int32} {f_length : Int32} {f_begins : Int32} {f_sort : Int32} {f_value : Int32} {f_word : Int64} {f_wrongAt : Int32} {f_laterFault : Int32} {f_laterPlace : Int32} {a_told : Nat → Int32} {a_read : Nat → Int32} {f_good : Int32} {x1 : Int64} {x3 : Int32} {post_1 post_2 post_3 : Int32 → (Int32) → (Int32) → (Int32) → (Int32) → (Int64) → (Int32) → (Int32) → (Int32) → (Nat → Int32) → (Nat → Int32) → (Int32) → Prop} (h_post : ∀ x0 x1 x2 x3 x4 x5 x6 x7 x8 x9 x10 x11, post_1 x0 x1 x2 x3 x4 x5 x6 x7 x8 x9 x10 x11 → post_2 x0 x1 x2 x3 x4 x5 x6 x7 x8 x9 x10 x11 → post_3 x0 x1 x2 x3 x4 x5 x6 x7 x8 x9 x10 x11) (h1 : q_m_eveningLine_0 a_tape f_reached f_length f_begins f_sort f_value f_word f_wrongAt f_laterFault f_laterPlace a_told a_read f_good x1 x3 post_1) (h2 : q_m_eveningLine_0 a_tape f_reached f_length f_begins f_sort f_value f_word f_wrongAt f_laterFault f_laterPlace a_told a_read f_good x1 x3 post_2) : q_m_eveningLine_0 a_tape f_reached f_length f_begins f_sort f_value f_word f_wrongAt f_laterFault f_laterPlace a_told a_read f_good x1 x3 post_3 := cj_q_m_deedBy_0 (fun _ h1 h2 => ⟨fun c3 => cj_q_m_full_0 (fun _ _ h4 h5 => cj_q_m_token_0 (fun _ _ _ _ _ h6 h7 => fun v8 e9 => cj_q_m_take_0 (fun _ _ _ _ _ _ _ _ _ _ _ h10 h11 => ⟨fun c12 => h_post _ _ _ _ _ _ _ _ _ _ _ _ (h10.1 c12) (h11.1 c12), fun c13 => ⟨fun c14 => cj_q_m_eveningLine_75 h_post ((h10.2 c13).1 c14) ((h11.2 c13).1 c14), fun c15 => ⟨fun c16 => cj_q_m_eveningLine_67 h_post (((h10.2 c13).2 c15).1 c16) (((h11.2 c13).2 c15).1 c16), fun c17 => cj_q_m_eveningLine_67 h_post (((h10.2 c13).2 c15).2 c17) (((h11.2 c13).2 c15).2 c17)⟩⟩⟩) (h6 v8 e9) (h7 v8 e9)) h4 h5) (h1.1 c3) (h2.1 c3), fun c18 => cj_q_m_fails_0 (fun _ _ h19 h20 => ⟨h19.1, h_post _ _ _ _ _ _ _ _ _ _ _ _ h19.2 h20.2⟩) (h1.2 c18) (h2.2 c18)⟩) h1 h2
set_option maxRecDepth 40000 in
theorem cj_q_m_isLandWord_80 {post_1 post_2 post_3 : Int32 → Prop} (h_post : ∀ x0, post_1 x0 → post_2 x0 → post_3 x0) (h1 : q_m_isLandWord_80 post_1) (h2 : q_m_isLandWord_80 post_2) : q_m_isLandWord_80 post_3 := h_post _ h1 h2
set_option maxRecDepth 40000 in
theorem cj_q_m_isLandWord_0 {x1 : Int64} {post_1 post_2 post_3 : Int32 → Prop} (h_post : ∀ x0, post_1 x0 → post_2 x0 → post_3 x0) (h1 : q_m_isLandWord_0 x1 post_1) (h2 : q_m_isLandWord_0 x1 post_2) : q_m_isLandWord_0 x1 post_3 := ⟨fun c1 => cj_q_m_isLandWord_80 h_post (h1.1 c1) (h2.1 c1), fun c2 => ⟨fun c3 => cj_q_m_isLandWord_80 h_post ((h1.2 c2).1 c3) ((h2.2 c2).1 c3), fun c4 => ⟨fun c5 => cj_q_m_isLandWord_80 h_post (((h1.2 c2).2 c4).1 c5) (((h2.2 c2).2 c4).1 c5), fun c6 => ⟨fun c7 => cj_q_m_isLandWord_80 h_post ((((h1.2 c2).2 c4).2 c6).1 c7) ((((h2.2 c2).2 c4).2 c6).1 c7), fun c8 => ⟨fun c9 => cj_q_m_isLandWord_80 h_post (((((h1.2 c2).2 c4).2 c6).2 c8).1 c9) (((((h2.2 c2).2 c4).2 c6).2 c8).1 c9), fun c10 => ⟨fun c11 => cj_q_m_isLandWord_80 h_post ((((((h1.2 c2).2 c4).2 c6).2 c8).2 c10).1 c11) ((((((h2.2 c2).2 c4).2 c6).2 c8).2 c10).1 c11), fun c12 => ⟨fun c13 => cj_q_m_isLandWord_80 h_post (((((((h1.2 c2).2 c4).2 c6).2 c8).2 c10).2 c12).1 c13) (((((((h2.2 c2).2 c4).2 c6).2 c8).2 c10).2 c12).1 c13), fun c14 => ⟨fun c15 => cj_q_m_isLandWord_80 h_post ((((((((h1.2 c2).2 c4).2 c6).2 c8).2 c10).2 c12).2 c14).1 c15) ((((((((h2.2 c2).2 c4).2 c6).2 c8).2 c10).2 c12).2 c14).1 c15), fun c16 => ⟨fun c17 => cj_q_m_isLandWord_80 h_post (((((((((h1.2 c2).2 c4).2 c6).2 c8).2 c10).2 c12).2 c14).2 c16).1 c17) (((((((((h2.2 c2).2 c4).2 c6).2 c8).2 c10).2 c12).2 c14).2 c16).1 c17), fun c18 => ⟨fun c19 => h_post _ ((((((((((h1.2 c2).2 c4).2 c6).2 c8).2 c10).2 c12).2 c14).2 c16).2 c18).1 c19) ((((((((((h2.2 c2).2 c4).2 c6).2 c8).2 c10).2 c12).2 c14).2 c16).2 c18).1 c19), fun c20 => cj_q_m_isLandWord_80 h_post ((((((((((h1.2 c2).2 c4).2 c6).2 c8).2 c10).2 c12).2 c14).2 c16).2 c18).2 c20) ((((((((((h2.2 c2).2 c4).2 c6).2 c8).2 c10).2 c12).2 c14).2 c16).2 c18).2 c20)⟩⟩⟩⟩⟩⟩⟩⟩⟩⟩
set_option maxRecDepth 40000 in
theorem cj_q_m_greater_0 {x0 : Int32} {x1 : Int32} {post_1 post_2 post_3 : Int32 → Prop} (h_post : ∀ x0, post_1 x0 → post_2 x0 → post_3 x0) (h1 : q_m_greater_0 x0 x1 post_1) (h2 : q_m_greater_0 x0 x1 post_2) : q_m_greater_0 x0 x1 post_3 := ⟨fun c1 => h_post _ (h1.1 c1) (h2.1 c1), fun c2 => h_post _ (h1.2 c2) (h2.2 c2)⟩
set_option maxRecDepth 40000 in
theorem cj_q_m_takeHut_0 {a_tape : Nat → Int32} {f_reached : Int32} {f_length : Int32} {f_begins : Int32} {f_sort : Int32} {f_value : Int32} {f_word : Int64} {f_wrongAt : Int32} {f_laterFault : Int32} {f_laterPlace : Int32} {a_read : Nat → Int32} {f_farHut : Int32} {f_good : Int32} {x1 : Int32} {x2 : Int32} {post_1 post_2 post_3 : Int32 → (Int32) → (Int32) → (Int32) → (Int32) → (Int64) → (Int32) → (Int32) → (Int32) → (Nat → Int32) → (Int32) → (Int32) → Prop} (h_post : ∀ x0 x1 x2 x3 x4 x5 x6 x7 x8 x9 x10 x11, post_1 x0 x1 x2 x3 x4 x5 x6 x7 x8 x9 x10 x11 → post_2 x0 x1 x2 x3 x4 x5 x6 x7 x8 x9 x10 x11 → post_3 x0 x1 x2 x3 x4 x5 x6 x7 x8 x9 x10 x11) (h1 : q_m_takeHut_0 a_tape f_reached f_length f_begins f_sort f_value f_word f_wrongAt f_laterFault f_laterPlace a_read f_farHut f_good x1 x2 post_1) (h2 : q_m_takeHut_0 a_tape f_reached f_length f_begins f_sort f_value f_word f_wrongAt f_laterFault f_laterPlace a_read f_farHut f_good x1 x2 post_2) : q_m_takeHut_0 a_tape f_reached f_length f_begins f_sort f_value f_word f_wrongAt f_laterFault f_laterPlace a_read f_farHut f_good x1 x2 post_3 := cj_q_m_takeBut_0 (fun _ _ _ _ _ _ _ _ _ _ _ h1 h2 => ⟨fun c3 => ⟨(h1.1 c3).1, cj_q_m_greater_0 (fun _ h4 h5 => h_post _ _ _ _ _ _ _ _ _ _ _ _ h4 h5) (h1.1 c3).2 (h2.1 c3).2⟩, fun c6 => h_post _ _ _ _ _ _ _ _ _ _ _ _ (h1.2 c6) (h2.2 c6)⟩) h1 h2
set_option maxRecDepth 40000 in
theorem cj_q_m_echoLine_0 {a_tape : Nat → Int32} {f_reached : Int32} {f_length : Int32} {f_begins : Int32} {f_sort : Int32} {f_value : Int32} {f_word : Int64} {f_wrongAt : Int32} {f_laterFault : Int32} {f_laterPlace : Int32} {a_told : Nat → Int32} {a_read : Nat → Int32} {f_farHut : Int32} {f_good : Int32} {post_1 post_2 post_3 : Int32 → (Int32) → (Int32) → (Int32) → (Int32) → (Int64) → (Int32) → (Int32) → (Int32) → (Nat → Int32) → (Nat → Int32) → (Int32) → (Int32) → Prop} (h_post : ∀ x0 x1 x2 x3 x4 x5 x6 x7 x8 x9 x10 x11 x12, post_1 x0 x1 x2 x3 x4 x5 x6 x7 x8 x9 x10 x11 x12 → post_2 x0 x1 x2 x3 x4 x5 x6 x7 x8 x9 x10 x11 x12 → post_3 x0 x1 x2 x3 x4 x5 x6 x7 x8 x9 x10 x11 x12) (h1 : q_m_echoLine_0 a_tape f_reached f_length f_begins f_sort f_value f_word f_wrongAt f_laterFault f_laterPlace a_told a_read f_farHut f_good post_1) (h2 : q_m_echoLine_0 a_tape f_reached f_length f_begins f_sort f_value f_word f_wrongAt f_laterFault f_laterPlace a_told a_read f_farHut f_good post_2) : q_m_echoLine_0 a_tape f_reached f_length f_begins f_sort f_value f_word f_wrongAt f_laterFault f_laterPlace a_told a_read f_farHut f_good post_3 := cj_q_m_takeHut_0 (fun _ _ _ _ _ _ _ _ _ _ _ _ h1 h2 => ⟨fun c3 => h_post _ _ _ _ _ _ _ _ _ _ _ _ _ (h1.1 c3) (h2.1 c3), fun c4 => cj_q_m_takeHut_0 (fun _ _ _ _ _ _ _ _ _ _ _ _ h5 h6 => ⟨fun c7 => cj_q_m_further_0 (fun _ _ h8 h9 => ⟨fun c10 => h_post _ _ _ _ _ _ _ _ _ _ _ _ _ (h8.1 c10) (h9.1 c10), fun c11 => fun v12 e13 => ⟨((h8.2 c11) v12 e13).1, fun v14 e15 => fun v16 e17 => ⟨((((h8.2 c11) v12 e13).2 v14 e15) v16 e17).1, fun v18 e19 => h_post _ _ _ _ _ _ _ _ _ _ _ _ _ (((((h8.2 c11) v12 e13).2 v14 e15) v16 e17).2 v18 e19) (((((h9.2 c11) v12 e13).2 v14 e15) v16 e17).2 v18 e19)⟩⟩⟩) (h5.1 c7) (h6.1 c7), fun c20 => h_post _ _ _ _ _ _ _ _ _ _ _ _ _ (h5.2 c20) (h6.2 c20)⟩) (h1.2 c4) (h2.2 c4)⟩) h1 h2
set_option maxRecDepth 40000 in
theorem cj_q_m_hutLine_0 {a_tape : Nat → Int32} {f_reached : Int32} {f_length : Int32} {f_begins : Int32} {f_sort : Int32} {f_value : Int32} {f_word : Int64} {f_wrongAt : Int32} {f_laterFault : Int32} {f_laterPlace : Int32} {a_told : Nat → Int32} {a_read : Nat → Int32} {f_good : Int32} {post_1 post_2 post_3 : Int32 → (Int32) → (Int32) → (Int32) → (Int32) → (Int64) → (Int32) → (Int32) → (Int32) → (Nat → Int32) → (Nat → Int32) → (Int32) → Prop} (h_post : ∀ x0 x1 x2 x3 x4 x5 x6 x7 x8 x9 x10 x11, post_1 x0 x1 x2 x3 x4 x5 x6 x7 x8 x9 x10 x11 → post_2 x0 x1 x2 x3 x4 x5 x6 x7 x8 x9 x10 x11 → post_3 x0 x1 x2 x3 x4 x5 x6 x7 x8 x9 x10 x11) (h1 : q_m_hutLine_0 a_tape f_reached f_length f_begins f_sort f_value f_word f_wrongAt f_laterFault f_laterPlace a_told a_read f_good post_1) (h2 : q_m_hutLine_0 a_tape f_reached f_length f_begins f_sort f_value f_word f_wrongAt f_laterFault f_laterPlace a_told a_read f_good post_2) : q_m_hutLine_0 a_tape f_reached f_length f_begins f_sort f_value f_word f_wrongAt f_laterFault f_laterPlace a_told a_read f_good post_3 := cj_q_m_take_0 (fun _ _ _ _ _ _ _ _ _ _ _ h1 h2 => ⟨fun c3 => cj_q_m_further_0 (fun _ _ h4 h5 => ⟨fun c6 => h_post _ _ _ _ _ _ _ _ _ _ _ _ (h4.1 c6) (h5.1 c6), fun c7 => fun v8 e9 => ⟨((h4.2 c7) v8 e9).1, fun v10 e11 => h_post _ _ _ _ _ _ _ _ _ _ _ _ (((h4.2 c7) v8 e9).2 v10 e11) (((h5.2 c7) v8 e9).2 v10 e11)⟩⟩) (h1.1 c3) (h2.1 c3), fun c12 => h_post _ _ _ _ _ _ _ _ _ _ _ _ (h1.2 c12) (h2.2 c12)⟩) h1 h2
set_option maxRecDepth 40000 in
theorem cj_q_m_knowsLine_0 {a_tape : Nat → Int32} {f_reached : Int32} {f_length : Int32} {f_begins : Int32} {f_sort : Int32} {f_value : Int32} {f_word : Int64} {f_wrongAt : Int32} {f_laterFault : Int32} {f_laterPlace : Int32} {a_told : Nat → Int32} {a_read : Nat → Int32} {f_farSinger : Int32} {f_good : Int32} {post_1 post_2 post_3 : Int32 → (Int32) → (Int32) → (Int32) → (Int32) → (Int64) → (Int32) → (Int32) → (Int32) → (Nat → Int32) → (Nat → Int32) → (Int32) → (Int32) → Prop} (h_post : ∀ x0 x1 x2 x3 x4 x5 x6 x7 x8 x9 x10 x11 x12, post_1 x0 x1 x2 x3 x4 x5 x6 x7 x8 x9 x10 x11 x12 → post_2 x0 x1 x2 x3 x4 x5 x6 x7 x8 x9 x10 x11 x12 → post_3 x0 x1 x2 x3 x4 x5 x6 x7 x8 x9 x10 x11 x12) (h1 : q_m_knowsLine_0 a_tape f_reached f_length f_begins f_sort f_value f_word f_wrongAt f_laterFault f_laterPlace a_told a_read f_farSinger f_good post_1) (h2 : q_m_knowsLine_0 a_tape f_reached f_length f_begins f_sort f_value f_word f_wrongAt f_laterFault f_laterPlace a_told a_read f_farSinger f_good post_2) : q_m_knowsLine_0 a_tape f_reached f_length f_begins f_sort f_value f_word f_wrongAt f_laterFault f_laterPlace a_told a_read f_farSinger f_good post_3 := cj_q_m_take_0 (fun _ _ _ _ _ _ _ _ _ _ _ h1 h2 => ⟨fun c3 => h_post _ _ _ _ _ _ _ _ _ _ _ _ _ (h1.1 c3) (h2.1 c3), fun c4 => cj_q_m_take_0 (fun _ _ _ _ _ _ _ _ _ _ _ h5 h6 => ⟨fun c7 => cj_q_m_greater_0 (fun _ h8 h9 => ⟨fun c10 => h_post _ _ _ _ _ _ _ _ _ _ _ _ _ (h8.1 c10) (h9.1 c10), fun c11 => ⟨(h8.2 c11).1, fun v12 e13 => ⟨((h8.2 c11).2 v12 e13).1, fun v14 e15 => h_post _ _ _ _ _ _ _ _ _ _ _ _ _ (((h8.2 c11).2 v12 e13).2 v14 e15) (((h9.2 c11).2 v12 e13).2 v14 e15)⟩⟩⟩) (h5.1 c7) (h6.1 c7), fun c16 => h_post _ _ _ _ _ _ _ _ _ _ _ _ _ (h5.2 c16) (h6.2 c16)⟩) (h1.2 c4) (h2.2 c4)⟩) h1 h2
set_option maxRecDepth 40000 in
theorem cj_q_m_ladderLine_0 {a_tape : Nat → Int32} {f_reached : Int32} {f_length : Int32} {f_begins : Int32} {f_sort : Int32} {f_value : Int32} {f_word : Int64} {f_wrongAt : Int32} {f_laterFault : Int32} {f_laterPlace : Int32} {a_told : Nat → Int32} {a_read : Nat → Int32} {f_farHut : Int32} {f_good : Int32} {post_1 post_2 post_3 : Int32 → (Int32) → (Int32) → (Int32) → (Int32) → (Int64) → (Int32) → (Int32) → (Int32) → (Nat → Int32) → (Nat → Int32) → (Int32) → (Int32) → Prop} (h_post : ∀ x0 x1 x2 x3 x4 x5 x6 x7 x8 x9 x10 x11 x12, post_1 x0 x1 x2 x3 x4 x5 x6 x7 x8 x9 x10 x11 x12 → post_2 x0 x1 x2 x3 x4 x5 x6 x7 x8 x9 x10 x11 x12 → post_3 x0 x1 x2 x3 x4 x5 x6 x7 x8 x9 x10 x11 x12) (h1 : q_m_ladderLine_0 a_tape f_reached f_length f_begins f_sort f_value f_word f_wrongAt f_laterFault f_laterPlace a_told a_read f_farHut f_good post_1) (h2 : q_m_ladderLine_0 a_tape f_reached f_length f_begins f_sort f_value f_word f_wrongAt f_laterFault f_laterPlace a_told a_read f_farHut f_good post_2) : q_m_ladderLine_0 a_tape f_reached f_length f_begins f_sort f_value f_word f_wrongAt f_laterFault f_laterPlace a_told a_read f_farHut f_good post_3 := cj_q_m_takeHut_0 (fun _ _ _ _ _ _ _ _ _ _ _ _ h1 h2 => ⟨fun c3 => h_post _ _ _ _ _ _ _ _ _ _ _ _ _ (h1.1 c3) (h2.1 c3), fun c4 => cj_q_m_take_0 (fun _ _ _ _ _ _ _ _ _ _ _ h5 h6 => ⟨fun c7 => ⟨fun c8 => h_post _ _ _ _ _ _ _ _ _ _ _ _ _ ((h5.1 c7).1 c8) ((h6.1 c7).1 c8), fun c9 => fun v10 e11 => ⟨(((h5.1 c7).2 c9) v10 e11).1, fun v12 e13 => h_post _ _ _ _ _ _ _ _ _ _ _ _ _ ((((h5.1 c7).2 c9) v10 e11).2 v12 e13) ((((h6.1 c7).2 c9) v10 e11).2 v12 e13)⟩⟩, fun c14 => h_post _ _ _ _ _ _ _ _ _ _ _ _ _ (h5.2 c14) (h6.2 c14)⟩) (h1.2 c4) (h2.2 c4)⟩) h1 h2
set_option maxRecDepth 40000 in
theorem cj_q_m_bitLine_37 {a_tape : Nat → Int32} {f_reached : Int32} {f_length : Int32} {f_begins : Int32} {f_sort : Int32} {f_value : Int32} {f_word : Int64} {f_wrongAt : Int32} {f_laterFault : Int32} {f_laterPlace : Int32} {a_told : Nat → Int32} {a_read : Nat → Int32} {f_farHut : Int32} {f_good : Int32} {y0 : Int32} {y1 : Int32} {y2 : Int32} {post_1 post_2 post_3 : Int32 → (Int32) → (Int32) → (Int32) → (Int32) → (Int64) → (Int32) → (Int32) → (Int32) → (Nat → Int32) → (Nat → Int32) → (Int32) → (Int32) → Prop} (h_post : ∀ x0 x1 x2 x3 x4 x5 x6 x7 x8 x9 x10 x11 x12, post_1 x0 x1 x2 x3 x4 x5 x6 x7 x8 x9 x10 x11 x12 → post_2 x0 x1 x2 x3 x4 x5 x6 x7 x8 x9 x10 x11 x12 → post_3 x0 x1 x2 x3 x4 x5 x6 x7 x8 x9 x10 x11 x12) (h1 : q_m_bitLine_37 a_tape f_reached f_length f_begins f_sort f_value f_word f_wrongAt f_laterFault f_laterPlace a_told a_read f_farHut f_good y0 y1 y2 post_1) (h2 : q_m_bitLine_37 a_tape f_reached f_length f_begins f_sort f_value f_word f_wrongAt f_laterFault f_laterPlace a_told a_read f_farHut f_good y0 y1 y2 post_2) : q_m_bitLine_37 a_tape f_reached f_length f_begins f_sort f_value f_word f_wrongAt f_laterFault f_laterPlace a_told a_read f_farHut f_good y0 y1 y2 post_3 := fun v1 e2 => ⟨(h1 v1 e2).1, fun v3 e4 => h_post _ _ _ _ _ _ _ _ _ _ _ _ _ ((h1 v1 e2).2 v3 e4) ((h2 v1 e2).2 v3 e4)⟩
set_option maxRecDepth 40000 in
theorem cj_q_m_bitLine_0 {a_tape : Nat → Int32} {f_reached : Int32} {f_length : Int32} {f_begins : Int32} {f_sort : Int32} {f_value : Int32} {f_word : Int64} {f_wrongAt : Int32} {f_laterFault : Int32} {f_laterPlace : Int32} {a_told : Nat → Int32} {a_read : Nat → Int32} {f_farHut : Int32} {f_good : Int32} {x1 : Int32} {post_1 post_2 post_3 : Int32 → (Int32) → (Int32) → (Int32) → (Int32) → (Int64) → (Int32) → (Int32) → (Int32) → (Nat → Int32) → (Nat → Int32) → (Int32) → (Int32) → Prop} (h_post : ∀ x0 x1 x2 x3 x4 x5 x6 x7 x8 x9 x10 x11 x12, post_1 x0 x1 x2 x3 x4 x5 x6 x7 x8 x9 x10 x11 x12 → post_2 x0 x1 x2 x3 x4 x5 x6 x7 x8 x9 x10 x11 x12 → post_3 x0 x1 x2 x3 x4 x5 x6 x7 x8 x9 x10 x11 x12) (h1 : q_m_bitLine_0 a_tape f_reached f_length f_begins f_sort f_value f_word f_wrongAt f_laterFault f_laterPlace a_told a_read f_farHut f_good x1 post_1) (h2 : q_m_bitLine_0 a_tape f_reached f_length f_begins f_sort f_value f_word f_wrongAt f_laterFault f_laterPlace a_told a_read f_farHut f_good x1 post_2) : q_m_bitLine_0 a_tape f_reached f_length f_begins f_sort f_value f_word f_wrongAt f_laterFault f_laterPlace a_told a_read f_farHut f_good x1 post_3 := cj_q_m_takeHut_0 (fun _ _ _ _ _ _ _ _ _ _ _ _ h1 h2 => ⟨fun c3 => ⟨(h1.1 c3).1, ⟨fun c4 => cj_q_m_bitLine_37 h_post ((h1.1 c3).2.1 c4) ((h2.1 c3).2.1 c4), fun c5 => cj_q_m_bitLine_37 h_post ((h1.1 c3).2.2 c5) ((h2.1 c3).2.2 c5)⟩⟩, fun c6 => h_post _ _ _ _ _ _ _ _ _ _ _ _ _ (h1.2 c6) (h2.2 c6)⟩) h1 h2
set_option maxRecDepth 40000 in
theorem cj_q_m_landLine_107 {a_tape : Nat → Int32} {f_reached : Int32} {f_length : Int32} {f_begins : Int32} {f_sort : Int32} {f_value : Int32} {f_word : Int64} {f_wrongAt : Int32} {f_laterFault : Int32} {f_laterPlace : Int32} {a_told : Nat → Int32} {a_read : Nat → Int32} {f_farHut : Int32} {f_farSinger : Int32} {f_good : Int32} {y0 : Int32} {post_1 post_2 post_3 : Int32 → (Int32) → (Int32) → (Int32) → (Int32) → (Int64) → (Int32) → (Int32) → (Int32) → (Nat → Int32) → (Nat → Int32) → (Int32) → (Int32) → (Int32) → Prop} (h_post : ∀ x0 x1 x2 x3 x4 x5 x6 x7 x8 x9 x10 x11 x12 x13, post_1 x0 x1 x2 x3 x4 x5 x6 x7 x8 x9 x10 x11 x12 x13 → post_2 x0 x1 x2 x3 x4 x5 x6 x7 x8 x9 x10 x11 x12 x13 → post_3 x0 x1 x2 x3 x4 x5 x6 x7 x8 x9 x10 x11 x12 x13) (h1 : q_m_landLine_107 a_tape f_reached f_length f_begins f_sort f_value f_word f_wrongAt f_laterFault f_laterPlace a_told a_read f_farHut f_farSinger f_good y0 post_1) (h2 : q_m_landLine_107 a_tape f_reached f_length f_begins f_sort f_value f_word f_wrongAt f_laterFault f_laterPlace a_told a_read f_farHut f_farSinger f_good y0 post_2) : q_m_landLine_107 a_tape f_reached f_length f_begins f_sort f_value f_word f_wrongAt f_laterFault f_laterPlace a_told a_read f_farHut f_farSinger f_good y0 post_3 := cj_q_m_bitLine_0 (fun _ _ _ _ _ _ _ _ _ _ _ _ _ h1 h2 => ⟨h1.1, h_post _ _ _ _ _ _ _ _ _ _ _ _ _ _ h1.2 h2.2⟩) h1 h2
set_option maxRecDepth 40000 in
theorem cj_q_m_landLine_93 {a_tape : Nat → Int32} {f_reached : Int32} {f_length : Int32} {f_begins : Int32} {f_sort : Int32} {f_value : Int32} {f_word : Int64} {f_wrongAt : Int32} {f_laterFault : Int32} {f_laterPlace : Int32} {a_told : Nat → Int32} {a_read : Nat → Int32} {f_farHut : Int32} {f_farSinger : Int32} {f_good : Int32} {x1 : Int64} {post_1 post_2 post_3 : Int32 → (Int32) → (Int32) → (Int32) → (Int32) → (Int64) → (Int32) → (Int32) → (Int32) → (Nat → Int32) → (Nat → Int32) → (Int32) → (Int32) → (Int32) → Prop} (h_post : ∀ x0 x1 x2 x3 x4 x5 x6 x7 x8 x9 x10 x11 x12 x13, post_1 x0 x1 x2 x3 x4 x5 x6 x7 x8 x9 x10 x11 x12 x13 → post_2 x0 x1 x2 x3 x4 x5 x6 x7 x8 x9 x10 x11 x12 x13 → post_3 x0 x1 x2 x3 x4 x5 x6 x7 x8 x9 x10 x11 x12 x13) (h1 : q_m_landLine_93 a_tape f_reached f_length f_begins f_sort f_value f_word f_wrongAt f_laterFault f_laterPlace a_told a_read f_farHut f_farSinger f_good x1 post_1) (h2 : q_m_landLine_93 a_tape f_reached f_length f_begins f_sort f_value f_word f_wrongAt f_laterFault f_laterPlace a_told a_read f_farHut f_farSinger f_good x1 post_2) : q_m_landLine_93 a_tape f_reached f_length f_begins f_sort f_value f_word f_wrongAt f_laterFault f_laterPlace a_told a_read f_farHut f_farSinger f_good x1 post_3 := ⟨fun c1 => cj_q_m_landLine_107 h_post (h1.1 c1) (h2.1 c1), fun c2 => cj_q_m_landLine_107 h_post (h1.2 c2) (h2.2 c2)⟩
set_option maxRecDepth 40000 in
theorem cj_q_m_singerLine_0 {a_tape : Nat → Int32} {f_reached : Int32} {f_length : Int32} {f_begins : Int32} {f_sort : Int32} {f_value : Int32} {f_word : Int64} {f_wrongAt : Int32} {f_laterFault : Int32} {f_laterPlace : Int32} {a_told : Nat → Int32} {a_read : Nat → Int32} {f_farHut : Int32} {f_good : Int32} {post_1 post_2 post_3 : Int32 → (Int32) → (Int32) → (Int32) → (Int32) → (Int64) → (Int32) → (Int32) → (Int32) → (Nat → Int32) → (Nat → Int32) → (Int32) → (Int32) → Prop} (h_post : ∀ x0 x1 x2 x3 x4 x5 x6 x7 x8 x9 x10 x11 x12, post_1 x0 x1 x2 x3 x4 x5 x6 x7 x8 x9 x10 x11 x12 → post_2 x0 x1 x2 x3 x4 x5 x6 x7 x8 x9 x10 x11 x12 → post_3 x0 x1 x2 x3 x4 x5 x6 x7 x8 x9 x10 x11 x12) (h1 : q_m_singerLine_0 a_tape f_reached f_length f_begins f_sort f_value f_word f_wrongAt f_laterFault f_laterPlace a_told a_read f_farHut f_good post_1) (h2 : q_m_singerLine_0 a_tape f_reached f_length f_begins f_sort f_value f_word f_wrongAt f_laterFault f_laterPlace a_told a_read f_farHut f_good post_2) : q_m_singerLine_0 a_tape f_reached f_length f_begins f_sort f_value f_word f_wrongAt f_laterFault f_laterPlace a_told a_read f_farHut f_good post_3 := cj_q_m_takeHut_0 (fun _ _ _ _ _ _ _ _ _ _ _ _ h1 h2 => ⟨fun c3 => h_post _ _ _ _ _ _ _ _ _ _ _ _ _ (h1.1 c3) (h2.1 c3), fun c4 => cj_q_m_take_0 (fun _ _ _ _ _ _ _ _ _ _ _ h5 h6 => ⟨fun c7 => cj_q_m_further_0 (fun _ _ h8 h9 => ⟨fun c10 => h_post _ _ _ _ _ _ _ _ _ _ _ _ _ (h8.1 c10) (h9.1 c10), fun c11 => fun v12 e13 => ⟨((h8.2 c11) v12 e13).1, fun v14 e15 => fun v16 e17 => ⟨((((h8.2 c11) v12 e13).2 v14 e15) v16 e17).1, fun v18 e19 => h_post _ _ _ _ _ _ _ _ _ _ _ _ _ (((((h8.2 c11) v12 e13).2 v14 e15) v16 e17).2 v18 e19) (((((h9.2 c11) v12 e13).2 v14 e15) v16 e17).2 v18 e19)⟩⟩⟩) (h5.1 c7) (h6.1 c7), fun c20 => h_post _ _ _ _ _ _ _ _ _ _ _ _ _ (h5.2 c20) (h6.2 c20)⟩) (h1.2 c4) (h2.2 c4)⟩) h1 h2
set_option maxRecDepth 40000 in
theorem cj_q_m_wayLine_0 {a_tape : Nat → Int32} {f_reached : Int32} {f_length : Int32} {f_begins : Int32} {f_sort : Int32} {f_value : Int32} {f_word : Int64} {f_wrongAt : Int32} {f_laterFault : Int32} {f_laterPlace : Int32} {a_told : Nat → Int32} {a_read : Nat → Int32} {f_farHut : Int32} {f_good : Int32} {post_1 post_2 post_3 : Int32 → (Int32) → (Int32) → (Int32) → (Int32) → (Int64) → (Int32) → (Int32) → (Int32) → (Nat → Int32) → (Nat → Int32) → (Int32) → (Int32) → Prop} (h_post : ∀ x0 x1 x2 x3 x4 x5 x6 x7 x8 x9 x10 x11 x12, post_1 x0 x1 x2 x3 x4 x5 x6 x7 x8 x9 x10 x11 x12 → post_2 x0 x1 x2 x3 x4 x5 x6 x7 x8 x9 x10 x11 x12 → post_3 x0 x1 x2 x3 x4 x5 x6 x7 x8 x9 x10 x11 x12) (h1 : q_m_wayLine_0 a_tape f_reached f_length f_begins f_sort f_value f_word f_wrongAt f_laterFault f_laterPlace a_told a_read f_farHut f_good post_1) (h2 : q_m_wayLine_0 a_tape f_reached f_length f_begins f_sort f_value f_word f_wrongAt f_laterFault f_laterPlace a_told a_read f_farHut f_good post_2) : q_m_wayLine_0 a_tape f_reached f_length f_begins f_sort f_value f_word f_wrongAt f_laterFault f_laterPlace a_told a_read f_farHut f_good post_3 := cj_q_m_takeHut_0 (fun _ _ _ _ _ _ _ _ _ _ _ _ h1 h2 => ⟨fun c3 => h_post _ _ _ _ _ _ _ _ _ _ _ _ _ (h1.1 c3) (h2.1 c3), fun c4 => cj_q_m_takeHut_0 (fun _ _ _ _ _ _ _ _ _ _ _ _ h5 h6 => ⟨fun c7 => h_post _ _ _ _ _ _ _ _ _ _ _ _ _ (h5.1 c7) (h6.1 c7), fun c8 => cj_q_m_take_0 (fun _ _ _ _ _ _ _ _ _ _ _ h9 h10 => ⟨fun c11 => ⟨fun c12 => h_post _ _ _ _ _ _ _ _ _ _ _ _ _ ((h9.1 c11).1 c12) ((h10.1 c11).1 c12), fun c13 => fun v14 e15 => ⟨(((h9.1 c11).2 c13) v14 e15).1, fun v16 e17 => fun v18 e19 => ⟨(((((h9.1 c11).2 c13) v14 e15).2 v16 e17) v18 e19).1, fun v20 e21 => h_post _ _ _ _ _ _ _ _ _ _ _ _ _ ((((((h9.1 c11).2 c13) v14 e15).2 v16 e17) v18 e19).2 v20 e21) ((((((h10.1 c11).2 c13) v14 e15).2 v16 e17) v18 e19).2 v20 e21)⟩⟩⟩, fun c22 => h_post _ _ _ _ _ _ _ _ _ _ _ _ _ (h9.2 c22) (h10.2 c22)⟩) (h5.2 c8) (h6.2 c8)⟩) (h1.2 c4) (h2.2 c4)⟩) h1 h2
set_option maxRecDepth 40000 in
theorem cj_q_m_landLine_60 {a_tape : Nat → Int32} {f_reached : Int32} {f_length : Int32} {f_begins : Int32} {f_sort : Int32} {f_value : Int32} {f_word : Int64} {f_wrongAt : Int32} {f_laterFault : Int32} {f_laterPlace : Int32} {a_told : Nat → Int32} {a_read : Nat → Int32} {f_farHut : Int32} {f_farSinger : Int32} {f_good : Int32} {x1 : Int64} {post_1 post_2 post_3 : Int32 → (Int32) → (Int32) → (Int32) → (Int32) → (Int64) → (Int32) → (Int32) → (Int32) → (Nat → Int32) → (Nat → Int32) → (Int32) → (Int32) → (Int32) → Prop} (h_post : ∀ x0 x1 x2 x3 x4 x5 x6 x7 x8 x9 x10 x11 x12 x13, post_1 x0 x1 x2 x3 x4 x5 x6 x7 x8 x9 x10 x11 x12 x13 → post_2 x0 x1 x2 x3 x4 x5 x6 x7 x8 x9 x10 x11 x12 x13 → post_3 x0 x1 x2 x3 x4 x5 x6 x7 x8 x9 x10 x11 x12 x13) (h1 : q_m_landLine_60 a_tape f_reached f_length f_begins f_sort f_value f_word f_wrongAt f_laterFault f_laterPlace a_told a_read f_farHut f_farSinger f_good x1 post_1) (h2 : q_m_landLine_60 a_tape f_reached f_length f_begins f_sort f_value f_word f_wrongAt f_laterFault f_laterPlace a_told a_read f_farHut f_farSinger f_good x1 post_2) : q_m_landLine_60 a_tape f_reached f_length f_begins f_sort f_value f_word f_wrongAt f_laterFault f_laterPlace a_told a_read f_farHut f_farSinger f_good x1 post_3 := cj_q_m_token_0 (fun _ _ _ _ _ h1 h2 => ⟨fun c3 => ⟨fun c4 => cj_q_m_landLine_93 h_post ((h1.1 c3).1 c4) ((h2.1 c3).1 c4), fun c5 => ⟨fun c6 => ⟨fun c7 => ⟨fun c8 => ⟨fun c9 => ⟨fun c10 => ⟨fun c11 => ⟨fun c12 => cj_q_m_knowsLine_0 (fun _ _ _ _ _ _ _ _ _ _ _ _ _ h13 h14 => ⟨h13.1, h_post _ _ _ _ _ _ _ _ _ _ _ _ _ _ h13.2 h14.2⟩) (((((((((h1.1 c3).2 c5).1 c6).1 c7).1 c8).1 c9).1 c10).1 c11).1 c12) (((((((((h2.1 c3).2 c5).1 c6).1 c7).1 c8).1 c9).1 c10).1 c11).1 c12), fun c15 => cj_q_m_singerLine_0 (fun _ _ _ _ _ _ _ _ _ _ _ _ _ h16 h17 => ⟨h16.1, h_post _ _ _ _ _ _ _ _ _ _ _ _ _ _ h16.2 h17.2⟩) (((((((((h1.1 c3).2 c5).1 c6).1 c7).1 c8).1 c9).1 c10).1 c11).2 c15) (((((((((h2.1 c3).2 c5).1 c6).1 c7).1 c8).1 c9).1 c10).1 c11).2 c15)⟩, fun c18 => cj_q_m_ladderLine_0 (fun _ _ _ _ _ _ _ _ _ _ _ _ _ h19 h20 => ⟨h19.1, h_post _ _ _ _ _ _ _ _ _ _ _ _ _ _ h19.2 h20.2⟩) ((((((((h1.1 c3).2 c5).1 c6).1 c7).1 c8).1 c9).1 c10).2 c18) ((((((((h2.1 c3).2 c5).1 c6).1 c7).1 c8).1 c9).1 c10).2 c18)⟩, fun c21 => cj_q_m_echoLine_0 (fun _ _ _ _ _ _ _ _ _ _ _ _ _ h22 h23 => ⟨h22.1, h_post _ _ _ _ _ _ _ _ _ _ _ _ _ _ h22.2 h23.2⟩) (((((((h1.1 c3).2 c5).1 c6).1 c7).1 c8).1 c9).2 c21) (((((((h2.1 c3).2 c5).1 c6).1 c7).1 c8).1 c9).2 c21)⟩, fun c24 => cj_q_m_wayLine_0 (fun _ _ _ _ _ _ _ _ _ _ _ _ _ h25 h26 => ⟨h25.1, h_post _ _ _ _ _ _ _ _ _ _ _ _ _ _ h25.2 h26.2⟩) ((((((h1.1 c3).2 c5).1 c6).1 c7).1 c8).2 c24) ((((((h2.1 c3).2 c5).1 c6).1 c7).1 c8).2 c24)⟩, fun c27 => cj_q_m_plainLine_0 (fun _ _ _ _ _ _ _ _ _ _ _ _ h28 h29 => ⟨h28.1, h_post _ _ _ _ _ _ _ _ _ _ _ _ _ _ h28.2 h29.2⟩) (((((h1.1 c3).2 c5).1 c6).1 c7).2 c27) (((((h2.1 c3).2 c5).1 c6).1 c7).2 c27)⟩, fun c30 => cj_q_m_plainLine_0 (fun _ _ _ _ _ _ _ _ _ _ _ _ h31 h32 => ⟨h31.1, h_post _ _ _ _ _ _ _ _ _ _ _ _ _ _ h31.2 h32.2⟩) ((((h1.1 c3).2 c5).1 c6).2 c30) ((((h2.1 c3).2 c5).1 c6).2 c30)⟩, fun c33 => cj_q_m_landLine_93 h_post (((h1.1 c3).2 c5).2 c33) (((h2.1 c3).2 c5).2 c33)⟩⟩, fun c34 => cj_q_m_hutLine_0 (fun _ _ _ _ _ _ _ _ _ _ _ _ h35 h36 => ⟨h35.1, h_post _ _ _ _ _ _ _ _ _ _ _ _ _ _ h35.2 h36.2⟩) (h1.2 c34) (h2.2 c34)⟩) h1 h2
set_option maxRecDepth 40000 in
theorem cj_q_m_landLine_44 {a_tape : Nat → Int32} {f_reached : Int32} {f_length : Int32} {f_begins : Int32} {f_sort : Int32} {f_value : Int32} {f_word : Int64} {f_wrongAt : Int32} {f_laterFault : Int32} {f_laterPlace : Int32} {a_told : Nat → Int32} {a_read : Nat → Int32} {f_farHut : Int32} {f_farSinger : Int32} {f_good : Int32} {x1 : Int64} {x3 : Int32} {post_1 post_2 post_3 : Int32 → (Int32) → (Int32) → (Int32) → (Int32) → (Int64) → (Int32) → (Int32) → (Int32) → (Nat → Int32) → (Nat → Int32) → (Int32) → (Int32) → (Int32) → Prop} (h_post : ∀ x0 x1 x2 x3 x4 x5 x6 x7 x8 x9 x10 x11 x12 x13, post_1 x0 x1 x2 x3 x4 x5 x6 x7 x8 x9 x10 x11 x12 x13 → post_2 x0 x1 x2 x3 x4 x5 x6 x7 x8 x9 x10 x11 x12 x13 → post_3 x0 x1 x2 x3 x4 x5 x6 x7 x8 x9 x10 x11 x12 x13) (h1 : q_m_landLine_44 a_tape f_reached f_length f_begins f_sort f_value f_word f_wrongAt f_laterFault f_laterPlace a_told a_read f_farHut f_farSinger f_good x1 x3 post_1) (h2 : q_m_landLine_44 a_tape f_reached f_length f_begins f_sort f_value f_word f_wrongAt f_laterFault f_laterPlace a_told a_read f_farHut f_farSinger f_good x1 x3 post_2) : q_m_landLine_44 a_tape f_reached f_length f_begins f_sort f_value f_word f_wrongAt f_laterFault f_laterPlace a_told a_read f_farHut f_farSinger f_good x1 x3 post_3 := ⟨fun c1 => cj_q_m_landLine_60 h_post (h1.1 c1) (h2.1 c1), fun c2 => cj_q_m_full_0 (fun _ _ h3 h4 => cj_q_m_landLine_60 h_post h3 h4) (h1.2 c2) (h2.2 c2)⟩
set_option maxRecDepth 40000 in
theorem cj_q_m_landLine_29 {a_tape : Nat → Int32} {f_reached : Int32} {f_length : Int32} {f_begins : Int32} {f_sort : Int32} {f_value : Int32} {f_word : Int64} {f_wrongAt : Int32} {f_laterFault : Int32} {f_laterPlace : Int32} {a_told : Nat → Int32} {a_read : Nat → Int32} {f_farHut : Int32} {f_farSinger : Int32} {f_good : Int32} {x1 : Int64} {x3 : Int32} {post_1 post_2 post_3 : Int32 → (Int32) → (Int32) → (Int32) → (Int32) → (Int64) → (Int32) → (Int32) → (Int32) → (Nat → Int32) → (Nat → Int32) → (Int32) → (Int32) → (Int32) → Prop} (h_post : ∀ x0 x1 x2 x3 x4 x5 x6 x7 x8 x9 x10 x11 x12 x13, post_1 x0 x1 x2 x3 x4 x5 x6 x7 x8 x9 x10 x11 x12 x13 → post_2 x0 x1 x2 x3 x4 x5 x6 x7 x8 x9 x10 x11 x12 x13 → post_3 x0 x1 x2 x3 x4 x5 x6 x7 x8 x9 x10 x11 x12 x13) (h1 : q_m_landLine_29 a_tape f_reached f_length f_begins f_sort f_value f_word f_wrongAt f_laterFault f_laterPlace a_told a_read f_farHut f_farSinger f_good x1 x3 post_1) (h2 : q_m_landLine_29 a_tape f_reached f_length f_begins f_sort f_value f_word f_wrongAt f_laterFault f_laterPlace a_told a_read f_farHut f_farSinger f_good x1 x3 post_2) : q_m_landLine_29 a_tape f_reached f_length f_begins f_sort f_value f_word f_wrongAt f_laterFault f_laterPlace a_told a_read f_farHut f_farSinger f_good x1 x3 post_3 := ⟨fun c1 => cj_q_m_landLine_44 h_post (h1.1 c1) (h2.1 c1), fun c2 => cj_q_m_full_0 (fun _ _ h3 h4 => cj_q_m_landLine_44 h_post h3 h4) (h1.2 c2) (h2.2 c2)⟩
set_option maxRecDepth 40000 in
theorem cj_q_m_landLine_0 {a_tape : Nat → Int32} {f_reached : Int32} {f_length : Int32} {f_begins : Int32} {f_sort : Int32} {f_value : Int32} {f_word : Int64} {f_wrongAt : Int32} {f_laterFault : Int32} {f_laterPlace : Int32} {a_told : Nat → Int32} {a_read : Nat → Int32} {f_farHut : Int32} {f_farSinger : Int32} {f_good : Int32} {x1 : Int64} {x3 : Int32} {post_1 post_2 post_3 : Int32 → (Int32) → (Int32) → (Int32) → (Int32) → (Int64) → (Int32) → (Int32) → (Int32) → (Nat → Int32) → (Nat → Int32) → (Int32) → (Int32) → (Int32) → Prop} (h_post : ∀ x0 x1 x2 x3 x4 x5 x6 x7 x8 x9 x10 x11 x12 x13, post_1 x0 x1 x2 x3 x4 x5 x6 x7 x8 x9 x10 x11 x12 x13 → post_2 x0 x1 x2 x3 x4 x5 x6 x7 x8 x9 x10 x11 x12 x13 → post_3 x0 x1 x2 x3 x4 x5 x6 x7 x8 x9 x10 x11 x12 x13) (h1 : q_m_landLine_0 a_tape f_reached f_length f_begins f_sort f_value f_word f_wrongAt f_laterFault f_laterPlace a_told a_read f_farHut f_farSinger f_good x1 x3 post_1) (h2 : q_m_landLine_0 a_tape f_reached f_length f_begins f_sort f_value f_word f_wrongAt f_laterFault f_laterPlace a_told a_read f_farHut f_farSinger f_good x1 x3 post_2) : q_m_landLine_0 a_tape f_reached f_length f_begins f_sort f_value f_word f_wrongAt f_laterFault f_laterPlace a_told a_read f_farHut f_farSinger f_good x1 x3 post_3 := cj_q_m_isLandWord_0 (fun _ h1 h2 => ⟨fun c3 => ⟨fun c4 => cj_q_m_landLine_29 h_post ((h1.1 c3).1 c4) ((h2.1 c3).1 c4), fun c5 => cj_q_m_full_0 (fun _ _ h6 h7 => cj_q_m_landLine_29 h_post h6 h7) ((h1.1 c3).2 c5) ((h2.1 c3).2 c5)⟩, fun c8 => cj_q_m_fails_0 (fun _ _ h9 h10 => ⟨h9.1, h_post _ _ _ _ _ _ _ _ _ _ _ _ _ _ h9.2 h10.2⟩) (h1.2 c8) (h2.2 c8)⟩) h1 h2
set_option maxRecDepth 40000 in
theorem cj_q_m_sightLine_75 {a_tape : Nat → Int32} {f_reached : Int32} {f_length : Int32} {f_begins : Int32} {f_sort : Int32} {f_value : Int32} {f_word : Int64} {f_wrongAt : Int32} {f_laterFault : Int32} {f_laterPlace : Int32} {a_told : Nat → Int32} {a_read : Nat → Int32} {f_good : Int32} {y0 : Int32} {y1 : Int32} {post_1 post_2 post_3 : Int32 → (Int32) → (Int32) → (Int32) → (Int32) → (Int64) → (Int32) → (Int32) → (Int32) → (Nat → Int32) → (Nat → Int32) → (Int32) → Prop} (h_post : ∀ x0 x1 x2 x3 x4 x5 x6 x7 x8 x9 x10 x11, post_1 x0 x1 x2 x3 x4 x5 x6 x7 x8 x9 x10 x11 → post_2 x0 x1 x2 x3 x4 x5 x6 x7 x8 x9 x10 x11 → post_3 x0 x1 x2 x3 x4 x5 x6 x7 x8 x9 x10 x11) (h1 : q_m_sightLine_75 a_tape f_reached f_length f_begins f_sort f_value f_word f_wrongAt f_laterFault f_laterPlace a_told a_read f_good y0 y1 post_1) (h2 : q_m_sightLine_75 a_tape f_reached f_length f_begins f_sort f_value f_word f_wrongAt f_laterFault f_laterPlace a_told a_read f_good y0 y1 post_2) : q_m_sightLine_75 a_tape f_reached f_length f_begins f_sort f_value f_word f_wrongAt f_laterFault f_laterPlace a_told a_read f_good y0 y1 post_3 := ⟨h1.1, fun v1 e2 => cj_q_m_keep_0 (fun _ h3 h4 => h_post _ _ _ _ _ _ _ _ _ _ _ _ h3 h4) (h1.2 v1 e2) (h2.2 v1 e2)⟩
set_option maxRecDepth 40000 in
theorem cj_q_m_sightLine_21 {a_tape : Nat → Int32} {f_reached : Int32} {f_length : Int32} {f_begins : Int32} {f_sort : Int32} {f_value : Int32} {f_word : Int64} {f_wrongAt : Int32} {f_laterFault : Int32} {f_laterPlace : Int32} {a_told : Nat → Int32} {a_read : Nat → Int32} {f_good : Int32} {x1 : Int64} {x3 : Int32} {post_1 post_2 post_3 : Int32 → (Int32) → (Int32) → (Int32) → (Int32) → (Int64) → (Int32) → (Int32) → (Int32) → (Nat → Int32) → (Nat → Int32) → (Int32) → Prop} (h_post : ∀ x0 x1 x2 x3 x4 x5 x6 x7 x8 x9 x10 x11, post_1 x0 x1 x2 x3 x4 x5 x6 x7 x8 x9 x10 x11 → post_2 x0 x1 x2 x3 x4 x5 x6 x7 x8 x9 x10 x11 → post_3 x0 x1 x2 x3 x4 x5 x6 x7 x8 x9 x10 x11) (h1 : q_m_sightLine_21 a_tape f_reached f_length f_begins f_sort f_value f_word f_wrongAt f_laterFault f_laterPlace a_told a_read f_good x1 x3 post_1) (h2 : q_m_sightLine_21 a_tape f_reached f_length f_begins f_sort f_value f_word f_wrongAt f_laterFault f_laterPlace a_told a_read f_good x1 x3 post_2) : q_m_sightLine_21 a_tape f_reached f_length f_begins f_sort f_value f_word f_wrongAt f_laterFault f_laterPlace a_told a_read f_good x1 x3 post_3 := cj_q_m_full_0 (fun _ _ h1 h2 => cj_q_m_token_0 (fun _ _ _ _ _ h3 h4 => cj_q_m_take_0 (fun _ _ _ _ _ _ _ _ _ _ _ h5 h6 => ⟨fun c7 => h_post _ _ _ _ _ _ _ _ _ _ _ _ (h5.1 c7) (h6.1 c7), fun c8 => cj_q_m_take_0 (fun _ _ _ _ _ _ _ _ _ _ _ h9 h10 => ⟨fun c11 => ⟨fun c12 => cj_q_m_sightLine_75 h_post ((h9.1 c11).1 c12) ((h10.1 c11).1 c12), fun c13 => cj_q_m_sightLine_75 h_post ((h9.1 c11).2 c13) ((h10.1 c11).2 c13)⟩, fun c14 => h_post _ _ _ _ _ _ _ _ _ _ _ _ (h9.2 c14) (h10.2 c14)⟩) (h5.2 c8) (h6.2 c8)⟩) h3 h4) h1 h2) h1 h2
set_option maxRecDepth 40000 in
theorem cj_q_m_sightLine_0 {a_tape : Nat → Int32} {f_reached : Int32} {f_length : Int32} {f_begins : Int32} {f_sort : Int32} {f_value : Int32} {f_word : Int64} {f_wrongAt : Int32} {f_laterFault : Int32} {f_laterPlace : Int32} {a_told : Nat → Int32} {a_read : Nat → Int32} {f_good : Int32} {x1 : Int64} {x3 : Int32} {post_1 post_2 post_3 : Int32 → (Int32) → (Int32) → (Int32) → (Int32) → (Int64) → (Int32) → (Int32) → (Int32) → (Nat → Int32) → (Nat → Int32) → (Int32) → Prop} (h_post : ∀ x0 x1 x2 x3 x4 x5 x6 x7 x8 x9 x10 x11, post_1 x0 x1 x2 x3 x4 x5 x6 x7 x8 x9 x10 x11 → post_2 x0 x1 x2 x3 x4 x5 x6 x7 x8 x9 x10 x11 → post_3 x0 x1 x2 x3 x4 x5 x6 x7 x8 x9 x10 x11) (h1 : q_m_sightLine_0 a_tape f_reached f_length f_begins f_sort f_value f_word f_wrongAt f_laterFault f_laterPlace a_told a_read f_good x1 x3 post_1) (h2 : q_m_sightLine_0 a_tape f_reached f_length f_begins f_sort f_value f_word f_wrongAt f_laterFault f_laterPlace a_told a_read f_good x1 x3 post_2) : q_m_sightLine_0 a_tape f_reached f_length f_begins f_sort f_value f_word f_wrongAt f_laterFault f_laterPlace a_told a_read f_good x1 x3 post_3 := ⟨fun c1 => cj_q_m_sightLine_21 h_post (h1.1 c1) (h2.1 c1), fun c2 => ⟨fun c3 => cj_q_m_sightLine_21 h_post ((h1.2 c2).1 c3) ((h2.2 c2).1 c3), fun c4 => cj_q_m_fails_0 (fun _ _ h5 h6 => ⟨h5.1, h_post _ _ _ _ _ _ _ _ _ _ _ _ h5.2 h6.2⟩) ((h1.2 c2).2 c4) ((h2.2 c2).2 c4)⟩⟩
set_option maxRecDepth 40000 in
theorem cj_q_m_lineOf_0 {a_tape : Nat → Int32} {f_reached : Int32} {f_length : Int32} {f_begins : Int32} {f_sort : Int32} {f_value : Int32} {f_word : Int64} {f_wrongAt : Int32} {f_laterFault : Int32} {f_laterPlace : Int32} {a_told : Nat → Int32} {a_read : Nat → Int32} {f_farHut : Int32} {f_farSinger : Int32} {f_good : Int32} {x1 : Int32} {x2 : Int64} {x4 : Int32} {post_1 post_2 post_3 : Int32 → (Int32) → (Int32) → (Int32) → (Int32) → (Int64) → (Int32) → (Int32) → (Int32) → (Nat → Int32) → (Nat → Int32) → (Int32) → (Int32) → (Int32) → Prop} (h_post : ∀ x0 x1 x2 x3 x4 x5 x6 x7 x8 x9 x10 x11 x12 x13, post_1 x0 x1 x2 x3 x4 x5 x6 x7 x8 x9 x10 x11 x12 x13 → post_2 x0 x1 x2 x3 x4 x5 x6 x7 x8 x9 x10 x11 x12 x13 → post_3 x0 x1 x2 x3 x4 x5 x6 x7 x8 x9 x10 x11 x12 x13) (h1 : q_m_lineOf_0 a_tape f_reached f_length f_begins f_sort f_value f_word f_wrongAt f_laterFault f_laterPlace a_told a_read f_farHut f_farSinger f_good x1 x2 x4 post_1) (h2 : q_m_lineOf_0 a_tape f_reached f_length f_begins f_sort f_value f_word f_wrongAt f_laterFault f_laterPlace a_told a_read f_farHut f_farSinger f_good x1 x2 x4 post_2) : q_m_lineOf_0 a_tape f_reached f_length f_begins f_sort f_value f_word f_wrongAt f_laterFault f_laterPlace a_told a_read f_farHut f_farSinger f_good x1 x2 x4 post_3 := ⟨fun c1 => cj_q_m_choirLine_0 (fun _ _ _ _ _ _ _ _ _ _ _ _ h2 h3 => ⟨h2.1, h_post _ _ _ _ _ _ _ _ _ _ _ _ _ _ h2.2 h3.2⟩) (h1.1 c1) (h2.1 c1), fun c4 => cj_q_m_landLine_0 (fun _ _ _ _ _ _ _ _ _ _ _ _ _ _ h5 h6 => ⟨h5.1, h_post _ _ _ _ _ _ _ _ _ _ _ _ _ _ h5.2 h6.2⟩) (h1.2.1 c4) (h2.2.1 c4), fun c7 => cj_q_m_eveningLine_0 (fun _ _ _ _ _ _ _ _ _ _ _ _ h8 h9 => ⟨h8.1, h_post _ _ _ _ _ _ _ _ _ _ _ _ _ _ h8.2 h9.2⟩) (h1.2.2.1 c7) (h2.2.2.1 c7), fun c10 => cj_q_m_sightLine_0 (fun _ _ _ _ _ _ _ _ _ _ _ _ h11 h12 => ⟨h11.1, h_post _ _ _ _ _ _ _ _ _ _ _ _ _ _ h11.2 h12.2⟩) (h1.2.2.2 c10) (h2.2.2.2 c10)⟩
set_option maxRecDepth 40000 in
theorem cj_q_m_lines_71 {P2_1 P2_2 P2_3 : Int32 → (Int32) → (Int32) → (Int32) → (Int32) → (Int64) → (Int32) → (Int32) → (Int32) → (Nat → Int32) → (Nat → Int32) → (Int32) → (Int32) → (Int32) → Prop} {a_tape : Nat → Int32} {f_reached : Int32} {f_length : Int32} {f_begins : Int32} {f_sort : Int32} {f_value : Int32} {f_word : Int64} {f_wrongAt : Int32} {f_laterFault : Int32} {f_laterPlace : Int32} {a_told : Nat → Int32} {a_read : Nat → Int32} {f_farHut : Int32} {f_farSinger : Int32} {f_good : Int32} {x1 : Int32} {x2 : Int32} {post_1 post_2 post_3 : Int32 → (Int32) → (Int32) → (Int32) → (Int32) → (Int64) → (Int32) → (Int32) → (Int32) → (Nat → Int32) → (Nat → Int32) → (Int32) → (Int32) → (Int32) → Prop} (h_P2 : ∀ x0 x1 x2 x3 x4 x5 x6 x7 x8 x9 x10 x11 x12 x13, P2_1 x0 x1 x2 x3 x4 x5 x6 x7 x8 x9 x10 x11 x12 x13 → P2_2 x0 x1 x2 x3 x4 x5 x6 x7 x8 x9 x10 x11 x12 x13 → P2_3 x0 x1 x2 x3 x4 x5 x6 x7 x8 x9 x10 x11 x12 x13) (h_post : ∀ x0 x1 x2 x3 x4 x5 x6 x7 x8 x9 x10 x11 x12 x13, post_1 x0 x1 x2 x3 x4 x5 x6 x7 x8 x9 x10 x11 x12 x13 → post_2 x0 x1 x2 x3 x4 x5 x6 x7 x8 x9 x10 x11 x12 x13 → post_3 x0 x1 x2 x3 x4 x5 x6 x7 x8 x9 x10 x11 x12 x13) (h1 : q_m_lines_71 P2_1 a_tape f_reached f_length f_begins f_sort f_value f_word f_wrongAt f_laterFault f_laterPlace a_told a_read f_farHut f_farSinger f_good x1 x2 post_1) (h2 : q_m_lines_71 P2_2 a_tape f_reached f_length f_begins f_sort f_value f_word f_wrongAt f_laterFault f_laterPlace a_told a_read f_farHut f_farSinger f_good x1 x2 post_2) : q_m_lines_71 P2_3 a_tape f_reached f_length f_begins f_sort f_value f_word f_wrongAt f_laterFault f_laterPlace a_told a_read f_farHut f_farSinger f_good x1 x2 post_3 := h_P2 _ _ _ _ _ _ _ _ _ _ _ _ _ _ h1 h2
set_option maxRecDepth 40000 in
theorem cj_q_m_lines_63 {P2_1 P2_2 P2_3 : Int32 → (Int32) → (Int32) → (Int32) → (Int32) → (Int64) → (Int32) → (Int32) → (Int32) → (Nat → Int32) → (Nat → Int32) → (Int32) → (Int32) → (Int32) → Prop} {a_tape : Nat → Int32} {f_reached : Int32} {f_length : Int32} {f_begins : Int32} {f_sort : Int32} {f_value : Int32} {f_word : Int64} {f_wrongAt : Int32} {f_laterFault : Int32} {f_laterPlace : Int32} {a_told : Nat → Int32} {a_read : Nat → Int32} {f_farHut : Int32} {f_farSinger : Int32} {f_good : Int32} {x1 : Int32} {x2 : Int32} {post_1 post_2 post_3 : Int32 → (Int32) → (Int32) → (Int32) → (Int32) → (Int64) → (Int32) → (Int32) → (Int32) → (Nat → Int32) → (Nat → Int32) → (Int32) → (Int32) → (Int32) → Prop} (h_P2 : ∀ x0 x1 x2 x3 x4 x5 x6 x7 x8 x9 x10 x11 x12 x13, P2_1 x0 x1 x2 x3 x4 x5 x6 x7 x8 x9 x10 x11 x12 x13 → P2_2 x0 x1 x2 x3 x4 x5 x6 x7 x8 x9 x10 x11 x12 x13 → P2_3 x0 x1 x2 x3 x4 x5 x6 x7 x8 x9 x10 x11 x12 x13) (h_post : ∀ x0 x1 x2 x3 x4 x5 x6 x7 x8 x9 x10 x11 x12 x13, post_1 x0 x1 x2 x3 x4 x5 x6 x7 x8 x9 x10 x11 x12 x13 → post_2 x0 x1 x2 x3 x4 x5 x6 x7 x8 x9 x10 x11 x12 x13 → post_3 x0 x1 x2 x3 x4 x5 x6 x7 x8 x9 x10 x11 x12 x13) (h1 : q_m_lines_63 P2_1 a_tape f_reached f_length f_begins f_sort f_value f_word f_wrongAt f_laterFault f_laterPlace a_told a_read f_farHut f_farSinger f_good x1 x2 post_1) (h2 : q_m_lines_63 P2_2 a_tape f_reached f_length f_begins f_sort f_value f_word f_wrongAt f_laterFault f_laterPlace a_told a_read f_farHut f_farSinger f_good x1 x2 post_2) : q_m_lines_63 P2_3 a_tape f_reached f_length f_begins f_sort f_value f_word f_wrongAt f_laterFault f_laterPlace a_told a_read f_farHut f_farSinger f_good x1 x2 post_3 := ⟨fun c1 => cj_q_m_lines_71 h_P2 h_post (h1.1 c1) (h2.1 c1), fun c2 => cj_q_m_token_0 (fun _ _ _ _ _ h3 h4 => cj_q_m_lines_71 h_P2 h_post h3 h4) (h1.2 c2) (h2.2 c2)⟩
set_option maxRecDepth 40000 in
theorem cj_q_m_lines_41 {P2_1 P2_2 P2_3 : Int32 → (Int32) → (Int32) → (Int32) → (Int32) → (Int64) → (Int32) → (Int32) → (Int32) → (Nat → Int32) → (Nat → Int32) → (Int32) → (Int32) → (Int32) → Prop} {a_tape : Nat → Int32} {f_reached : Int32} {f_length : Int32} {f_begins : Int32} {f_sort : Int32} {f_value : Int32} {f_word : Int64} {f_wrongAt : Int32} {f_laterFault : Int32} {f_laterPlace : Int32} {a_told : Nat → Int32} {a_read : Nat → Int32} {f_farHut : Int32} {f_farSinger : Int32} {f_good : Int32} {x1 : Int32} {x3 : Int32} {y0 : Int32} {y1 : Int64} {post_1 post_2 post_3 : Int32 → (Int32) → (Int32) → (Int32) → (Int32) → (Int64) → (Int32) → (Int32) → (Int32) → (Nat → Int32) → (Nat → Int32) → (Int32) → (Int32) → (Int32) → Prop} (h_P2 : ∀ x0 x1 x2 x3 x4 x5 x6 x7 x8 x9 x10 x11 x12 x13, P2_1 x0 x1 x2 x3 x4 x5 x6 x7 x8 x9 x10 x11 x12 x13 → P2_2 x0 x1 x2 x3 x4 x5 x6 x7 x8 x9 x10 x11 x12 x13 → P2_3 x0 x1 x2 x3 x4 x5 x6 x7 x8 x9 x10 x11 x12 x13) (h_post : ∀ x0 x1 x2 x3 x4 x5 x6 x7 x8 x9 x10 x11 x12 x13, post_1 x0 x1 x2 x3 x4 x5 x6 x7 x8 x9 x10 x11 x12 x13 → post_2 x0 x1 x2 x3 x4 x5 x6 x7 x8 x9 x10 x11 x12 x13 → post_3 x0 x1 x2 x3 x4 x5 x6 x7 x8 x9 x10 x11 x12 x13) (h1 : q_m_lines_41 P2_1 a_tape f_reached f_length f_begins f_sort f_value f_word f_wrongAt f_laterFault f_laterPlace a_told a_read f_farHut f_farSinger f_good x1 x3 y0 y1 post_1) (h2 : q_m_lines_41 P2_2 a_tape f_reached f_length f_begins f_sort f_value f_word f_wrongAt f_laterFault f_laterPlace a_told a_read f_farHut f_farSinger f_good x1 x3 y0 y1 post_2) : q_m_lines_41 P2_3 a_tape f_reached f_length f_begins f_sort f_value f_word f_wrongAt f_laterFault f_laterPlace a_told a_read f_farHut f_farSinger f_good x1 x3 y0 y1 post_3 := cj_q_m_lineOf_0 (fun _ _ _ _ _ _ _ _ _ _ _ _ _ _ h1 h2 => ⟨fun c3 => cj_q_m_lines_63 h_P2 h_post (h1.1 c3) (h2.1 c3), fun c4 => ⟨fun c5 => cj_q_m_lines_63 h_P2 h_post ((h1.2 c4).1 c5) ((h2.2 c4).1 c5), fun c6 => cj_q_m_fails_0 (fun _ _ h7 h8 => cj_q_m_lines_63 h_P2 h_post h7 h8) ((h1.2 c4).2 c6) ((h2.2 c4).2 c6)⟩⟩) h1 h2
set_option maxRecDepth 40000 in
theorem cj_q_m_lines_2 {a_tape : Nat → Int32} {f_reached : Int32} {f_length : Int32} {f_begins : Int32} {f_sort : Int32} {f_value : Int32} {f_word : Int64} {f_wrongAt : Int32} {f_laterFault : Int32} {f_laterPlace : Int32} {a_told : Nat → Int32} {a_read : Nat → Int32} {f_farHut : Int32} {f_farSinger : Int32} {f_good : Int32} {x1 : Int32} {x2 : Int32} {post_1 post_2 post_3 : Int32 → (Int32) → (Int32) → (Int32) → (Int32) → (Int64) → (Int32) → (Int32) → (Int32) → (Nat → Int32) → (Nat → Int32) → (Int32) → (Int32) → (Int32) → Prop} (h_post : ∀ x0 x1 x2 x3 x4 x5 x6 x7 x8 x9 x10 x11 x12 x13, post_1 x0 x1 x2 x3 x4 x5 x6 x7 x8 x9 x10 x11 x12 x13 → post_2 x0 x1 x2 x3 x4 x5 x6 x7 x8 x9 x10 x11 x12 x13 → post_3 x0 x1 x2 x3 x4 x5 x6 x7 x8 x9 x10 x11 x12 x13) (h1 : q_m_lines_2 a_tape f_reached f_length f_begins f_sort f_value f_word f_wrongAt f_laterFault f_laterPlace a_told a_read f_farHut f_farSinger f_good x1 x2 post_1) (h2 : q_m_lines_2 a_tape f_reached f_length f_begins f_sort f_value f_word f_wrongAt f_laterFault f_laterPlace a_told a_read f_farHut f_farSinger f_good x1 x2 post_2) : q_m_lines_2 a_tape f_reached f_length f_begins f_sort f_value f_word f_wrongAt f_laterFault f_laterPlace a_told a_read f_farHut f_farSinger f_good x1 x2 post_3 := lfp_14 h1 h2 (fun A B C hsk1 _ _ _ _ _ _ _ _ _ _ _ _ _ _ hak1 hck1 => ⟨fun c2 => ⟨(hak1.1 c2).1, h_post _ _ _ _ _ _ _ _ _ _ _ _ _ _ (hak1.1 c2).2 (hck1.1 c2).2⟩, fun c3 => ⟨fun c4 => ⟨((hak1.2 c3).1 c4).1, h_post _ _ _ _ _ _ _ _ _ _ _ _ _ _ ((hak1.2 c3).1 c4).2 ((hck1.2 c3).1 c4).2⟩, fun c5 => ⟨fun c6 => cj_q_m_lines_41 hsk1 h_post (((hak1.2 c3).2 c5).1 c6) (((hck1.2 c3).2 c5).1 c6), fun c7 => cj_q_m_lines_41 hsk1 h_post (((hak1.2 c3).2 c5).2 c7) (((hck1.2 c3).2 c5).2 c7)⟩⟩⟩) (fun A B hqk1 _ _ _ _ _ _ _ _ _ _ _ _ _ _ hbk1 => ⟨fun c8 => ⟨(hbk1.1 c8).1, (hbk1.1 c8).2⟩, fun c9 => ⟨fun c10 => ⟨((hbk1.2 c9).1 c10).1, ((hbk1.2 c9).1 c10).2⟩, fun c11 => ⟨fun c12 => cj_q_m_lines_41 (fun _ _ _ _ _ _ _ _ _ _ _ _ _ _ h _ => hqk1 _ _ _ _ _ _ _ _ _ _ _ _ _ _ h) (fun _ _ _ _ _ _ _ _ _ _ _ _ _ _ h _ => h) (((hbk1.2 c9).2 c11).1 c12) (((hbk1.2 c9).2 c11).1 c12), fun c13 => cj_q_m_lines_41 (fun _ _ _ _ _ _ _ _ _ _ _ _ _ _ h _ => hqk1 _ _ _ _ _ _ _ _ _ _ _ _ _ _ h) (fun _ _ _ _ _ _ _ _ _ _ _ _ _ _ h _ => h) (((hbk1.2 c9).2 c11).2 c13) (((hbk1.2 c9).2 c11).2 c13)⟩⟩⟩)
set_option maxRecDepth 40000 in
theorem cj_q_m_lines_0 {a_tape : Nat → Int32} {f_reached : Int32} {f_length : Int32} {f_begins : Int32} {f_sort : Int32} {f_value : Int32} {f_word : Int64} {f_wrongAt : Int32} {f_laterFault : Int32} {f_laterPlace : Int32} {a_told : Nat → Int32} {a_read : Nat → Int32} {f_farHut : Int32} {f_farSinger : Int32} {f_good : Int32} {x1 : Int32} {post_1 post_2 post_3 : Int32 → (Int32) → (Int32) → (Int32) → (Int32) → (Int64) → (Int32) → (Int32) → (Int32) → (Nat → Int32) → (Nat → Int32) → (Int32) → (Int32) → (Int32) → Prop} (h_post : ∀ x0 x1 x2 x3 x4 x5 x6 x7 x8 x9 x10 x11 x12 x13, post_1 x0 x1 x2 x3 x4 x5 x6 x7 x8 x9 x10 x11 x12 x13 → post_2 x0 x1 x2 x3 x4 x5 x6 x7 x8 x9 x10 x11 x12 x13 → post_3 x0 x1 x2 x3 x4 x5 x6 x7 x8 x9 x10 x11 x12 x13) (h1 : q_m_lines_0 a_tape f_reached f_length f_begins f_sort f_value f_word f_wrongAt f_laterFault f_laterPlace a_told a_read f_farHut f_farSinger f_good x1 post_1) (h2 : q_m_lines_0 a_tape f_reached f_length f_begins f_sort f_value f_word f_wrongAt f_laterFault f_laterPlace a_told a_read f_farHut f_farSinger f_good x1 post_2) : q_m_lines_0 a_tape f_reached f_length f_begins f_sort f_value f_word f_wrongAt f_laterFault f_laterPlace a_told a_read f_farHut f_farSinger f_good x1 post_3 := cj_q_m_lines_2 h_post h1 h2
set_option maxRecDepth 40000 in
theorem cj_q_m_readText_170 {a_tape : Nat → Int32} {a_fault : Nat → Int32} {a_faultPlace : Nat → Int32} {f_reached : Int32} {f_length : Int32} {f_begins : Int32} {f_sort : Int32} {f_value : Int32} {f_word : Int64} {f_wrongAt : Int32} {f_laterFault : Int32} {f_laterPlace : Int32} {a_told : Nat → Int32} {a_read : Nat → Int32} {f_farHut : Int32} {f_farSinger : Int32} {f_good : Int32} {y0 : Int32} {y1 : Int32} {post_1 post_2 post_3 : Int32 → (Nat → Int32) → (Nat → Int32) → (Int32) → (Int32) → (Int32) → (Int32) → (Int64) → (Int32) → (Int32) → (Int32) → (Nat → Int32) → (Nat → Int32) → (Int32) → (Int32) → (Int32) → Prop} (h_post : ∀ x0 x1 x2 x3 x4 x5 x6 x7 x8 x9 x10 x11 x12 x13 x14 x15, post_1 x0 x1 x2 x3 x4 x5 x6 x7 x8 x9 x10 x11 x12 x13 x14 x15 → post_2 x0 x1 x2 x3 x4 x5 x6 x7 x8 x9 x10 x11 x12 x13 x14 x15 → post_3 x0 x1 x2 x3 x4 x5 x6 x7 x8 x9 x10 x11 x12 x13 x14 x15) (h1 : q_m_readText_170 a_tape a_fault a_faultPlace f_reached f_length f_begins f_sort f_value f_word f_wrongAt f_laterFault f_laterPlace a_told a_read f_farHut f_farSinger f_good y0 y1 post_1) (h2 : q_m_readText_170 a_tape a_fault a_faultPlace f_reached f_length f_begins f_sort f_value f_word f_wrongAt f_laterFault f_laterPlace a_told a_read f_farHut f_farSinger f_good y0 y1 post_2) : q_m_readText_170 a_tape a_fault a_faultPlace f_reached f_length f_begins f_sort f_value f_word f_wrongAt f_laterFault f_laterPlace a_told a_read f_farHut f_farSinger f_good y0 y1 post_3 := ⟨h1.1, fun v1 e2 => ⟨fun c3 => h_post _ _ _ _ _ _ _ _ _ _ _ _ _ _ _ _ ((h1.2 v1 e2).1 c3) ((h2.2 v1 e2).1 c3), fun c4 => h_post _ _ _ _ _ _ _ _ _ _ _ _ _ _ _ _ ((h1.2 v1 e2).2 c4) ((h2.2 v1 e2).2 c4)⟩⟩
set_option maxRecDepth 40000 in
theorem cj_q_m_readText_138 {a_tape : Nat → Int32} {a_fault : Nat → Int32} {a_faultPlace : Nat → Int32} {f_reached : Int32} {f_length : Int32} {f_begins : Int32} {f_sort : Int32} {f_value : Int32} {f_word : Int64} {f_wrongAt : Int32} {f_laterFault : Int32} {f_laterPlace : Int32} {a_told : Nat → Int32} {a_read : Nat → Int32} {f_farHut : Int32} {f_farSinger : Int32} {f_good : Int32} {x2 : Int32} {y0 : Int32} {y1 : Int32} {post_1 post_2 post_3 : Int32 → (Nat → Int32) → (Nat → Int32) → (Int32) → (Int32) → (Int32) → (Int32) → (Int64) → (Int32) → (Int32) → (Int32) → (Nat → Int32) → (Nat → Int32) → (Int32) → (Int32) → (Int32) → Prop} (h_post : ∀ x0 x1 x2 x3 x4 x5 x6 x7 x8 x9 x10 x11 x12 x13 x14 x15, post_1 x0 x1 x2 x3 x4 x5 x6 x7 x8 x9 x10 x11 x12 x13 x14 x15 → post_2 x0 x1 x2 x3 x4 x5 x6 x7 x8 x9 x10 x11 x12 x13 x14 x15 → post_3 x0 x1 x2 x3 x4 x5 x6 x7 x8 x9 x10 x11 x12 x13 x14 x15) (h1 : q_m_readText_138 a_tape a_fault a_faultPlace f_reached f_length f_begins f_sort f_value f_word f_wrongAt f_laterFault f_laterPlace a_told a_read f_farHut f_farSinger f_good x2 y0 y1 post_1) (h2 : q_m_readText_138 a_tape a_fault a_faultPlace f_reached f_length f_begins f_sort f_value f_word f_wrongAt f_laterFault f_laterPlace a_told a_read f_farHut f_farSinger f_good x2 y0 y1 post_2) : q_m_readText_138 a_tape a_fault a_faultPlace f_reached f_length f_begins f_sort f_value f_word f_wrongAt f_laterFault f_laterPlace a_told a_read f_farHut f_farSinger f_good x2 y0 y1 post_3 := ⟨h1.1, fun v1 e2 => ⟨fun c3 => ⟨fun c4 => cj_q_m_readText_170 h_post (((h1.2 v1 e2).1 c3).1 c4) (((h2.2 v1 e2).1 c3).1 c4), fun c5 => cj_q_m_readText_170 h_post (((h1.2 v1 e2).1 c3).2 c5) (((h2.2 v1 e2).1 c3).2 c5)⟩, fun c6 => cj_q_m_readText_170 h_post ((h1.2 v1 e2).2 c6) ((h2.2 v1 e2).2 c6)⟩⟩
set_option maxRecDepth 40000 in
theorem cj_q_m_readText_121 {a_tape : Nat → Int32} {a_fault : Nat → Int32} {a_faultPlace : Nat → Int32} {f_reached : Int32} {f_length : Int32} {f_begins : Int32} {f_sort : Int32} {f_value : Int32} {f_word : Int64} {f_wrongAt : Int32} {f_laterFault : Int32} {f_laterPlace : Int32} {a_told : Nat → Int32} {a_read : Nat → Int32} {f_farHut : Int32} {f_farSinger : Int32} {f_good : Int32} {x2 : Int32} {post_1 post_2 post_3 : Int32 → (Nat → Int32) → (Nat → Int32) → (Int32) → (Int32) → (Int32) → (Int32) → (Int64) → (Int32) → (Int32) → (Int32) → (Nat → Int32) → (Nat → Int32) → (Int32) → (Int32) → (Int32) → Prop} (h_post : ∀ x0 x1 x2 x3 x4 x5 x6 x7 x8 x9 x10 x11 x12 x13 x14 x15, post_1 x0 x1 x2 x3 x4 x5 x6 x7 x8 x9 x10 x11 x12 x13 x14 x15 → post_2 x0 x1 x2 x3 x4 x5 x6 x7 x8 x9 x10 x11 x12 x13 x14 x15 → post_3 x0 x1 x2 x3 x4 x5 x6 x7 x8 x9 x10 x11 x12 x13 x14 x15) (h1 : q_m_readText_121 a_tape a_fault a_faultPlace f_reached f_length f_begins f_sort f_value f_word f_wrongAt f_laterFault f_laterPlace a_told a_read f_farHut f_farSinger f_good x2 post_1) (h2 : q_m_readText_121 a_tape a_fault a_faultPlace f_reached f_length f_begins f_sort f_value f_word f_wrongAt f_laterFault f_laterPlace a_told a_read f_farHut f_farSinger f_good x2 post_2) : q_m_readText_121 a_tape a_fault a_faultPlace f_reached f_length f_begins f_sort f_value f_word f_wrongAt f_laterFault f_laterPlace a_told a_read f_farHut f_farSinger f_good x2 post_3 := ⟨fun c1 => cj_q_m_readText_138 h_post (h1.1 c1) (h2.1 c1), fun c2 => cj_q_m_readText_138 h_post (h1.2 c2) (h2.2 c2)⟩
set_option maxRecDepth 40000 in
theorem cj_q_m_readText_112 {a_tape : Nat → Int32} {a_fault : Nat → Int32} {a_faultPlace : Nat → Int32} {f_reached : Int32} {f_length : Int32} {f_begins : Int32} {f_sort : Int32} {f_value : Int32} {f_word : Int64} {f_wrongAt : Int32} {f_laterFault : Int32} {f_laterPlace : Int32} {a_told : Nat → Int32} {a_read : Nat → Int32} {f_farHut : Int32} {f_farSinger : Int32} {f_good : Int32} {x2 : Int32} {post_1 post_2 post_3 : Int32 → (Nat → Int32) → (Nat → Int32) → (Int32) → (Int32) → (Int32) → (Int32) → (Int64) → (Int32) → (Int32) → (Int32) → (Nat → Int32) → (Nat → Int32) → (Int32) → (Int32) → (Int32) → Prop} (h_post : ∀ x0 x1 x2 x3 x4 x5 x6 x7 x8 x9 x10 x11 x12 x13 x14 x15, post_1 x0 x1 x2 x3 x4 x5 x6 x7 x8 x9 x10 x11 x12 x13 x14 x15 → post_2 x0 x1 x2 x3 x4 x5 x6 x7 x8 x9 x10 x11 x12 x13 x14 x15 → post_3 x0 x1 x2 x3 x4 x5 x6 x7 x8 x9 x10 x11 x12 x13 x14 x15) (h1 : q_m_readText_112 a_tape a_fault a_faultPlace f_reached f_length f_begins f_sort f_value f_word f_wrongAt f_laterFault f_laterPlace a_told a_read f_farHut f_farSinger f_good x2 post_1) (h2 : q_m_readText_112 a_tape a_fault a_faultPlace f_reached f_length f_begins f_sort f_value f_word f_wrongAt f_laterFault f_laterPlace a_told a_read f_farHut f_farSinger f_good x2 post_2) : q_m_readText_112 a_tape a_fault a_faultPlace f_reached f_length f_begins f_sort f_value f_word f_wrongAt f_laterFault f_laterPlace a_told a_read f_farHut f_farSinger f_good x2 post_3 := cj_q_m_later_0 (fun _ _ h1 h2 => cj_q_m_readText_121 h_post h1 h2) h1 h2
set_option maxRecDepth 40000 in
theorem cj_q_m_readText_41 {a_tape : Nat → Int32} {a_fault : Nat → Int32} {a_faultPlace : Nat → Int32} {f_reached : Int32} {f_length : Int32} {f_begins : Int32} {f_sort : Int32} {f_value : Int32} {f_word : Int64} {f_wrongAt : Int32} {f_laterFault : Int32} {f_laterPlace : Int32} {a_told : Nat → Int32} {a_read : Nat → Int32} {f_farHut : Int32} {f_farSinger : Int32} {f_good : Int32} {x1 : Int32} {post_1 post_2 post_3 : Int32 → (Nat → Int32) → (Nat → Int32) → (Int32) → (Int32) → (Int32) → (Int32) → (Int64) → (Int32) → (Int32) → (Int32) → (Nat → Int32) → (Nat → Int32) → (Int32) → (Int32) → (Int32) → Prop} (h_post : ∀ x0 x1 x2 x3 x4 x5 x6 x7 x8 x9 x10 x11 x12 x13 x14 x15, post_1 x0 x1 x2 x3 x4 x5 x6 x7 x8 x9 x10 x11 x12 x13 x14 x15 → post_2 x0 x1 x2 x3 x4 x5 x6 x7 x8 x9 x10 x11 x12 x13 x14 x15 → post_3 x0 x1 x2 x3 x4 x5 x6 x7 x8 x9 x10 x11 x12 x13 x14 x15) (h1 : q_m_readText_41 a_tape a_fault a_faultPlace f_reached f_length f_begins f_sort f_value f_word f_wrongAt f_laterFault f_laterPlace a_told a_read f_farHut f_farSinger f_good x1 post_1) (h2 : q_m_readText_41 a_tape a_fault a_faultPlace f_reached f_length f_begins f_sort f_value f_word f_wrongAt f_laterFault f_laterPlace a_told a_read f_farHut f_farSinger f_good x1 post_2) : q_m_readText_41 a_tape a_fault a_faultPlace f_reached f_length f_begins f_sort f_value f_word f_wrongAt f_laterFault f_laterPlace a_told a_read f_farHut f_farSinger f_good x1 post_3 := cj_q_m_token_0 (fun _ _ _ _ _ h1 h2 => cj_q_m_lines_0 (fun _ _ _ _ _ _ _ _ _ _ _ _ _ _ h3 h4 => ⟨fun c5 => cj_q_m_readText_121 h_post (h3.1 c5) (h4.1 c5), fun c6 => ⟨fun c7 => cj_q_m_readText_121 h_post ((h3.2 c6).1 c7) ((h4.2 c6).1 c7), fun c8 => ⟨fun c9 => cj_q_m_readText_121 h_post (((h3.2 c6).2 c8).1 c9) (((h4.2 c6).2 c8).1 c9), fun c10 => ⟨fun c11 => cj_q_m_readText_112 h_post ((((h3.2 c6).2 c8).2 c10).1 c11) ((((h4.2 c6).2 c8).2 c10).1 c11), fun c12 => ⟨fun c13 => cj_q_m_readText_121 h_post (((((h3.2 c6).2 c8).2 c10).2 c12).1 c13) (((((h4.2 c6).2 c8).2 c10).2 c12).1 c13), fun c14 => cj_q_m_readText_112 h_post (((((h3.2 c6).2 c8).2 c10).2 c12).2 c14) (((((h4.2 c6).2 c8).2 c10).2 c12).2 c14)⟩⟩⟩⟩⟩) h1 h2) h1 h2
set_option maxRecDepth 40000 in
theorem cj_q_m_readText_2 {a_tape : Nat → Int32} {a_fault : Nat → Int32} {a_faultPlace : Nat → Int32} {f_reached : Int32} {f_length : Int32} {f_begins : Int32} {f_sort : Int32} {f_value : Int32} {f_word : Int64} {f_wrongAt : Int32} {f_laterFault : Int32} {f_laterPlace : Int32} {a_told : Nat → Int32} {a_read : Nat → Int32} {f_farHut : Int32} {f_farSinger : Int32} {f_good : Int32} {x1 : Int32} {x2 : Int32} {post_1 post_2 post_3 : Int32 → (Nat → Int32) → (Nat → Int32) → (Int32) → (Int32) → (Int32) → (Int32) → (Int64) → (Int32) → (Int32) → (Int32) → (Nat → Int32) → (Nat → Int32) → (Int32) → (Int32) → (Int32) → Prop} (h_post : ∀ x0 x1 x2 x3 x4 x5 x6 x7 x8 x9 x10 x11 x12 x13 x14 x15, post_1 x0 x1 x2 x3 x4 x5 x6 x7 x8 x9 x10 x11 x12 x13 x14 x15 → post_2 x0 x1 x2 x3 x4 x5 x6 x7 x8 x9 x10 x11 x12 x13 x14 x15 → post_3 x0 x1 x2 x3 x4 x5 x6 x7 x8 x9 x10 x11 x12 x13 x14 x15) (h1 : q_m_readText_2 a_tape a_fault a_faultPlace f_reached f_length f_begins f_sort f_value f_word f_wrongAt f_laterFault f_laterPlace a_told a_read f_farHut f_farSinger f_good x1 x2 post_1) (h2 : q_m_readText_2 a_tape a_fault a_faultPlace f_reached f_length f_begins f_sort f_value f_word f_wrongAt f_laterFault f_laterPlace a_told a_read f_farHut f_farSinger f_good x1 x2 post_2) : q_m_readText_2 a_tape a_fault a_faultPlace f_reached f_length f_begins f_sort f_value f_word f_wrongAt f_laterFault f_laterPlace a_told a_read f_farHut f_farSinger f_good x1 x2 post_3 := lfp_2 h1 h2 (fun A B C hsk1 _ _ hak1 hck1 => ⟨fun c2 => ⟨fun c3 => cj_q_m_readText_41 h_post ((hak1.1 c2).1 c3) ((hck1.1 c2).1 c3), fun c4 => fun v5 e6 => fun v7 e8 => cj_q_m_readText_41 h_post ((((hak1.1 c2).2 c4) v5 e6) v7 e8) ((((hck1.1 c2).2 c4) v5 e6) v7 e8)⟩, fun c9 => ⟨(hak1.2 c9).1, fun v10 e11 => fun v12 e13 => hsk1 _ _ (((hak1.2 c9).2 v10 e11) v12 e13) (((hck1.2 c9).2 v10 e11) v12 e13)⟩⟩) (fun A B hqk1 _ _ hbk1 => ⟨fun c14 => ⟨fun c15 => cj_q_m_readText_41 (fun _ _ _ _ _ _ _ _ _ _ _ _ _ _ _ _ h _ => h) ((hbk1.1 c14).1 c15) ((hbk1.1 c14).1 c15), fun c16 => fun v17 e18 => fun v19 e20 => cj_q_m_readText_41 (fun _ _ _ _ _ _ _ _ _ _ _ _ _ _ _ _ h _ => h) ((((hbk1.1 c14).2 c16) v17 e18) v19 e20) ((((hbk1.1 c14).2 c16) v17 e18) v19 e20)⟩, fun c21 => ⟨(hbk1.2 c21).1, fun v22 e23 => fun v24 e25 => hqk1 _ _ (((hbk1.2 c21).2 v22 e23) v24 e25)⟩⟩)
set_option maxRecDepth 40000 in
theorem cj_q_m_readText_0 {a_tape : Nat → Int32} {a_fault : Nat → Int32} {a_faultPlace : Nat → Int32} {f_reached : Int32} {f_length : Int32} {f_begins : Int32} {f_sort : Int32} {f_value : Int32} {f_word : Int64} {f_wrongAt : Int32} {f_laterFault : Int32} {f_laterPlace : Int32} {a_told : Nat → Int32} {a_read : Nat → Int32} {f_farHut : Int32} {f_farSinger : Int32} {f_good : Int32} {x1 : Int32} {post_1 post_2 post_3 : Int32 → (Nat → Int32) → (Nat → Int32) → (Int32) → (Int32) → (Int32) → (Int32) → (Int64) → (Int32) → (Int32) → (Int32) → (Nat → Int32) → (Nat → Int32) → (Int32) → (Int32) → (Int32) → Prop} (h_post : ∀ x0 x1 x2 x3 x4 x5 x6 x7 x8 x9 x10 x11 x12 x13 x14 x15, post_1 x0 x1 x2 x3 x4 x5 x6 x7 x8 x9 x10 x11 x12 x13 x14 x15 → post_2 x0 x1 x2 x3 x4 x5 x6 x7 x8 x9 x10 x11 x12 x13 x14 x15 → post_3 x0 x1 x2 x3 x4 x5 x6 x7 x8 x9 x10 x11 x12 x13 x14 x15) (h1 : q_m_readText_0 a_tape a_fault a_faultPlace f_reached f_length f_begins f_sort f_value f_word f_wrongAt f_laterFault f_laterPlace a_told a_read f_farHut f_farSinger f_good x1 post_1) (h2 : q_m_readText_0 a_tape a_fault a_faultPlace f_reached f_length f_begins f_sort f_value f_word f_wrongAt f_laterFault f_laterPlace a_told a_read f_farHut f_farSinger f_good x1 post_2) : q_m_readText_0 a_tape a_fault a_faultPlace f_reached f_length f_begins f_sort f_value f_word f_wrongAt f_laterFault f_laterPlace a_told a_read f_farHut f_farSinger f_good x1 post_3 := cj_q_m_readText_2 h_post h1 h2
set_option maxRecDepth 40000 in
theorem cj_q_m_store_6_3 {a_lands : Nat → Int32} {a_told : Nat → Int32} {x2 : Int32} {x3 : Int32} {x4 : Int32} {post_1 post_2 post_3 : (Nat → Int32) → Prop} (h_post : ∀ x0, post_1 x0 → post_2 x0 → post_3 x0) (h1 : q_m_store_6_3 a_lands a_told x2 x3 x4 post_1) (h2 : q_m_store_6_3 a_lands a_told x2 x3 x4 post_2) : q_m_store_6_3 a_lands a_told x2 x3 x4 post_3 := lfp_2 h1 h2 (fun A B C hsk1 _ _ hak1 hck1 => ⟨fun c2 => h_post _ (hak1.1 c2) (hck1.1 c2), fun c3 => ⟨(hak1.2 c3).1, fun v4 e5 => ⟨((hak1.2 c3).2 v4 e5).1, fun v6 e7 => fun v8 e9 => hsk1 _ _ ((((hak1.2 c3).2 v4 e5).2 v6 e7) v8 e9) ((((hck1.2 c3).2 v4 e5).2 v6 e7) v8 e9)⟩⟩⟩) (fun A B hqk1 _ _ hbk1 => ⟨fun c10 => (hbk1.1 c10), fun c11 => ⟨(hbk1.2 c11).1, fun v12 e13 => ⟨((hbk1.2 c11).2 v12 e13).1, fun v14 e15 => fun v16 e17 => hqk1 _ _ ((((hbk1.2 c11).2 v12 e13).2 v14 e15) v16 e17)⟩⟩⟩)
set_option maxRecDepth 40000 in
theorem cj_q_m_store_6_0 {a_lands : Nat → Int32} {a_told : Nat → Int32} {x2 : Int32} {x3 : Int32} {post_1 post_2 post_3 : (Nat → Int32) → Prop} (h_post : ∀ x0, post_1 x0 → post_2 x0 → post_3 x0) (h1 : q_m_store_6_0 a_lands a_told x2 x3 post_1) (h2 : q_m_store_6_0 a_lands a_told x2 x3 post_2) : q_m_store_6_0 a_lands a_told x2 x3 post_3 := cj_q_m_store_6_3 h_post h1 h2
set_option maxRecDepth 40000 in
theorem cj_q_m_store_7_3 {a_evenings : Nat → Int32} {a_told : Nat → Int32} {x2 : Int32} {x3 : Int32} {x4 : Int32} {post_1 post_2 post_3 : (Nat → Int32) → Prop} (h_post : ∀ x0, post_1 x0 → post_2 x0 → post_3 x0) (h1 : q_m_store_7_3 a_evenings a_told x2 x3 x4 post_1) (h2 : q_m_store_7_3 a_evenings a_told x2 x3 x4 post_2) : q_m_store_7_3 a_evenings a_told x2 x3 x4 post_3 := lfp_2 h1 h2 (fun A B C hsk1 _ _ hak1 hck1 => ⟨fun c2 => h_post _ (hak1.1 c2) (hck1.1 c2), fun c3 => ⟨(hak1.2 c3).1, fun v4 e5 => ⟨((hak1.2 c3).2 v4 e5).1, fun v6 e7 => fun v8 e9 => hsk1 _ _ ((((hak1.2 c3).2 v4 e5).2 v6 e7) v8 e9) ((((hck1.2 c3).2 v4 e5).2 v6 e7) v8 e9)⟩⟩⟩) (fun A B hqk1 _ _ hbk1 => ⟨fun c10 => (hbk1.1 c10), fun c11 => ⟨(hbk1.2 c11).1, fun v12 e13 => ⟨((hbk1.2 c11).2 v12 e13).1, fun v14 e15 => fun v16 e17 => hqk1 _ _ ((((hbk1.2 c11).2 v12 e13).2 v14 e15) v16 e17)⟩⟩⟩)
set_option maxRecDepth 40000 in
theorem cj_q_m_store_7_0 {a_evenings : Nat → Int32} {a_told : Nat → Int32} {x2 : Int32} {x3 : Int32} {post_1 post_2 post_3 : (Nat → Int32) → Prop} (h_post : ∀ x0, post_1 x0 → post_2 x0 → post_3 x0) (h1 : q_m_store_7_0 a_evenings a_told x2 x3 post_1) (h2 : q_m_store_7_0 a_evenings a_told x2 x3 post_2) : q_m_store_7_0 a_evenings a_told x2 x3 post_3 := cj_q_m_store_7_3 h_post h1 h2
set_option maxRecDepth 40000 in
theorem cj_q_m_store_8_3 {a_sights : Nat → Int32} {a_told : Nat → Int32} {x2 : Int32} {x3 : Int32} {x4 : Int32} {post_1 post_2 post_3 : (Nat → Int32) → Prop} (h_post : ∀ x0, post_1 x0 → post_2 x0 → post_3 x0) (h1 : q_m_store_8_3 a_sights a_told x2 x3 x4 post_1) (h2 : q_m_store_8_3 a_sights a_told x2 x3 x4 post_2) : q_m_store_8_3 a_sights a_told x2 x3 x4 post_3 := lfp_2 h1 h2 (fun A B C hsk1 _ _ hak1 hck1 => ⟨fun c2 => h_post _ (hak1.1 c2) (hck1.1 c2), fun c3 => ⟨(hak1.2 c3).1, fun v4 e5 => ⟨((hak1.2 c3).2 v4 e5).1, fun v6 e7 => fun v8 e9 => hsk1 _ _ ((((hak1.2 c3).2 v4 e5).2 v6 e7) v8 e9) ((((hck1.2 c3).2 v4 e5).2 v6 e7) v8 e9)⟩⟩⟩) (fun A B hqk1 _ _ hbk1 => ⟨fun c10 => (hbk1.1 c10), fun c11 => ⟨(hbk1.2 c11).1, fun v12 e13 => ⟨((hbk1.2 c11).2 v12 e13).1, fun v14 e15 => fun v16 e17 => hqk1 _ _ ((((hbk1.2 c11).2 v12 e13).2 v14 e15) v16 e17)⟩⟩⟩)
set_option maxRecDepth 40000 in
theorem cj_q_m_store_8_0 {a_sights : Nat → Int32} {a_told : Nat → Int32} {x2 : Int32} {x3 : Int32} {post_1 post_2 post_3 : (Nat → Int32) → Prop} (h_post : ∀ x0, post_1 x0 → post_2 x0 → post_3 x0) (h1 : q_m_store_8_0 a_sights a_told x2 x3 post_1) (h2 : q_m_store_8_0 a_sights a_told x2 x3 post_2) : q_m_store_8_0 a_sights a_told x2 x3 post_3 := cj_q_m_store_8_3 h_post h1 h2
set_option maxRecDepth 40000 in
theorem cj_q_m_store_9_3 {a_choirs : Nat → Int32} {a_told : Nat → Int32} {x2 : Int32} {x3 : Int32} {x4 : Int32} {post_1 post_2 post_3 : (Nat → Int32) → Prop} (h_post : ∀ x0, post_1 x0 → post_2 x0 → post_3 x0) (h1 : q_m_store_9_3 a_choirs a_told x2 x3 x4 post_1) (h2 : q_m_store_9_3 a_choirs a_told x2 x3 x4 post_2) : q_m_store_9_3 a_choirs a_told x2 x3 x4 post_3 := lfp_2 h1 h2 (fun A B C hsk1 _ _ hak1 hck1 => ⟨fun c2 => h_post _ (hak1.1 c2) (hck1.1 c2), fun c3 => ⟨(hak1.2 c3).1, fun v4 e5 => ⟨((hak1.2 c3).2 v4 e5).1, fun v6 e7 => fun v8 e9 => hsk1 _ _ ((((hak1.2 c3).2 v4 e5).2 v6 e7) v8 e9) ((((hck1.2 c3).2 v4 e5).2 v6 e7) v8 e9)⟩⟩⟩) (fun A B hqk1 _ _ hbk1 => ⟨fun c10 => (hbk1.1 c10), fun c11 => ⟨(hbk1.2 c11).1, fun v12 e13 => ⟨((hbk1.2 c11).2 v12 e13).1, fun v14 e15 => fun v16 e17 => hqk1 _ _ ((((hbk1.2 c11).2 v12 e13).2 v14 e15) v16 e17)⟩⟩⟩)
set_option maxRecDepth 40000 in
theorem cj_q_m_store_9_0 {a_choirs : Nat → Int32} {a_told : Nat → Int32} {x2 : Int32} {x3 : Int32} {post_1 post_2 post_3 : (Nat → Int32) → Prop} (h_post : ∀ x0, post_1 x0 → post_2 x0 → post_3 x0) (h1 : q_m_store_9_0 a_choirs a_told x2 x3 post_1) (h2 : q_m_store_9_0 a_choirs a_told x2 x3 post_2) : q_m_store_9_0 a_choirs a_told x2 x3 post_3 := cj_q_m_store_9_3 h_post h1 h2
set_option maxRecDepth 40000 in
theorem cj_q_m_storeAll_0 {a_lands : Nat → Int32} {a_evenings : Nat → Int32} {a_sights : Nat → Int32} {a_choirs : Nat → Int32} {a_told : Nat → Int32} {x1 : Int32} {x2 : Int32} {post_1 post_2 post_3 : (Nat → Int32) → (Nat → Int32) → (Nat → Int32) → (Nat → Int32) → Prop} (h_post : ∀ x0 x1 x2 x3, post_1 x0 x1 x2 x3 → post_2 x0 x1 x2 x3 → post_3 x0 x1 x2 x3) (h1 : q_m_storeAll_0 a_lands a_evenings a_sights a_choirs a_told x1 x2 post_1) (h2 : q_m_storeAll_0 a_lands a_evenings a_sights a_choirs a_told x1 x2 post_2) : q_m_storeAll_0 a_lands a_evenings a_sights a_choirs a_told x1 x2 post_3 := ⟨fun c1 => cj_q_m_store_9_0 (fun _ h2 h3 => h_post _ _ _ _ h2 h3) (h1.1 c1) (h2.1 c1), fun c4 => cj_q_m_store_6_0 (fun _ h5 h6 => h_post _ _ _ _ h5 h6) (h1.2.1 c4) (h2.2.1 c4), fun c7 => cj_q_m_store_7_0 (fun _ h8 h9 => h_post _ _ _ _ h8 h9) (h1.2.2.1 c7) (h2.2.2.1 c7), fun c10 => cj_q_m_store_8_0 (fun _ h11 h12 => h_post _ _ _ _ h11 h12) (h1.2.2.2 c10) (h2.2.2.2 c10)⟩
set_option maxRecDepth 40000 in
theorem cj_q_m_text_118 {f_code : Int32} {a_tape : Nat → Int32} {a_size : Nat → Int32} {a_fault : Nat → Int32} {a_faultPlace : Nat → Int32} {a_many : Nat → Int32} {a_lands : Nat → Int32} {a_evenings : Nat → Int32} {a_sights : Nat → Int32} {a_choirs : Nat → Int32} {f_reached : Int32} {f_length : Int32} {f_begins : Int32} {f_sort : Int32} {f_value : Int32} {f_word : Int64} {f_wrongAt : Int32} {f_laterFault : Int32} {f_laterPlace : Int32} {a_told : Nat → Int32} {a_read : Nat → Int32} {f_farHut : Int32} {f_farSinger : Int32} {f_good : Int32} {x1 : Int32} {x3 : Int32} {y0 : Int32} {y1 : Int32} {y2 : Int32} {post_1 post_2 post_3 : Int32 → (Int32) → (Nat → Int32) → (Nat → Int32) → (Nat → Int32) → (Nat → Int32) → (Nat → Int32) → (Nat → Int32) → (Nat → Int32) → (Nat → Int32) → (Int32) → (Int32) → (Int32) → (Int32) → (Int32) → (Int64) → (Int32) → (Int32) → (Int32) → (Nat → Int32) → (Nat → Int32) → (Int32) → (Int32) → (Int32) → Prop} (h_post : ∀ x0 x1 x2 x3 x4 x5 x6 x7 x8 x9 x10 x11 x12 x13 x14 x15 x16 x17 x18 x19 x20 x21 x22 x23, post_1 x0 x1 x2 x3 x4 x5 x6 x7 x8 x9 x10 x11 x12 x13 x14 x15 x16 x17 x18 x19 x20 x21 x22 x23 → post_2 x0 x1 x2 x3 x4 x5 x6 x7 x8 x9 x10 x11 x12 x13 x14 x15 x16 x17 x18 x19 x20 x21 x22 x23 → post_3 x0 x1 x2 x3 x4 x5 x6 x7 x8 x9 x10 x11 x12 x13 x14 x15 x16 x17 x18 x19 x20 x21 x22 x23) (h1 : q_m_text_118 f_code a_tape a_size a_fault a_faultPlace a_many a_lands a_evenings a_sights a_choirs f_reached f_length f_begins f_sort f_value f_word f_wrongAt f_laterFault f_laterPlace a_told a_read f_farHut f_farSinger f_good x1 x3 y0 y1 y2 post_1) (h2 : q_m_text_118 f_code a_tape a_size a_fault a_faultPlace a_many a_lands a_evenings a_sights a_choirs f_reached f_length f_begins f_sort f_value f_word f_wrongAt f_laterFault f_laterPlace a_told a_read f_farHut f_farSinger f_good x1 x3 y0 y1 y2 post_2) : q_m_text_118 f_code a_tape a_size a_fault a_faultPlace a_many a_lands a_evenings a_sights a_choirs f_reached f_length f_begins f_sort f_value f_word f_wrongAt f_laterFault f_laterPlace a_told a_read f_farHut f_farSinger f_good x1 x3 y0 y1 y2 post_3 := fun v1 e2 => ⟨(h1 v1 e2).1, fun v3 e4 => cj_q_m_storeAll_0 (fun _ _ _ _ h5 h6 => h_post _ _ _ _ _ _ _ _ _ _ _ _ _ _ _ _ _ _ _ _ _ _ _ _ h5 h6) ((h1 v1 e2).2 v3 e4) ((h2 v1 e2).2 v3 e4)⟩
set_option maxRecDepth 40000 in
theorem cj_q_m_text_100 {f_code : Int32} {a_tape : Nat → Int32} {a_size : Nat → Int32} {a_fault : Nat → Int32} {a_faultPlace : Nat → Int32} {a_many : Nat → Int32} {a_lands : Nat → Int32} {a_evenings : Nat → Int32} {a_sights : Nat → Int32} {a_choirs : Nat → Int32} {f_reached : Int32} {f_length : Int32} {f_begins : Int32} {f_sort : Int32} {f_value : Int32} {f_word : Int64} {f_wrongAt : Int32} {f_laterFault : Int32} {f_laterPlace : Int32} {a_told : Nat → Int32} {a_read : Nat → Int32} {f_farHut : Int32} {f_farSinger : Int32} {f_good : Int32} {x1 : Int32} {x2 : Int32} {y0 : Int32} {post_1 post_2 post_3 : Int32 → (Int32) → (Nat → Int32) → (Nat → Int32) → (Nat → Int32) → (Nat → Int32) → (Nat → Int32) → (Nat → Int32) → (Nat → Int32) → (Nat → Int32) → (Int32) → (Int32) → (Int32) → (Int32) → (Int32) → (Int64) → (Int32) → (Int32) → (Int32) → (Nat → Int32) → (Nat → Int32) → (Int32) → (Int32) → (Int32) → Prop} (h_post : ∀ x0 x1 x2 x3 x4 x5 x6 x7 x8 x9 x10 x11 x12 x13 x14 x15 x16 x17 x18 x19 x20 x21 x22 x23, post_1 x0 x1 x2 x3 x4 x5 x6 x7 x8 x9 x10 x11 x12 x13 x14 x15 x16 x17 x18 x19 x20 x21 x22 x23 → post_2 x0 x1 x2 x3 x4 x5 x6 x7 x8 x9 x10 x11 x12 x13 x14 x15 x16 x17 x18 x19 x20 x21 x22 x23 → post_3 x0 x1 x2 x3 x4 x5 x6 x7 x8 x9 x10 x11 x12 x13 x14 x15 x16 x17 x18 x19 x20 x21 x22 x23) (h1 : q_m_text_100 f_code a_tape a_size a_fault a_faultPlace a_many a_lands a_evenings a_sights a_choirs f_reached f_length f_begins f_sort f_value f_word f_wrongAt f_laterFault f_laterPlace a_told a_read f_farHut f_farSinger f_good x1 x2 y0 post_1) (h2 : q_m_text_100 f_code a_tape a_size a_fault a_faultPlace a_many a_lands a_evenings a_sights a_choirs f_reached f_length f_begins f_sort f_value f_word f_wrongAt f_laterFault f_laterPlace a_told a_read f_farHut f_farSinger f_good x1 x2 y0 post_2) : q_m_text_100 f_code a_tape a_size a_fault a_faultPlace a_many a_lands a_evenings a_sights a_choirs f_reached f_length f_begins f_sort f_value f_word f_wrongAt f_laterFault f_laterPlace a_told a_read f_farHut f_farSinger f_good x1 x2 y0 post_3 := ⟨h1.1, ⟨fun c1 => cj_q_m_text_118 h_post (h1.2.1 c1) (h2.2.1 c1), fun c2 => cj_q_m_text_118 h_post (h1.2.2 c2) (h2.2.2 c2)⟩⟩
set_option maxRecDepth 40000 in
theorem cj_q_m_text_75 {f_code : Int32} {a_tape : Nat → Int32} {a_size : Nat → Int32} {a_fault : Nat → Int32} {a_faultPlace : Nat → Int32} {a_many : Nat → Int32} {a_lands : Nat → Int32} {a_evenings : Nat → Int32} {a_sights : Nat → Int32} {a_choirs : Nat → Int32} {f_reached : Int32} {f_length : Int32} {f_begins : Int32} {f_sort : Int32} {f_value : Int32} {f_word : Int64} {f_wrongAt : Int32} {f_laterFault : Int32} {f_laterPlace : Int32} {a_told : Nat → Int32} {a_read : Nat → Int32} {f_farHut : Int32} {f_farSinger : Int32} {f_good : Int32} {x1 : Int32} {x2 : Int32} {post_1 post_2 post_3 : Int32 → (Int32) → (Nat → Int32) → (Nat → Int32) → (Nat → Int32) → (Nat → Int32) → (Nat → Int32) → (Nat → Int32) → (Nat → Int32) → (Nat → Int32) → (Int32) → (Int32) → (Int32) → (Int32) → (Int32) → (Int64) → (Int32) → (Int32) → (Int32) → (Nat → Int32) → (Nat → Int32) → (Int32) → (Int32) → (Int32) → Prop} (h_post : ∀ x0 x1 x2 x3 x4 x5 x6 x7 x8 x9 x10 x11 x12 x13 x14 x15 x16 x17 x18 x19 x20 x21 x22 x23, post_1 x0 x1 x2 x3 x4 x5 x6 x7 x8 x9 x10 x11 x12 x13 x14 x15 x16 x17 x18 x19 x20 x21 x22 x23 → post_2 x0 x1 x2 x3 x4 x5 x6 x7 x8 x9 x10 x11 x12 x13 x14 x15 x16 x17 x18 x19 x20 x21 x22 x23 → post_3 x0 x1 x2 x3 x4 x5 x6 x7 x8 x9 x10 x11 x12 x13 x14 x15 x16 x17 x18 x19 x20 x21 x22 x23) (h1 : q_m_text_75 f_code a_tape a_size a_fault a_faultPlace a_many a_lands a_evenings a_sights a_choirs f_reached f_length f_begins f_sort f_value f_word f_wrongAt f_laterFault f_laterPlace a_told a_read f_farHut f_farSinger f_good x1 x2 post_1) (h2 : q_m_text_75 f_code a_tape a_size a_fault a_faultPlace a_many a_lands a_evenings a_sights a_choirs f_reached f_length f_begins f_sort f_value f_word f_wrongAt f_laterFault f_laterPlace a_told a_read f_farHut f_farSinger f_good x1 x2 post_2) : q_m_text_75 f_code a_tape a_size a_fault a_faultPlace a_many a_lands a_evenings a_sights a_choirs f_reached f_length f_begins f_sort f_value f_word f_wrongAt f_laterFault f_laterPlace a_told a_read f_farHut f_farSinger f_good x1 x2 post_3 := cj_q_m_readText_0 (fun _ _ _ _ _ _ _ _ _ _ _ _ _ _ _ _ h1 h2 => ⟨fun c3 => ⟨fun c4 => cj_q_m_text_100 h_post ((h1.1 c3).1 c4) ((h2.1 c3).1 c4), fun c5 => ⟨((h1.1 c3).2 c5).1, cj_q_m_text_100 h_post ((h1.1 c3).2 c5).2 ((h2.1 c3).2 c5).2⟩⟩, fun c6 => h_post _ _ _ _ _ _ _ _ _ _ _ _ _ _ _ _ _ _ _ _ _ _ _ _ (h1.2 c6) (h2.2 c6)⟩) h1 h2
set_option maxRecDepth 40000 in
theorem cj_q_m_text_0 {f_code : Int32} {a_tape : Nat → Int32} {a_size : Nat → Int32} {a_fault : Nat → Int32} {a_faultPlace : Nat → Int32} {a_many : Nat → Int32} {a_lands : Nat → Int32} {a_evenings : Nat → Int32} {a_sights : Nat → Int32} {a_choirs : Nat → Int32} {f_reached : Int32} {f_length : Int32} {f_begins : Int32} {f_sort : Int32} {f_value : Int32} {f_word : Int64} {f_wrongAt : Int32} {f_laterFault : Int32} {f_laterPlace : Int32} {a_told : Nat → Int32} {a_read : Nat → Int32} {f_farHut : Int32} {f_farSinger : Int32} {f_good : Int32} {x1 : Int32} {x2 : Int32} {post_1 post_2 post_3 : Int32 → (Int32) → (Nat → Int32) → (Nat → Int32) → (Nat → Int32) → (Nat → Int32) → (Nat → Int32) → (Nat → Int32) → (Nat → Int32) → (Nat → Int32) → (Int32) → (Int32) → (Int32) → (Int32) → (Int32) → (Int64) → (Int32) → (Int32) → (Int32) → (Nat → Int32) → (Nat → Int32) → (Int32) → (Int32) → (Int32) → Prop} (h_post : ∀ x0 x1 x2 x3 x4 x5 x6 x7 x8 x9 x10 x11 x12 x13 x14 x15 x16 x17 x18 x19 x20 x21 x22 x23, post_1 x0 x1 x2 x3 x4 x5 x6 x7 x8 x9 x10 x11 x12 x13 x14 x15 x16 x17 x18 x19 x20 x21 x22 x23 → post_2 x0 x1 x2 x3 x4 x5 x6 x7 x8 x9 x10 x11 x12 x13 x14 x15 x16 x17 x18 x19 x20 x21 x22 x23 → post_3 x0 x1 x2 x3 x4 x5 x6 x7 x8 x9 x10 x11 x12 x13 x14 x15 x16 x17 x18 x19 x20 x21 x22 x23) (h1 : q_m_text_0 f_code a_tape a_size a_fault a_faultPlace a_many a_lands a_evenings a_sights a_choirs f_reached f_length f_begins f_sort f_value f_word f_wrongAt f_laterFault f_laterPlace a_told a_read f_farHut f_farSinger f_good x1 x2 post_1) (h2 : q_m_text_0 f_code a_tape a_size a_fault a_faultPlace a_many a_lands a_evenings a_sights a_choirs f_reached f_length f_begins f_sort f_value f_word f_wrongAt f_laterFault f_laterPlace a_told a_read f_farHut f_farSinger f_good x1 x2 post_2) : q_m_text_0 f_code a_tape a_size a_fault a_faultPlace a_many a_lands a_evenings a_sights a_choirs f_reached f_length f_begins f_sort f_value f_word f_wrongAt f_laterFault f_laterPlace a_told a_read f_farHut f_farSinger f_good x1 x2 post_3 := fun v1 e2 => fun v3 e4 => fun v5 e6 => fun v7 e8 => cj_q_m_in_0 (fun _ h9 h10 => ⟨fun c11 => h_post _ _ _ _ _ _ _ _ _ _ _ _ _ _ _ _ _ _ _ _ _ _ _ _ (h9.1 c11) (h10.1 c11), fun c12 => ⟨fun c13 => cj_q_m_is_0 (fun _ h14 h15 => ⟨fun c16 => cj_q_m_text_75 h_post (h14.1 c16) (h15.1 c16), fun c17 => h_post _ _ _ _ _ _ _ _ _ _ _ _ _ _ _ _ _ _ _ _ _ _ _ _ (h14.2 c17) (h15.2 c17)⟩) ((h9.2 c12).1 c13) ((h10.2 c12).1 c13), fun c18 => ⟨((h9.2 c12).2 c18).1, ⟨fun c19 => cj_q_m_text_75 h_post (((h9.2 c12).2 c18).2.1 c19) (((h10.2 c12).2 c18).2.1 c19), fun c20 => h_post _ _ _ _ _ _ _ _ _ _ _ _ _ _ _ _ _ _ _ _ _ _ _ _ (((h9.2 c12).2 c18).2.2 c20) (((h10.2 c12).2 c18).2.2 c20)⟩⟩⟩⟩) ((((h1 v1 e2) v3 e4) v5 e6) v7 e8) ((((h2 v1 e2) v3 e4) v5 e6) v7 e8)
set_option maxRecDepth 40000 in
theorem cj_q_m_copyRow_2_3 {a_size : Nat → Int32} {x1 : Int32} {x2 : Int32} {x3 : Int32} {x4 : Int32} {post_1 post_2 post_3 : (Nat → Int32) → Prop} (h_post : ∀ x0, post_1 x0 → post_2 x0 → post_3 x0) (h1 : q_m_copyRow_2_3 a_size x1 x2 x3 x4 post_1) (h2 : q_m_copyRow_2_3 a_size x1 x2 x3 x4 post_2) : q_m_copyRow_2_3 a_size x1 x2 x3 x4 post_3 := lfp_2 h1 h2 (fun A B C hsk1 _ _ hak1 hck1 => ⟨fun c2 => h_post _ (hak1.1 c2) (hck1.1 c2), fun c3 => ⟨(hak1.2 c3).1, fun v4 e5 => ⟨((hak1.2 c3).2 v4 e5).1, fun v6 e7 => fun v8 e9 => hsk1 _ _ ((((hak1.2 c3).2 v4 e5).2 v6 e7) v8 e9) ((((hck1.2 c3).2 v4 e5).2 v6 e7) v8 e9)⟩⟩⟩) (fun A B hqk1 _ _ hbk1 => ⟨fun c10 => (hbk1.1 c10), fun c11 => ⟨(hbk1.2 c11).1, fun v12 e13 => ⟨((hbk1.2 c11).2 v12 e13).1, fun v14 e15 => fun v16 e17 => hqk1 _ _ ((((hbk1.2 c11).2 v12 e13).2 v14 e15) v16 e17)⟩⟩⟩)
set_option maxRecDepth 40000 in
theorem cj_q_m_copyRow_2_0 {a_size : Nat → Int32} {x1 : Int32} {x2 : Int32} {x3 : Int32} {post_1 post_2 post_3 : (Nat → Int32) → Prop} (h_post : ∀ x0, post_1 x0 → post_2 x0 → post_3 x0) (h1 : q_m_copyRow_2_0 a_size x1 x2 x3 post_1) (h2 : q_m_copyRow_2_0 a_size x1 x2 x3 post_2) : q_m_copyRow_2_0 a_size x1 x2 x3 post_3 := cj_q_m_copyRow_2_3 h_post h1 h2
set_option maxRecDepth 40000 in
theorem cj_q_m_copyRow_3_3 {a_fault : Nat → Int32} {x1 : Int32} {x2 : Int32} {x3 : Int32} {x4 : Int32} {post_1 post_2 post_3 : (Nat → Int32) → Prop} (h_post : ∀ x0, post_1 x0 → post_2 x0 → post_3 x0) (h1 : q_m_copyRow_3_3 a_fault x1 x2 x3 x4 post_1) (h2 : q_m_copyRow_3_3 a_fault x1 x2 x3 x4 post_2) : q_m_copyRow_3_3 a_fault x1 x2 x3 x4 post_3 := lfp_2 h1 h2 (fun A B C hsk1 _ _ hak1 hck1 => ⟨fun c2 => h_post _ (hak1.1 c2) (hck1.1 c2), fun c3 => ⟨(hak1.2 c3).1, fun v4 e5 => ⟨((hak1.2 c3).2 v4 e5).1, fun v6 e7 => fun v8 e9 => hsk1 _ _ ((((hak1.2 c3).2 v4 e5).2 v6 e7) v8 e9) ((((hck1.2 c3).2 v4 e5).2 v6 e7) v8 e9)⟩⟩⟩) (fun A B hqk1 _ _ hbk1 => ⟨fun c10 => (hbk1.1 c10), fun c11 => ⟨(hbk1.2 c11).1, fun v12 e13 => ⟨((hbk1.2 c11).2 v12 e13).1, fun v14 e15 => fun v16 e17 => hqk1 _ _ ((((hbk1.2 c11).2 v12 e13).2 v14 e15) v16 e17)⟩⟩⟩)
set_option maxRecDepth 40000 in
theorem cj_q_m_copyRow_3_0 {a_fault : Nat → Int32} {x1 : Int32} {x2 : Int32} {x3 : Int32} {post_1 post_2 post_3 : (Nat → Int32) → Prop} (h_post : ∀ x0, post_1 x0 → post_2 x0 → post_3 x0) (h1 : q_m_copyRow_3_0 a_fault x1 x2 x3 post_1) (h2 : q_m_copyRow_3_0 a_fault x1 x2 x3 post_2) : q_m_copyRow_3_0 a_fault x1 x2 x3 post_3 := cj_q_m_copyRow_3_3 h_post h1 h2
set_option maxRecDepth 40000 in
theorem cj_q_m_copyRow_4_3 {a_faultPlace : Nat → Int32} {x1 : Int32} {x2 : Int32} {x3 : Int32} {x4 : Int32} {post_1 post_2 post_3 : (Nat → Int32) → Prop} (h_post : ∀ x0, post_1 x0 → post_2 x0 → post_3 x0) (h1 : q_m_copyRow_4_3 a_faultPlace x1 x2 x3 x4 post_1) (h2 : q_m_copyRow_4_3 a_faultPlace x1 x2 x3 x4 post_2) : q_m_copyRow_4_3 a_faultPlace x1 x2 x3 x4 post_3 := lfp_2 h1 h2 (fun A B C hsk1 _ _ hak1 hck1 => ⟨fun c2 => h_post _ (hak1.1 c2) (hck1.1 c2), fun c3 => ⟨(hak1.2 c3).1, fun v4 e5 => ⟨((hak1.2 c3).2 v4 e5).1, fun v6 e7 => fun v8 e9 => hsk1 _ _ ((((hak1.2 c3).2 v4 e5).2 v6 e7) v8 e9) ((((hck1.2 c3).2 v4 e5).2 v6 e7) v8 e9)⟩⟩⟩) (fun A B hqk1 _ _ hbk1 => ⟨fun c10 => (hbk1.1 c10), fun c11 => ⟨(hbk1.2 c11).1, fun v12 e13 => ⟨((hbk1.2 c11).2 v12 e13).1, fun v14 e15 => fun v16 e17 => hqk1 _ _ ((((hbk1.2 c11).2 v12 e13).2 v14 e15) v16 e17)⟩⟩⟩)
set_option maxRecDepth 40000 in
theorem cj_q_m_copyRow_4_0 {a_faultPlace : Nat → Int32} {x1 : Int32} {x2 : Int32} {x3 : Int32} {post_1 post_2 post_3 : (Nat → Int32) → Prop} (h_post : ∀ x0, post_1 x0 → post_2 x0 → post_3 x0) (h1 : q_m_copyRow_4_0 a_faultPlace x1 x2 x3 post_1) (h2 : q_m_copyRow_4_0 a_faultPlace x1 x2 x3 post_2) : q_m_copyRow_4_0 a_faultPlace x1 x2 x3 post_3 := cj_q_m_copyRow_4_3 h_post h1 h2
set_option maxRecDepth 40000 in
theorem cj_q_m_copyRow_5_3 {a_many : Nat → Int32} {x1 : Int32} {x2 : Int32} {x3 : Int32} {x4 : Int32} {post_1 post_2 post_3 : (Nat → Int32) → Prop} (h_post : ∀ x0, post_1 x0 → post_2 x0 → post_3 x0) (h1 : q_m_copyRow_5_3 a_many x1 x2 x3 x4 post_1) (h2 : q_m_copyRow_5_3 a_many x1 x2 x3 x4 post_2) : q_m_copyRow_5_3 a_many x1 x2 x3 x4 post_3 := lfp_2 h1 h2 (fun A B C hsk1 _ _ hak1 hck1 => ⟨fun c2 => h_post _ (hak1.1 c2) (hck1.1 c2), fun c3 => ⟨(hak1.2 c3).1, fun v4 e5 => ⟨((hak1.2 c3).2 v4 e5).1, fun v6 e7 => fun v8 e9 => hsk1 _ _ ((((hak1.2 c3).2 v4 e5).2 v6 e7) v8 e9) ((((hck1.2 c3).2 v4 e5).2 v6 e7) v8 e9)⟩⟩⟩) (fun A B hqk1 _ _ hbk1 => ⟨fun c10 => (hbk1.1 c10), fun c11 => ⟨(hbk1.2 c11).1, fun v12 e13 => ⟨((hbk1.2 c11).2 v12 e13).1, fun v14 e15 => fun v16 e17 => hqk1 _ _ ((((hbk1.2 c11).2 v12 e13).2 v14 e15) v16 e17)⟩⟩⟩)
set_option maxRecDepth 40000 in
theorem cj_q_m_copyRow_5_0 {a_many : Nat → Int32} {x1 : Int32} {x2 : Int32} {x3 : Int32} {post_1 post_2 post_3 : (Nat → Int32) → Prop} (h_post : ∀ x0, post_1 x0 → post_2 x0 → post_3 x0) (h1 : q_m_copyRow_5_0 a_many x1 x2 x3 post_1) (h2 : q_m_copyRow_5_0 a_many x1 x2 x3 post_2) : q_m_copyRow_5_0 a_many x1 x2 x3 post_3 := cj_q_m_copyRow_5_3 h_post h1 h2
set_option maxRecDepth 40000 in
theorem cj_q_m_copyRow_6_3 {a_lands : Nat → Int32} {x1 : Int32} {x2 : Int32} {x3 : Int32} {x4 : Int32} {post_1 post_2 post_3 : (Nat → Int32) → Prop} (h_post : ∀ x0, post_1 x0 → post_2 x0 → post_3 x0) (h1 : q_m_copyRow_6_3 a_lands x1 x2 x3 x4 post_1) (h2 : q_m_copyRow_6_3 a_lands x1 x2 x3 x4 post_2) : q_m_copyRow_6_3 a_lands x1 x2 x3 x4 post_3 := lfp_2 h1 h2 (fun A B C hsk1 _ _ hak1 hck1 => ⟨fun c2 => h_post _ (hak1.1 c2) (hck1.1 c2), fun c3 => ⟨(hak1.2 c3).1, fun v4 e5 => ⟨((hak1.2 c3).2 v4 e5).1, fun v6 e7 => fun v8 e9 => hsk1 _ _ ((((hak1.2 c3).2 v4 e5).2 v6 e7) v8 e9) ((((hck1.2 c3).2 v4 e5).2 v6 e7) v8 e9)⟩⟩⟩) (fun A B hqk1 _ _ hbk1 => ⟨fun c10 => (hbk1.1 c10), fun c11 => ⟨(hbk1.2 c11).1, fun v12 e13 => ⟨((hbk1.2 c11).2 v12 e13).1, fun v14 e15 => fun v16 e17 => hqk1 _ _ ((((hbk1.2 c11).2 v12 e13).2 v14 e15) v16 e17)⟩⟩⟩)
set_option maxRecDepth 40000 in
theorem cj_q_m_copyRow_6_0 {a_lands : Nat → Int32} {x1 : Int32} {x2 : Int32} {x3 : Int32} {post_1 post_2 post_3 : (Nat → Int32) → Prop} (h_post : ∀ x0, post_1 x0 → post_2 x0 → post_3 x0) (h1 : q_m_copyRow_6_0 a_lands x1 x2 x3 post_1) (h2 : q_m_copyRow_6_0 a_lands x1 x2 x3 post_2) : q_m_copyRow_6_0 a_lands x1 x2 x3 post_3 := cj_q_m_copyRow_6_3 h_post h1 h2
set_option maxRecDepth 40000 in
theorem cj_q_m_copyRow_7_3 {a_evenings : Nat → Int32} {x1 : Int32} {x2 : Int32} {x3 : Int32} {x4 : Int32} {post_1 post_2 post_3 : (Nat → Int32) → Prop} (h_post : ∀ x0, post_1 x0 → post_2 x0 → post_3 x0) (h1 : q_m_copyRow_7_3 a_evenings x1 x2 x3 x4 post_1) (h2 : q_m_copyRow_7_3 a_evenings x1 x2 x3 x4 post_2) : q_m_copyRow_7_3 a_evenings x1 x2 x3 x4 post_3 := lfp_2 h1 h2 (fun A B C hsk1 _ _ hak1 hck1 => ⟨fun c2 => h_post _ (hak1.1 c2) (hck1.1 c2), fun c3 => ⟨(hak1.2 c3).1, fun v4 e5 => ⟨((hak1.2 c3).2 v4 e5).1, fun v6 e7 => fun v8 e9 => hsk1 _ _ ((((hak1.2 c3).2 v4 e5).2 v6 e7) v8 e9) ((((hck1.2 c3).2 v4 e5).2 v6 e7) v8 e9)⟩⟩⟩) (fun A B hqk1 _ _ hbk1 => ⟨fun c10 => (hbk1.1 c10), fun c11 => ⟨(hbk1.2 c11).1, fun v12 e13 => ⟨((hbk1.2 c11).2 v12 e13).1, fun v14 e15 => fun v16 e17 => hqk1 _ _ ((((hbk1.2 c11).2 v12 e13).2 v14 e15) v16 e17)⟩⟩⟩)
set_option maxRecDepth 40000 in
theorem cj_q_m_copyRow_7_0 {a_evenings : Nat → Int32} {x1 : Int32} {x2 : Int32} {x3 : Int32} {post_1 post_2 post_3 : (Nat → Int32) → Prop} (h_post : ∀ x0, post_1 x0 → post_2 x0 → post_3 x0) (h1 : q_m_copyRow_7_0 a_evenings x1 x2 x3 post_1) (h2 : q_m_copyRow_7_0 a_evenings x1 x2 x3 post_2) : q_m_copyRow_7_0 a_evenings x1 x2 x3 post_3 := cj_q_m_copyRow_7_3 h_post h1 h2
set_option maxRecDepth 40000 in
theorem cj_q_m_copyRow_8_3 {a_sights : Nat → Int32} {x1 : Int32} {x2 : Int32} {x3 : Int32} {x4 : Int32} {post_1 post_2 post_3 : (Nat → Int32) → Prop} (h_post : ∀ x0, post_1 x0 → post_2 x0 → post_3 x0) (h1 : q_m_copyRow_8_3 a_sights x1 x2 x3 x4 post_1) (h2 : q_m_copyRow_8_3 a_sights x1 x2 x3 x4 post_2) : q_m_copyRow_8_3 a_sights x1 x2 x3 x4 post_3 := lfp_2 h1 h2 (fun A B C hsk1 _ _ hak1 hck1 => ⟨fun c2 => h_post _ (hak1.1 c2) (hck1.1 c2), fun c3 => ⟨(hak1.2 c3).1, fun v4 e5 => ⟨((hak1.2 c3).2 v4 e5).1, fun v6 e7 => fun v8 e9 => hsk1 _ _ ((((hak1.2 c3).2 v4 e5).2 v6 e7) v8 e9) ((((hck1.2 c3).2 v4 e5).2 v6 e7) v8 e9)⟩⟩⟩) (fun A B hqk1 _ _ hbk1 => ⟨fun c10 => (hbk1.1 c10), fun c11 => ⟨(hbk1.2 c11).1, fun v12 e13 => ⟨((hbk1.2 c11).2 v12 e13).1, fun v14 e15 => fun v16 e17 => hqk1 _ _ ((((hbk1.2 c11).2 v12 e13).2 v14 e15) v16 e17)⟩⟩⟩)
set_option maxRecDepth 40000 in
theorem cj_q_m_copyRow_8_0 {a_sights : Nat → Int32} {x1 : Int32} {x2 : Int32} {x3 : Int32} {post_1 post_2 post_3 : (Nat → Int32) → Prop} (h_post : ∀ x0, post_1 x0 → post_2 x0 → post_3 x0) (h1 : q_m_copyRow_8_0 a_sights x1 x2 x3 post_1) (h2 : q_m_copyRow_8_0 a_sights x1 x2 x3 post_2) : q_m_copyRow_8_0 a_sights x1 x2 x3 post_3 := cj_q_m_copyRow_8_3 h_post h1 h2
set_option maxRecDepth 40000 in
theorem cj_q_m_copyRow_9_3 {a_choirs : Nat → Int32} {x1 : Int32} {x2 : Int32} {x3 : Int32} {x4 : Int32} {post_1 post_2 post_3 : (Nat → Int32) → Prop} (h_post : ∀ x0, post_1 x0 → post_2 x0 → post_3 x0) (h1 : q_m_copyRow_9_3 a_choirs x1 x2 x3 x4 post_1) (h2 : q_m_copyRow_9_3 a_choirs x1 x2 x3 x4 post_2) : q_m_copyRow_9_3 a_choirs x1 x2 x3 x4 post_3 := lfp_2 h1 h2 (fun A B C hsk1 _ _ hak1 hck1 => ⟨fun c2 => h_post _ (hak1.1 c2) (hck1.1 c2), fun c3 => ⟨(hak1.2 c3).1, fun v4 e5 => ⟨((hak1.2 c3).2 v4 e5).1, fun v6 e7 => fun v8 e9 => hsk1 _ _ ((((hak1.2 c3).2 v4 e5).2 v6 e7) v8 e9) ((((hck1.2 c3).2 v4 e5).2 v6 e7) v8 e9)⟩⟩⟩) (fun A B hqk1 _ _ hbk1 => ⟨fun c10 => (hbk1.1 c10), fun c11 => ⟨(hbk1.2 c11).1, fun v12 e13 => ⟨((hbk1.2 c11).2 v12 e13).1, fun v14 e15 => fun v16 e17 => hqk1 _ _ ((((hbk1.2 c11).2 v12 e13).2 v14 e15) v16 e17)⟩⟩⟩)
set_option maxRecDepth 40000 in
theorem cj_q_m_copyRow_9_0 {a_choirs : Nat → Int32} {x1 : Int32} {x2 : Int32} {x3 : Int32} {post_1 post_2 post_3 : (Nat → Int32) → Prop} (h_post : ∀ x0, post_1 x0 → post_2 x0 → post_3 x0) (h1 : q_m_copyRow_9_0 a_choirs x1 x2 x3 post_1) (h2 : q_m_copyRow_9_0 a_choirs x1 x2 x3 post_2) : q_m_copyRow_9_0 a_choirs x1 x2 x3 post_3 := cj_q_m_copyRow_9_3 h_post h1 h2
set_option maxRecDepth 40000 in
theorem cj_q_m_copyAll_2 {a_tape : Nat → Int32} {a_size : Nat → Int32} {a_fault : Nat → Int32} {a_faultPlace : Nat → Int32} {a_many : Nat → Int32} {a_lands : Nat → Int32} {a_evenings : Nat → Int32} {a_sights : Nat → Int32} {a_choirs : Nat → Int32} {x1 : Int32} {x2 : Int32} {x3 : Int32} {post_1 post_2 post_3 : (Nat → Int32) → (Nat → Int32) → (Nat → Int32) → (Nat → Int32) → (Nat → Int32) → (Nat → Int32) → (Nat → Int32) → (Nat → Int32) → (Nat → Int32) → Prop} (h_post : ∀ x0 x1 x2 x3 x4 x5 x6 x7 x8, post_1 x0 x1 x2 x3 x4 x5 x6 x7 x8 → post_2 x0 x1 x2 x3 x4 x5 x6 x7 x8 → post_3 x0 x1 x2 x3 x4 x5 x6 x7 x8) (h1 : q_m_copyAll_2 a_tape a_size a_fault a_faultPlace a_many a_lands a_evenings a_sights a_choirs x1 x2 x3 post_1) (h2 : q_m_copyAll_2 a_tape a_size a_fault a_faultPlace a_many a_lands a_evenings a_sights a_choirs x1 x2 x3 post_2) : q_m_copyAll_2 a_tape a_size a_fault a_faultPlace a_many a_lands a_evenings a_sights a_choirs x1 x2 x3 post_3 := lfp_2 h1 h2 (fun A B C hsk1 _ _ hak1 hck1 => ⟨fun c2 => cj_q_m_copyRow_2_0 (fun _ h3 h4 => cj_q_m_copyRow_3_0 (fun _ h5 h6 => cj_q_m_copyRow_4_0 (fun _ h7 h8 => cj_q_m_copyRow_5_0 (fun _ h9 h10 => cj_q_m_copyRow_6_0 (fun _ h11 h12 => cj_q_m_copyRow_7_0 (fun _ h13 h14 => cj_q_m_copyRow_8_0 (fun _ h15 h16 => cj_q_m_copyRow_9_0 (fun _ h17 h18 => h_post _ _ _ _ _ _ _ _ _ h17 h18) h15 h16) h13 h14) h11 h12) h9 h10) h7 h8) h5 h6) h3 h4) (hak1.1 c2) (hck1.1 c2), fun c19 => ⟨(hak1.2 c19).1, fun v20 e21 => ⟨((hak1.2 c19).2 v20 e21).1, fun v22 e23 => fun v24 e25 => hsk1 _ _ ((((hak1.2 c19).2 v20 e21).2 v22 e23) v24 e25) ((((hck1.2 c19).2 v20 e21).2 v22 e23) v24 e25)⟩⟩⟩) (fun A B hqk1 _ _ hbk1 => ⟨fun c26 => cj_q_m_copyRow_2_0 (fun _ h27 h28 => cj_q_m_copyRow_3_0 (fun _ h29 h30 => cj_q_m_copyRow_4_0 (fun _ h31 h32 => cj_q_m_copyRow_5_0 (fun _ h33 h34 => cj_q_m_copyRow_6_0 (fun _ h35 h36 => cj_q_m_copyRow_7_0 (fun _ h37 h38 => cj_q_m_copyRow_8_0 (fun _ h39 h40 => cj_q_m_copyRow_9_0 (fun _ h41 h42 => h41) h39 h40) h37 h38) h35 h36) h33 h34) h31 h32) h29 h30) h27 h28) (hbk1.1 c26) (hbk1.1 c26), fun c43 => ⟨(hbk1.2 c43).1, fun v44 e45 => ⟨((hbk1.2 c43).2 v44 e45).1, fun v46 e47 => fun v48 e49 => hqk1 _ _ ((((hbk1.2 c43).2 v44 e45).2 v46 e47) v48 e49)⟩⟩⟩)
set_option maxRecDepth 40000 in
theorem cj_q_m_copyAll_0 {a_tape : Nat → Int32} {a_size : Nat → Int32} {a_fault : Nat → Int32} {a_faultPlace : Nat → Int32} {a_many : Nat → Int32} {a_lands : Nat → Int32} {a_evenings : Nat → Int32} {a_sights : Nat → Int32} {a_choirs : Nat → Int32} {x1 : Int32} {x2 : Int32} {post_1 post_2 post_3 : (Nat → Int32) → (Nat → Int32) → (Nat → Int32) → (Nat → Int32) → (Nat → Int32) → (Nat → Int32) → (Nat → Int32) → (Nat → Int32) → (Nat → Int32) → Prop} (h_post : ∀ x0 x1 x2 x3 x4 x5 x6 x7 x8, post_1 x0 x1 x2 x3 x4 x5 x6 x7 x8 → post_2 x0 x1 x2 x3 x4 x5 x6 x7 x8 → post_3 x0 x1 x2 x3 x4 x5 x6 x7 x8) (h1 : q_m_copyAll_0 a_tape a_size a_fault a_faultPlace a_many a_lands a_evenings a_sights a_choirs x1 x2 post_1) (h2 : q_m_copyAll_0 a_tape a_size a_fault a_faultPlace a_many a_lands a_evenings a_sights a_choirs x1 x2 post_2) : q_m_copyAll_0 a_tape a_size a_fault a_faultPlace a_many a_lands a_evenings a_sights a_choirs x1 x2 post_3 := cj_q_m_copyAll_2 h_post h1 h2
set_option maxRecDepth 40000 in
theorem cj_q_m_image_0 {f_code : Int32} {a_tape : Nat → Int32} {a_size : Nat → Int32} {a_fault : Nat → Int32} {a_faultPlace : Nat → Int32} {a_many : Nat → Int32} {a_lands : Nat → Int32} {a_evenings : Nat → Int32} {a_sights : Nat → Int32} {a_choirs : Nat → Int32} {a_kept : Nat → Int32} {x1 : Int32} {post_1 post_2 post_3 : Int32 → (Int32) → (Nat → Int32) → (Nat → Int32) → (Nat → Int32) → (Nat → Int32) → (Nat → Int32) → (Nat → Int32) → (Nat → Int32) → (Nat → Int32) → (Nat → Int32) → (Nat → Int32) → Prop} (h_post : ∀ x0 x1 x2 x3 x4 x5 x6 x7 x8 x9 x10 x11, post_1 x0 x1 x2 x3 x4 x5 x6 x7 x8 x9 x10 x11 → post_2 x0 x1 x2 x3 x4 x5 x6 x7 x8 x9 x10 x11 → post_3 x0 x1 x2 x3 x4 x5 x6 x7 x8 x9 x10 x11) (h1 : q_m_image_0 f_code a_tape a_size a_fault a_faultPlace a_many a_lands a_evenings a_sights a_choirs a_kept x1 post_1) (h2 : q_m_image_0 f_code a_tape a_size a_fault a_faultPlace a_many a_lands a_evenings a_sights a_choirs a_kept x1 post_2) : q_m_image_0 f_code a_tape a_size a_fault a_faultPlace a_many a_lands a_evenings a_sights a_choirs a_kept x1 post_3 := cj_q_m_in_0 (fun _ h1 h2 => ⟨fun c3 => cj_q_m_copyAll_0 (fun _ _ _ _ _ _ _ _ _ h4 h5 => ⟨h4.1, fun v6 e7 => h_post _ _ _ _ _ _ _ _ _ _ _ _ (h4.2 v6 e7) (h5.2 v6 e7)⟩) (h1.1 c3) (h2.1 c3), fun c8 => h_post _ _ _ _ _ _ _ _ _ _ _ _ (h1.2 c8) (h2.2 c8)⟩) h1 h2
set_option maxRecDepth 40000 in
theorem cj_q_m_again_0 {f_code : Int32} {a_tape : Nat → Int32} {a_size : Nat → Int32} {a_fault : Nat → Int32} {a_faultPlace : Nat → Int32} {a_many : Nat → Int32} {a_lands : Nat → Int32} {a_evenings : Nat → Int32} {a_sights : Nat → Int32} {a_choirs : Nat → Int32} {a_kept : Nat → Int32} {x1 : Int32} {post_1 post_2 post_3 : Int32 → (Int32) → (Nat → Int32) → (Nat → Int32) → (Nat → Int32) → (Nat → Int32) → (Nat → Int32) → (Nat → Int32) → (Nat → Int32) → (Nat → Int32) → (Nat → Int32) → Prop} (h_post : ∀ x0 x1 x2 x3 x4 x5 x6 x7 x8 x9 x10, post_1 x0 x1 x2 x3 x4 x5 x6 x7 x8 x9 x10 → post_2 x0 x1 x2 x3 x4 x5 x6 x7 x8 x9 x10 → post_3 x0 x1 x2 x3 x4 x5 x6 x7 x8 x9 x10) (h1 : q_m_again_0 f_code a_tape a_size a_fault a_faultPlace a_many a_lands a_evenings a_sights a_choirs a_kept x1 post_1) (h2 : q_m_again_0 f_code a_tape a_size a_fault a_faultPlace a_many a_lands a_evenings a_sights a_choirs a_kept x1 post_2) : q_m_again_0 f_code a_tape a_size a_fault a_faultPlace a_many a_lands a_evenings a_sights a_choirs a_kept x1 post_3 := cj_q_m_in_0 (fun _ h1 h2 => ⟨fun c3 => h_post _ _ _ _ _ _ _ _ _ _ _ (h1.1 c3) (h2.1 c3), fun c4 => ⟨(h1.2 c4).1, ⟨fun c5 => cj_q_m_copyAll_0 (fun _ _ _ _ _ _ _ _ _ h6 h7 => h_post _ _ _ _ _ _ _ _ _ _ _ h6 h7) ((h1.2 c4).2.1 c5) ((h2.2 c4).2.1 c5), fun c8 => h_post _ _ _ _ _ _ _ _ _ _ _ ((h1.2 c4).2.2 c8) ((h2.2 c4).2.2 c8)⟩⟩⟩) h1 h2
set_option maxRecDepth 40000 in
theorem cj_q_wtt_X9_copyFrom_47_57 {a_tape : Nat → Int32} {f_length : Int32} {f_fault : Int32} {f_place : Int32} {a_counts : Nat → Int32} {l0f_huts : Int32} {l0f_singers : Int32} {l0f_villages : Int32} {l0f_dams : Int32} {l0f_echoes : Int32} {l0f_deep : Int32} {l0f_slide : Int32} {l0a_heights : Nat → Int32} {l0a_ladders : Nat → Int32} {l0a_minutes : Nat → Int32} {l0a_echoFrom : Nat → Int32} {l0a_echoTo : Nat → Int32} {l0a_homes : Nat → Int32} {l0a_talls : Nat → Int32} {l0a_known : Nat → Int32} {l1f_huts : Int32} {l1f_singers : Int32} {l1f_villages : Int32} {l1f_dams : Int32} {l1f_echoes : Int32} {l1f_deep : Int32} {l1f_slide : Int32} {l1a_heights : Nat → Int32} {l1a_ladders : Nat → Int32} {l1a_minutes : Nat → Int32} {l1a_echoFrom : Nat → Int32} {l1a_echoTo : Nat → Int32} {l1a_homes : Nat → Int32} {l1a_talls : Nat → Int32} {l1a_known : Nat → Int32} {v0f_deeds : Int32} {v0a_kinds : Nat → Int32} {v0a_firsts : Nat → Int32} {v0a_seconds : Nat → Int32} {v1f_deeds : Int32} {v1a_kinds : Nat → Int32} {v1a_firsts : Nat → Int32} {v1a_seconds : Nat → Int32} {s0f_facts : Int32} {s0a_heard : Nat → Int32} {s0a_huts : Nat → Int32} {s0a_minutes : Nat → Int32} {s1f_facts : Int32} {s1a_heard : Nat → Int32} {s1a_huts : Nat → Int32} {s1a_minutes : Nat → Int32} {c0f_voices : Int32} {c0f_step : Int32} {c0a_parts : Nat → Int32} {c0a_heights : Nat → Int32} {c1f_voices : Int32} {c1f_step : Int32} {c1a_parts : Nat → Int32} {c1a_heights : Nat → Int32} {oa_tape : Nat → Int32} {of_length : Int32} {of_fault : Int32} {of_place : Int32} {oa_counts : Nat → Int32} {ol0f_huts : Int32} {ol0f_singers : Int32} {ol0f_villages : Int32} {ol0f_dams : Int32} {ol0f_echoes : Int32} {ol0f_deep : Int32} {ol0f_slide : Int32} {ol0a_heights : Nat → Int32} {ol0a_ladders : Nat → Int32} {ol0a_minutes : Nat → Int32} {ol0a_echoFrom : Nat → Int32} {ol0a_echoTo : Nat → Int32} {ol0a_homes : Nat → Int32} {ol0a_talls : Nat → Int32} {ol0a_known : Nat → Int32} {ol1f_huts : Int32} {ol1f_singers : Int32} {ol1f_villages : Int32} {ol1f_dams : Int32} {ol1f_echoes : Int32} {ol1f_deep : Int32} {ol1f_slide : Int32} {ol1a_heights : Nat → Int32} {ol1a_ladders : Nat → Int32} {ol1a_minutes : Nat → Int32} {ol1a_echoFrom : Nat → Int32} {ol1a_echoTo : Nat → Int32} {ol1a_homes : Nat → Int32} {ol1a_talls : Nat → Int32} {ol1a_known : Nat → Int32} {ov0f_deeds : Int32} {ov0a_kinds : Nat → Int32} {ov0a_firsts : Nat → Int32} {ov0a_seconds : Nat → Int32} {ov1f_deeds : Int32} {ov1a_kinds : Nat → Int32} {ov1a_firsts : Nat → Int32} {ov1a_seconds : Nat → Int32} {os0f_facts : Int32} {os0a_heard : Nat → Int32} {os0a_huts : Nat → Int32} {os0a_minutes : Nat → Int32} {os1f_facts : Int32} {os1a_heard : Nat → Int32} {os1a_huts : Nat → Int32} {os1a_minutes : Nat → Int32} {oc0f_voices : Int32} {oc0f_step : Int32} {oc0a_parts : Nat → Int32} {oc0a_heights : Nat → Int32} {oc1f_voices : Int32} {oc1f_step : Int32} {oc1a_parts : Nat → Int32} {oc1a_heights : Nat → Int32} {x2 : Int32} {post_1 post_2 post_3 : (Nat → Int32) → (Int32) → (Int32) → (Int32) → (Nat → Int32) → (Int32) → (Int32) → (Int32) → (Int32) → (Int32) → (Int32) → (Int32) → (Nat → Int32) → (Nat → Int32) → (Nat → Int32) → (Nat → Int32) → (Nat → Int32) → (Nat → Int32) → (Nat → Int32) → (Nat → Int32) → (Int32) → (Int32) → (Int32) → (Int32) → (Int32) → (Int32) → (Int32) → (Nat → Int32) → (Nat → Int32) → (Nat → Int32) → (Nat → Int32) → (Nat → Int32) → (Nat → Int32) → (Nat → Int32) → (Nat → Int32) → (Int32) → (Nat → Int32) → (Nat → Int32) → (Nat → Int32) → (Int32) → (Nat → Int32) → (Nat → Int32) → (Nat → Int32) → (Int32) → (Nat → Int32) → (Nat → Int32) → (Nat → Int32) → (Int32) → (Nat → Int32) → (Nat → Int32) → (Nat → Int32) → (Int32) → (Int32) → (Nat → Int32) → (Nat → Int32) → (Int32) → (Int32) → (Nat → Int32) → (Nat → Int32) → Prop} (h_post : ∀ x0 x1 x2 x3 x4 x5 x6 x7 x8 x9 x10 x11 x12 x13 x14 x15 x16 x17 x18 x19 x20 x21 x22 x23 x24 x25 x26 x27 x28 x29 x30 x31 x32 x33 x34 x35 x36 x37 x38 x39 x40 x41 x42 x43 x44 x45 x46 x47 x48 x49 x50 x51 x52 x53 x54 x55 x56 x57 x58, post_1 x0 x1 x2 x3 x4 x5 x6 x7 x8 x9 x10 x11 x12 x13 x14 x15 x16 x17 x18 x19 x20 x21 x22 x23 x24 x25 x26 x27 x28 x29 x30 x31 x32 x33 x34 x35 x36 x37 x38 x39 x40 x41 x42 x43 x44 x45 x46 x47 x48 x49 x50 x51 x52 x53 x54 x55 x56 x57 x58 → post_2 x0 x1 x2 x3 x4 x5 x6 x7 x8 x9 x10 x11 x12 x13 x14 x15 x16 x17 x18 x19 x20 x21 x22 x23 x24 x25 x26 x27 x28 x29 x30 x31 x32 x33 x34 x35 x36 x37 x38 x39 x40 x41 x42 x43 x44 x45 x46 x47 x48 x49 x50 x51 x52 x53 x54 x55 x56 x57 x58 → post_3 x0 x1 x2 x3 x4 x5 x6 x7 x8 x9 x10 x11 x12 x13 x14 x15 x16 x17 x18 x19 x20 x21 x22 x23 x24 x25 x26 x27 x28 x29 x30 x31 x32 x33 x34 x35 x36 x37 x38 x39 x40 x41 x42 x43 x44 x45 x46 x47 x48 x49 x50 x51 x52 x53 x54 x55 x56 x57 x58) (h1 : q_wtt_X9_copyFrom_47_57 a_tape f_length f_fault f_place a_counts l0f_huts l0f_singers l0f_villages l0f_dams l0f_echoes l0f_deep l0f_slide l0a_heights l0a_ladders l0a_minutes l0a_echoFrom l0a_echoTo l0a_homes l0a_talls l0a_known l1f_huts l1f_singers l1f_villages l1f_dams l1f_echoes l1f_deep l1f_slide l1a_heights l1a_ladders l1a_minutes l1a_echoFrom l1a_echoTo l1a_homes l1a_talls l1a_known v0f_deeds v0a_kinds v0a_firsts v0a_seconds v1f_deeds v1a_kinds v1a_firsts v1a_seconds s0f_facts s0a_heard s0a_huts s0a_minutes s1f_facts s1a_heard s1a_huts s1a_minutes c0f_voices c0f_step c0a_parts c0a_heights c1f_voices c1f_step c1a_parts c1a_heights oa_tape of_length of_fault of_place oa_counts ol0f_huts ol0f_singers ol0f_villages ol0f_dams ol0f_echoes ol0f_deep ol0f_slide ol0a_heights ol0a_ladders ol0a_minutes ol0a_echoFrom ol0a_echoTo ol0a_homes ol0a_talls ol0a_known ol1f_huts ol1f_singers ol1f_villages ol1f_dams ol1f_echoes ol1f_deep ol1f_slide ol1a_heights ol1a_ladders ol1a_minutes ol1a_echoFrom ol1a_echoTo ol1a_homes ol1a_talls ol1a_known ov0f_deeds ov0a_kinds ov0a_firsts ov0a_seconds ov1f_deeds ov1a_kinds ov1a_firsts ov1a_seconds os0f_facts os0a_heard os0a_huts os0a_minutes os1f_facts os1a_heard os1a_huts os1a_minutes oc0f_voices oc0f_step oc0a_parts oc0a_heights oc1f_voices oc1f_step oc1a_parts oc1a_heights x2 post_1) (h2 : q_wtt_X9_copyFrom_47_57 a_tape f_length f_fault f_place a_counts l0f_huts l0f_singers l0f_villages l0f_dams l0f_echoes l0f_deep l0f_slide l0a_heights l0a_ladders l0a_minutes l0a_echoFrom l0a_echoTo l0a_homes l0a_talls l0a_known l1f_huts l1f_singers l1f_villages l1f_dams l1f_echoes l1f_deep l1f_slide l1a_heights l1a_ladders l1a_minutes l1a_echoFrom l1a_echoTo l1a_homes l1a_talls l1a_known v0f_deeds v0a_kinds v0a_firsts v0a_seconds v1f_deeds v1a_kinds v1a_firsts v1a_seconds s0f_facts s0a_heard s0a_huts s0a_minutes s1f_facts s1a_heard s1a_huts s1a_minutes c0f_voices c0f_step c0a_parts c0a_heights c1f_voices c1f_step c1a_parts c1a_heights oa_tape of_length of_fault of_place oa_counts ol0f_huts ol0f_singers ol0f_villages ol0f_dams ol0f_echoes ol0f_deep ol0f_slide ol0a_heights ol0a_ladders ol0a_minutes ol0a_echoFrom ol0a_echoTo ol0a_homes ol0a_talls ol0a_known ol1f_huts ol1f_singers ol1f_villages ol1f_dams ol1f_echoes ol1f_deep ol1f_slide ol1a_heights ol1a_ladders ol1a_minutes ol1a_echoFrom ol1a_echoTo ol1a_homes ol1a_talls ol1a_known ov0f_deeds ov0a_kinds ov0a_firsts ov0a_seconds ov1f_deeds ov1a_kinds ov1a_firsts ov1a_seconds os0f_facts os0a_heard os0a_huts os0a_minutes os1f_facts os1a_heard os1a_huts os1a_minutes oc0f_voices oc0f_step oc0a_parts oc0a_heights oc1f_voices oc1f_step oc1a_parts oc1a_heights x2 post_2) : q_wtt_X9_copyFrom_47_57 a_tape f_length f_fault f_place a_counts l0f_huts l0f_singers l0f_villages l0f_dams l0f_echoes l0f_deep l0f_slide l0a_heights l0a_ladders l0a_minutes l0a_echoFrom l0a_echoTo l0a_homes l0a_talls l0a_known l1f_huts l1f_singers l1f_villages l1f_dams l1f_echoes l1f_deep l1f_slide l1a_heights l1a_ladders l1a_minutes l1a_echoFrom l1a_echoTo l1a_homes l1a_talls l1a_known v0f_deeds v0a_kinds v0a_firsts v0a_seconds v1f_deeds v1a_kinds v1a_firsts v1a_seconds s0f_facts s0a_heard s0a_huts s0a_minutes s1f_facts s1a_heard s1a_huts s1a_minutes c0f_voices c0f_step c0a_parts c0a_heights c1f_voices c1f_step c1a_parts c1a_heights oa_tape of_length of_fault of_place oa_counts ol0f_huts ol0f_singers ol0f_villages ol0f_dams ol0f_echoes ol0f_deep ol0f_slide ol0a_heights ol0a_ladders ol0a_minutes ol0a_echoFrom ol0a_echoTo ol0a_homes ol0a_talls ol0a_known ol1f_huts ol1f_singers ol1f_villages ol1f_dams ol1f_echoes ol1f_deep ol1f_slide ol1a_heights ol1a_ladders ol1a_minutes ol1a_echoFrom ol1a_echoTo ol1a_homes ol1a_talls ol1a_known ov0f_deeds ov0a_kinds ov0a_firsts ov0a_seconds ov1f_deeds ov1a_kinds ov1a_firsts ov1a_seconds os0f_facts os0a_heard os0a_huts os0a_minutes os1f_facts os1a_heard os1a_huts os1a_minutes oc0f_voices oc0f_step oc0a_parts oc0a_heights oc1f_voices oc1f_step oc1a_parts oc1a_heights x2 post_3 := lfp_55 h1 h2 (fun A B C hsk1 _ _ _ _ _ _ _ _ _ _ _ _ _ _ _ _ _ _ _ _ _ _ _ _ _ _ _ _ _ _ _ _ _ _ _ _ _ _ _ _ _ _ _ _ _ _ _ _ _ _ _ _ _ _ _ hak1 hck1 => ⟨fun c2 => h_post _ _ _ _ _ _ _ _ _ _ _ _ _ _ _ _ _ _ _ _ _ _ _ _ _ _ _ _ _ _ _ _ _ _ _ _ _ _ _ _ _ _ _ _ _ _ _ _ _ _ _ _ _ _ _ _ _ _ _ (hak1.1 c2) (hck1.1 c2), fun c3 => ⟨(hak1.2 c3).1, fun c4 => cj_q_wll_X2_copyFrom_9_0 (fun _ _ _ _ _ _ _ _ _ _ _ _ _ _ _ h5 h6 => cj_q_wvv_X1_copyFrom_4_0 (fun _ _ _ _ h7 h8 => cj_q_wss_X6_copyFrom_4_0 (fun _ _ _ _ h9 h10 => cj_q_wcc_X0_copyFrom_3_0 (fun _ _ _ _ h11 h12 => fun v13 e14 => hsk1 _ _ _ _ _ _ _ _ _ _ _ _ _ _ _ _ _ _ _ _ _ _ _ _ _ _ _ _ _ _ _ _ _ _ _ _ _ _ _ _ _ _ _ _ _ _ _ _ _ _ _ _ _ _ _ (h11 v13 e14) (h12 v13 e14)) h9 h10) h7 h8) h5 h6) ((hak1.2 c3).2.1 c4) ((hck1.2 c3).2.1 c4), fun c15 => cj_q_wll_X2_copyFrom_9_0 (fun _ _ _ _ _ _ _ _ _ _ _ _ _ _ _ h16 h17 => cj_q_wvv_X1_copyFrom_4_0 (fun _ _ _ _ h18 h19 => cj_q_wss_X6_copyFrom_4_0 (fun _ _ _ _ h20 h21 => cj_q_wcc_X0_copyFrom_3_0 (fun _ _ _ _ h22 h23 => fun v24 e25 => hsk1 _ _ _ _ _ _ _ _ _ _ _ _ _ _ _ _ _ _ _ _ _ _ _ _ _ _ _ _ _ _ _ _ _ _ _ _ _ _ _ _ _ _ _ _ _ _ _ _ _ _ _ _ _ _ _ (h22 v24 e25) (h23 v24 e25)) h20 h21) h18 h19) h16 h17) ((hak1.2 c3).2.2 c15) ((hck1.2 c3).2.2 c15)⟩⟩) (fun A B hqk1 _ _ _ _ _ _ _ _ _ _ _ _ _ _ _ _ _ _ _ _ _ _ _ _ _ _ _ _ _ _ _ _ _ _ _ _ _ _ _ _ _ _ _ _ _ _ _ _ _ _ _ _ _ _ _ hbk1 => ⟨fun c26 => (hbk1.1 c26), fun c27 => ⟨(hbk1.2 c27).1, fun c28 => cj_q_wll_X2_copyFrom_9_0 (fun _ _ _ _ _ _ _ _ _ _ _ _ _ _ _ h29 h30 => cj_q_wvv_X1_copyFrom_4_0 (fun _ _ _ _ h31 h32 => cj_q_wss_X6_copyFrom_4_0 (fun _ _ _ _ h33 h34 => cj_q_wcc_X0_copyFrom_3_0 (fun _ _ _ _ h35 h36 => fun v37 e38 => hqk1 _ _ _ _ _ _ _ _ _ _ _ _ _ _ _ _ _ _ _ _ _ _ _ _ _ _ _ _ _ _ _ _ _ _ _ _ _ _ _ _ _ _ _ _ _ _ _ _ _ _ _ _ _ _ _ (h35 v37 e38)) h33 h34) h31 h32) h29 h30) ((hbk1.2 c27).2.1 c28) ((hbk1.2 c27).2.1 c28), fun c39 => cj_q_wll_X2_copyFrom_9_0 (fun _ _ _ _ _ _ _ _ _ _ _ _ _ _ _ h40 h41 => cj_q_wvv_X1_copyFrom_4_0 (fun _ _ _ _ h42 h43 => cj_q_wss_X6_copyFrom_4_0 (fun _ _ _ _ h44 h45 => cj_q_wcc_X0_copyFrom_3_0 (fun _ _ _ _ h46 h47 => fun v48 e49 => hqk1 _ _ _ _ _ _ _ _ _ _ _ _ _ _ _ _ _ _ _ _ _ _ _ _ _ _ _ _ _ _ _ _ _ _ _ _ _ _ _ _ _ _ _ _ _ _ _ _ _ _ _ _ _ _ _ (h46 v48 e49)) h44 h45) h42 h43) h40 h41) ((hbk1.2 c27).2.2 c39) ((hbk1.2 c27).2.2 c39)⟩⟩)
set_option maxRecDepth 40000 in
theorem cj_q_wtt_X9_copyFrom_47_0 {a_tape : Nat → Int32} {f_length : Int32} {f_fault : Int32} {f_place : Int32} {a_counts : Nat → Int32} {l0f_huts : Int32} {l0f_singers : Int32} {l0f_villages : Int32} {l0f_dams : Int32} {l0f_echoes : Int32} {l0f_deep : Int32} {l0f_slide : Int32} {l0a_heights : Nat → Int32} {l0a_ladders : Nat → Int32} {l0a_minutes : Nat → Int32} {l0a_echoFrom : Nat → Int32} {l0a_echoTo : Nat → Int32} {l0a_homes : Nat → Int32} {l0a_talls : Nat → Int32} {l0a_known : Nat → Int32} {l1f_huts : Int32} {l1f_singers : Int32} {l1f_villages : Int32} {l1f_dams : Int32} {l1f_echoes : Int32} {l1f_deep : Int32} {l1f_slide : Int32} {l1a_heights : Nat → Int32} {l1a_ladders : Nat → Int32} {l1a_minutes : Nat → Int32} {l1a_echoFrom : Nat → Int32} {l1a_echoTo : Nat → Int32} {l1a_homes : Nat → Int32} {l1a_talls : Nat → Int32} {l1a_known : Nat → Int32} {v0f_deeds : Int32} {v0a_kinds : Nat → Int32} {v0a_firsts : Nat → Int32} {v0a_seconds : Nat → Int32} {v1f_deeds : Int32} {v1a_kinds : Nat → Int32} {v1a_firsts : Nat → Int32} {v1a_seconds : Nat → Int32} {s0f_facts : Int32} {s0a_heard : Nat → Int32} {s0a_huts : Nat → Int32} {s0a_minutes : Nat → Int32} {s1f_facts : Int32} {s1a_heard : Nat → Int32} {s1a_huts : Nat → Int32} {s1a_minutes : Nat → Int32} {c0f_voices : Int32} {c0f_step : Int32} {c0a_parts : Nat → Int32} {c0a_heights : Nat → Int32} {c1f_voices : Int32} {c1f_step : Int32} {c1a_parts : Nat → Int32} {c1a_heights : Nat → Int32} {oa_tape : Nat → Int32} {of_length : Int32} {of_fault : Int32} {of_place : Int32} {oa_counts : Nat → Int32} {ol0f_huts : Int32} {ol0f_singers : Int32} {ol0f_villages : Int32} {ol0f_dams : Int32} {ol0f_echoes : Int32} {ol0f_deep : Int32} {ol0f_slide : Int32} {ol0a_heights : Nat → Int32} {ol0a_ladders : Nat → Int32} {ol0a_minutes : Nat → Int32} {ol0a_echoFrom : Nat → Int32} {ol0a_echoTo : Nat → Int32} {ol0a_homes : Nat → Int32} {ol0a_talls : Nat → Int32} {ol0a_known : Nat → Int32} {ol1f_huts : Int32} {ol1f_singers : Int32} {ol1f_villages : Int32} {ol1f_dams : Int32} {ol1f_echoes : Int32} {ol1f_deep : Int32} {ol1f_slide : Int32} {ol1a_heights : Nat → Int32} {ol1a_ladders : Nat → Int32} {ol1a_minutes : Nat → Int32} {ol1a_echoFrom : Nat → Int32} {ol1a_echoTo : Nat → Int32} {ol1a_homes : Nat → Int32} {ol1a_talls : Nat → Int32} {ol1a_known : Nat → Int32} {ov0f_deeds : Int32} {ov0a_kinds : Nat → Int32} {ov0a_firsts : Nat → Int32} {ov0a_seconds : Nat → Int32} {ov1f_deeds : Int32} {ov1a_kinds : Nat → Int32} {ov1a_firsts : Nat → Int32} {ov1a_seconds : Nat → Int32} {os0f_facts : Int32} {os0a_heard : Nat → Int32} {os0a_huts : Nat → Int32} {os0a_minutes : Nat → Int32} {os1f_facts : Int32} {os1a_heard : Nat → Int32} {os1a_huts : Nat → Int32} {os1a_minutes : Nat → Int32} {oc0f_voices : Int32} {oc0f_step : Int32} {oc0a_parts : Nat → Int32} {oc0a_heights : Nat → Int32} {oc1f_voices : Int32} {oc1f_step : Int32} {oc1a_parts : Nat → Int32} {oc1a_heights : Nat → Int32} {post_1 post_2 post_3 : (Nat → Int32) → (Int32) → (Int32) → (Int32) → (Nat → Int32) → (Int32) → (Int32) → (Int32) → (Int32) → (Int32) → (Int32) → (Int32) → (Nat → Int32) → (Nat → Int32) → (Nat → Int32) → (Nat → Int32) → (Nat → Int32) → (Nat → Int32) → (Nat → Int32) → (Nat → Int32) → (Int32) → (Int32) → (Int32) → (Int32) → (Int32) → (Int32) → (Int32) → (Nat → Int32) → (Nat → Int32) → (Nat → Int32) → (Nat → Int32) → (Nat → Int32) → (Nat → Int32) → (Nat → Int32) → (Nat → Int32) → (Int32) → (Nat → Int32) → (Nat → Int32) → (Nat → Int32) → (Int32) → (Nat → Int32) → (Nat → Int32) → (Nat → Int32) → (Int32) → (Nat → Int32) → (Nat → Int32) → (Nat → Int32) → (Int32) → (Nat → Int32) → (Nat → Int32) → (Nat → Int32) → (Int32) → (Int32) → (Nat → Int32) → (Nat → Int32) → (Int32) → (Int32) → (Nat → Int32) → (Nat → Int32) → Prop} (h_post : ∀ x0 x1 x2 x3 x4 x5 x6 x7 x8 x9 x10 x11 x12 x13 x14 x15 x16 x17 x18 x19 x20 x21 x22 x23 x24 x25 x26 x27 x28 x29 x30 x31 x32 x33 x34 x35 x36 x37 x38 x39 x40 x41 x42 x43 x44 x45 x46 x47 x48 x49 x50 x51 x52 x53 x54 x55 x56 x57 x58, post_1 x0 x1 x2 x3 x4 x5 x6 x7 x8 x9 x10 x11 x12 x13 x14 x15 x16 x17 x18 x19 x20 x21 x22 x23 x24 x25 x26 x27 x28 x29 x30 x31 x32 x33 x34 x35 x36 x37 x38 x39 x40 x41 x42 x43 x44 x45 x46 x47 x48 x49 x50 x51 x52 x53 x54 x55 x56 x57 x58 → post_2 x0 x1 x2 x3 x4 x5 x6 x7 x8 x9 x10 x11 x12 x13 x14 x15 x16 x17 x18 x19 x20 x21 x22 x23 x24 x25 x26 x27 x28 x29 x30 x31 x32 x33 x34 x35 x36 x37 x38 x39 x40 x41 x42 x43 x44 x45 x46 x47 x48 x49 x50 x51 x52 x53 x54 x55 x56 x57 x58 → post_3 x0 x1 x2 x3 x4 x5 x6 x7 x8 x9 x10 x11 x12 x13 x14 x15 x16 x17 x18 x19 x20 x21 x22 x23 x24 x25 x26 x27 x28 x29 x30 x31 x32 x33 x34 x35 x36 x37 x38 x39 x40 x41 x42 x43 x44 x45 x46 x47 x48 x49 x50 x51 x52 x53 x54 x55 x56 x57 x58) (h1 : q_wtt_X9_copyFrom_47_0 a_tape f_length f_fault f_place a_counts l0f_huts l0f_singers l0f_villages l0f_dams l0f_echoes l0f_deep l0f_slide l0a_heights l0a_ladders l0a_minutes l0a_echoFrom l0a_echoTo l0a_homes l0a_talls l0a_known l1f_huts l1f_singers l1f_villages l1f_dams l1f_echoes l1f_deep l1f_slide l1a_heights l1a_ladders l1a_minutes l1a_echoFrom l1a_echoTo l1a_homes l1a_talls l1a_known v0f_deeds v0a_kinds v0a_firsts v0a_seconds v1f_deeds v1a_kinds v1a_firsts v1a_seconds s0f_facts s0a_heard s0a_huts s0a_minutes s1f_facts s1a_heard s1a_huts s1a_minutes c0f_voices c0f_step c0a_parts c0a_heights c1f_voices c1f_step c1a_parts c1a_heights oa_tape of_length of_fault of_place oa_counts ol0f_huts ol0f_singers ol0f_villages ol0f_dams ol0f_echoes ol0f_deep ol0f_slide ol0a_heights ol0a_ladders ol0a_minutes ol0a_echoFrom ol0a_echoTo ol0a_homes ol0a_talls ol0a_known ol1f_huts ol1f_singers ol1f_villages ol1f_dams ol1f_echoes ol1f_deep ol1f_slide ol1a_heights ol1a_ladders ol1a_minutes ol1a_echoFrom ol1a_echoTo ol1a_homes ol1a_talls ol1a_known ov0f_deeds ov0a_kinds ov0a_firsts ov0a_seconds ov1f_deeds ov1a_kinds ov1a_firsts ov1a_seconds os0f_facts os0a_heard os0a_huts os0a_minutes os1f_facts os1a_heard os1a_huts os1a_minutes oc0f_voices oc0f_step oc0a_parts oc0a_heights oc1f_voices oc1f_step oc1a_parts oc1a_heights post_1) (h2 : q_wtt_X9_copyFrom_47_0 a_tape f_length f_fault f_place a_counts l0f_huts l0f_singers l0f_villages l0f_dams l0f_echoes l0f_deep l0f_slide l0a_heights l0a_ladders l0a_minutes l0a_echoFrom l0a_echoTo l0a_homes l0a_talls l0a_known l1f_huts l1f_singers l1f_villages l1f_dams l1f_echoes l1f_deep l1f_slide l1a_heights l1a_ladders l1a_minutes l1a_echoFrom l1a_echoTo l1a_homes l1a_talls l1a_known v0f_deeds v0a_kinds v0a_firsts v0a_seconds v1f_deeds v1a_kinds v1a_firsts v1a_seconds s0f_facts s0a_heard s0a_huts s0a_minutes s1f_facts s1a_heard s1a_huts s1a_minutes c0f_voices c0f_step c0a_parts c0a_heights c1f_voices c1f_step c1a_parts c1a_heights oa_tape of_length of_fault of_place oa_counts ol0f_huts ol0f_singers ol0f_villages ol0f_dams ol0f_echoes ol0f_deep ol0f_slide ol0a_heights ol0a_ladders ol0a_minutes ol0a_echoFrom ol0a_echoTo ol0a_homes ol0a_talls ol0a_known ol1f_huts ol1f_singers ol1f_villages ol1f_dams ol1f_echoes ol1f_deep ol1f_slide ol1a_heights ol1a_ladders ol1a_minutes ol1a_echoFrom ol1a_echoTo ol1a_homes ol1a_talls ol1a_known ov0f_deeds ov0a_kinds ov0a_firsts ov0a_seconds ov1f_deeds ov1a_kinds ov1a_firsts ov1a_seconds os0f_facts os0a_heard os0a_huts os0a_minutes os1f_facts os1a_heard os1a_huts os1a_minutes oc0f_voices oc0f_step oc0a_parts oc0a_heights oc1f_voices oc1f_step oc1a_parts oc1a_heights post_2) : q_wtt_X9_copyFrom_47_0 a_tape f_length f_fault f_place a_counts l0f_huts l0f_singers l0f_villages l0f_dams l0f_echoes l0f_deep l0f_slide l0a_heights l0a_ladders l0a_minutes l0a_echoFrom l0a_echoTo l0a_homes l0a_talls l0a_known l1f_huts l1f_singers l1f_villages l1f_dams l1f_echoes l1f_deep l1f_slide l1a_heights l1a_ladders l1a_minutes l1a_echoFrom l1a_echoTo l1a_homes l1a_talls l1a_known v0f_deeds v0a_kinds v0a_firsts v0a_seconds v1f_deeds v1a_kinds v1a_firsts v1a_seconds s0f_facts s0a_heard s0a_huts s0a_minutes s1f_facts s1a_heard s1a_huts s1a_minutes c0f_voices c0f_step c0a_parts c0a_heights c1f_voices c1f_step c1a_parts c1a_heights oa_tape of_length of_fault of_place oa_counts ol0f_huts ol0f_singers ol0f_villages ol0f_dams ol0f_echoes ol0f_deep ol0f_slide ol0a_heights ol0a_ladders ol0a_minutes ol0a_echoFrom ol0a_echoTo ol0a_homes ol0a_talls ol0a_known ol1f_huts ol1f_singers ol1f_villages ol1f_dams ol1f_echoes ol1f_deep ol1f_slide ol1a_heights ol1a_ladders ol1a_minutes ol1a_echoFrom ol1a_echoTo ol1a_homes ol1a_talls ol1a_known ov0f_deeds ov0a_kinds ov0a_firsts ov0a_seconds ov1f_deeds ov1a_kinds ov1a_firsts ov1a_seconds os0f_facts os0a_heard os0a_huts os0a_minutes os1f_facts os1a_heard os1a_huts os1a_minutes oc0f_voices oc0f_step oc0a_parts oc0a_heights oc1f_voices oc1f_step oc1a_parts oc1a_heights post_3 := ⟨h1.1, ⟨h1.2.1, ⟨h1.2.2.1, ⟨h1.2.2.2.1, fun v1 e2 => fun v3 e4 => cj_q_wtt_X9_copyFrom_47_57 h_post ((h1.2.2.2.2 v1 e2) v3 e4) ((h2.2.2.2.2 v1 e2) v3 e4)⟩⟩⟩⟩
set_option maxRecDepth 40000 in
theorem cj_q_m_findRun_46 {P11_1 P11_2 P11_3 : Int32 → (Nat → Int32) → Prop} {a_lands : Nat → Int32} {f_land : Int32} {f_huts : Int32} {a_run : Nat → Int32} {x1 : Int32} {x3 : Int32} {x4 : Int32} {y0 : Int32} {y1 : Int32} {post_1 post_2 post_3 : (Nat → Int32) → Prop} (h_P11 : ∀ x0 x1, P11_1 x0 x1 → P11_2 x0 x1 → P11_3 x0 x1) (h_post : ∀ x0, post_1 x0 → post_2 x0 → post_3 x0) (h1 : q_m_findRun_46 P11_1 a_lands f_land f_huts a_run x1 x3 x4 y0 y1 post_1) (h2 : q_m_findRun_46 P11_2 a_lands f_land f_huts a_run x1 x3 x4 y0 y1 post_2) : q_m_findRun_46 P11_3 a_lands f_land f_huts a_run x1 x3 x4 y0 y1 post_3 := ⟨h1.1, fun v1 e2 => fun v3 e4 => h_P11 _ _ ((h1.2 v1 e2) v3 e4) ((h2.2 v1 e2) v3 e4)⟩
set_option maxRecDepth 40000 in
theorem cj_q_m_findRun_43 {P11_1 P11_2 P11_3 : Int32 → (Nat → Int32) → Prop} {a_lands : Nat → Int32} {f_land : Int32} {f_huts : Int32} {a_run : Nat → Int32} {x1 : Int32} {x3 : Int32} {x4 : Int32} {y0 : Int32} {post_1 post_2 post_3 : (Nat → Int32) → Prop} (h_P11 : ∀ x0 x1, P11_1 x0 x1 → P11_2 x0 x1 → P11_3 x0 x1) (h_post : ∀ x0, post_1 x0 → post_2 x0 → post_3 x0) (h1 : q_m_findRun_43 P11_1 a_lands f_land f_huts a_run x1 x3 x4 y0 post_1) (h2 : q_m_findRun_43 P11_2 a_lands f_land f_huts a_run x1 x3 x4 y0 post_2) : q_m_findRun_43 P11_3 a_lands f_land f_huts a_run x1 x3 x4 y0 post_3 := cj_q_m_findRun_46 h_P11 h_post h1 h2
set_option maxRecDepth 40000 in
theorem cj_q_m_findRun_270 {P56_1 P56_2 P56_3 : Int32 → (Nat → Int32) → Prop} {P194_1 P194_2 P194_3 : Int32 → (Nat → Int32) → Prop} {a_lands : Nat → Int32} {f_land : Int32} {f_huts : Int32} {a_run : Nat → Int32} {x3 : Int32} {x4 : Int32} {x5 : Int32} {y0 : Int32} {y1 : Int32} {post_1 post_2 post_3 : (Nat → Int32) → Prop} (h_P56 : ∀ x0 x1, P56_1 x0 x1 → P56_2 x0 x1 → P56_3 x0 x1) (h_P194 : ∀ x0 x1, P194_1 x0 x1 → P194_2 x0 x1 → P194_3 x0 x1) (h_post : ∀ x0, post_1 x0 → post_2 x0 → post_3 x0) (h1 : q_m_findRun_270 P56_1 P194_1 a_lands f_land f_huts a_run x3 x4 x5 y0 y1 post_1) (h2 : q_m_findRun_270 P56_2 P194_2 a_lands f_land f_huts a_run x3 x4 x5 y0 y1 post_2) : q_m_findRun_270 P56_3 P194_3 a_lands f_land f_huts a_run x3 x4 x5 y0 y1 post_3 := ⟨h1.1, fun v1 e2 => fun v3 e4 => h_P194 _ _ ((h1.2 v1 e2) v3 e4) ((h2.2 v1 e2) v3 e4)⟩
set_option maxRecDepth 40000 in
theorem cj_q_m_has_0 {x0 : Int32} {x1 : Int32} {post_1 post_2 post_3 : Int32 → Prop} (h_post : ∀ x0, post_1 x0 → post_2 x0 → post_3 x0) (h1 : q_m_has_0 x0 x1 post_1) (h2 : q_m_has_0 x0 x1 post_2) : q_m_has_0 x0 x1 post_3 := ⟨fun c1 => h_post _ (h1.1 c1) (h2.1 c1), fun c2 => h_post _ (h1.2 c2) (h2.2 c2)⟩
set_option maxRecDepth 40000 in
theorem cj_q_m_lesser_0 {x0 : Int32} {x1 : Int32} {post_1 post_2 post_3 : Int32 → Prop} (h_post : ∀ x0, post_1 x0 → post_2 x0 → post_3 x0) (h1 : q_m_lesser_0 x0 x1 post_1) (h2 : q_m_lesser_0 x0 x1 post_2) : q_m_lesser_0 x0 x1 post_3 := ⟨fun c1 => h_post _ (h1.1 c1) (h2.1 c1), fun c2 => h_post _ (h1.2 c2) (h2.2 c2)⟩
set_option maxRecDepth 40000 in
theorem cj_q_m_of_0 {a_lands : Nat → Int32} {f_land : Int32} {x1 : Int32} {post_1 post_2 post_3 : Int32 → Prop} (h_post : ∀ x0, post_1 x0 → post_2 x0 → post_3 x0) (h1 : q_m_of_0 a_lands f_land x1 post_1) (h2 : q_m_of_0 a_lands f_land x1 post_2) : q_m_of_0 a_lands f_land x1 post_3 := ⟨h1.1, h_post _ h1.2 h2.2⟩
set_option maxRecDepth 40000 in
theorem cj_q_m_findRun_194 {P56_1 P56_2 P56_3 : Int32 → (Nat → Int32) → Prop} {a_lands : Nat → Int32} {f_land : Int32} {f_huts : Int32} {a_run : Nat → Int32} {x3 : Int32} {x4 : Int32} {x5 : Int32} {post_1 post_2 post_3 : (Nat → Int32) → Prop} (h_P56 : ∀ x0 x1, P56_1 x0 x1 → P56_2 x0 x1 → P56_3 x0 x1) (h_post : ∀ x0, post_1 x0 → post_2 x0 → post_3 x0) (h1 : q_m_findRun_194 P56_1 a_lands f_land f_huts a_run x3 x4 x5 post_1) (h2 : q_m_findRun_194 P56_2 a_lands f_land f_huts a_run x3 x4 x5 post_2) : q_m_findRun_194 P56_3 a_lands f_land f_huts a_run x3 x4 x5 post_3 := lfp_2 h1 h2 (fun A B C hsk1 _ _ hak1 hck1 => cj_q_m_of_0 (fun _ h2 h3 => ⟨fun c4 => fun v5 e6 => h_P56 _ _ ((h2.1 c4) v5 e6) ((h3.1 c4) v5 e6), fun c7 => cj_q_m_of_0 (fun _ h8 h9 => cj_q_m_has_0 (fun _ h10 h11 => ⟨fun c12 => ⟨(h10.1 c12).1, cj_q_m_of_0 (fun _ h13 h14 => ⟨h13.1, cj_q_m_lesser_0 (fun _ h15 h16 => cj_q_m_findRun_270 h_P56 hsk1 h_post h15 h16) h13.2 h14.2⟩) (h10.1 c12).2 (h11.1 c12).2⟩, fun c17 => ⟨(h10.2 c17).1, cj_q_m_findRun_270 h_P56 hsk1 h_post (h10.2 c17).2 (h11.2 c17).2⟩⟩) h8 h9) (h2.2 c7) (h3.2 c7)⟩) hak1 hck1) (fun A B hqk1 _ _ hbk1 => cj_q_m_of_0 (fun _ h18 h19 => ⟨fun c20 => fun v21 e22 => ((h18.1 c20) v21 e22), fun c23 => cj_q_m_of_0 (fun _ h24 h25 => cj_q_m_has_0 (fun _ h26 h27 => ⟨fun c28 => ⟨(h26.1 c28).1, cj_q_m_of_0 (fun _ h29 h30 => ⟨h29.1, cj_q_m_lesser_0 (fun _ h31 h32 => cj_q_m_findRun_270 (fun _ _ h _ => h) (fun _ _ h _ => hqk1 _ _ h) (fun _ h _ => h) h31 h32) h29.2 h30.2⟩) (h26.1 c28).2 (h27.1 c28).2⟩, fun c33 => ⟨(h26.2 c33).1, cj_q_m_findRun_270 (fun _ _ h _ => h) (fun _ _ h _ => hqk1 _ _ h) (fun _ h _ => h) (h26.2 c33).2 (h27.2 c33).2⟩⟩) h24 h25) (h18.2 c23) (h19.2 c23)⟩) hbk1 hbk1)
set_option maxRecDepth 40000 in
theorem cj_q_m_findRun_178 {P56_1 P56_2 P56_3 : Int32 → (Nat → Int32) → Prop} {P68_1 P68_2 P68_3 : Int32 → (Nat → Int32) → Prop} {P80_1 P80_2 P80_3 : Int32 → (Nat → Int32) → Prop} {a_lands : Nat → Int32} {f_land : Int32} {f_huts : Int32} {a_run : Nat → Int32} {x3 : Int32} {x4 : Int32} {x5 : Int32} {x6 : Int32} {y0 : Int32} {y1 : Int32} {post_1 post_2 post_3 : (Nat → Int32) → Prop} (h_P56 : ∀ x0 x1, P56_1 x0 x1 → P56_2 x0 x1 → P56_3 x0 x1) (h_P68 : ∀ x0 x1, P68_1 x0 x1 → P68_2 x0 x1 → P68_3 x0 x1) (h_P80 : ∀ x0 x1, P80_1 x0 x1 → P80_2 x0 x1 → P80_3 x0 x1) (h_post : ∀ x0, post_1 x0 → post_2 x0 → post_3 x0) (h1 : q_m_findRun_178 P56_1 P68_1 P80_1 a_lands f_land f_huts a_run x3 x4 x5 x6 y0 y1 post_1) (h2 : q_m_findRun_178 P56_2 P68_2 P80_2 a_lands f_land f_huts a_run x3 x4 x5 x6 y0 y1 post_2) : q_m_findRun_178 P56_3 P68_3 P80_3 a_lands f_land f_huts a_run x3 x4 x5 x6 y0 y1 post_3 := ⟨h1.1, fun v1 e2 => fun v3 e4 => h_P80 _ _ ((h1.2 v1 e2) v3 e4) ((h2.2 v1 e2) v3 e4)⟩
set_option maxRecDepth 40000 in
theorem cj_q_m_way_0 {a_lands : Nat → Int32} {f_land : Int32} {x1 : Int32} {x2 : Int32} {post_1 post_2 post_3 : Int32 → Prop} (h_post : ∀ x0, post_1 x0 → post_2 x0 → post_3 x0) (h1 : q_m_way_0 a_lands f_land x1 x2 post_1) (h2 : q_m_way_0 a_lands f_land x1 x2 post_2) : q_m_way_0 a_lands f_land x1 x2 post_3 := cj_q_m_of_0 (fun _ h1 h2 => h_post _ h1 h2) h1 h2
set_option maxRecDepth 40000 in
theorem cj_q_m_findRun_129 {P56_1 P56_2 P56_3 : Int32 → (Nat → Int32) → Prop} {P68_1 P68_2 P68_3 : Int32 → (Nat → Int32) → Prop} {P80_1 P80_2 P80_3 : Int32 → (Nat → Int32) → Prop} {a_lands : Nat → Int32} {f_land : Int32} {f_huts : Int32} {a_run : Nat → Int32} {x3 : Int32} {x4 : Int32} {x5 : Int32} {x6 : Int32} {y0 : Int32} {post_1 post_2 post_3 : (Nat → Int32) → Prop} (h_P56 : ∀ x0 x1, P56_1 x0 x1 → P56_2 x0 x1 → P56_3 x0 x1) (h_P68 : ∀ x0 x1, P68_1 x0 x1 → P68_2 x0 x1 → P68_3 x0 x1) (h_P80 : ∀ x0 x1, P80_1 x0 x1 → P80_2 x0 x1 → P80_3 x0 x1) (h_post : ∀ x0, post_1 x0 → post_2 x0 → post_3 x0) (h1 : q_m_findRun_129 P56_1 P68_1 P80_1 a_lands f_land f_huts a_run x3 x4 x5 x6 y0 post_1) (h2 : q_m_findRun_129 P56_2 P68_2 P80_2 a_lands f_land f_huts a_run x3 x4 x5 x6 y0 post_2) : q_m_findRun_129 P56_3 P68_3 P80_3 a_lands f_land f_huts a_run x3 x4 x5 x6 y0 post_3 := ⟨fun c1 => ⟨(h1.1 c1).1, cj_q_m_findRun_178 h_P56 h_P68 h_P80 h_post (h1.1 c1).2 (h2.1 c1).2⟩, fun c2 => ⟨(h1.2 c2).1, ⟨(h1.2 c2).2.1, cj_q_m_way_0 (fun _ h3 h4 => cj_q_m_lesser_0 (fun _ h5 h6 => cj_q_m_findRun_178 h_P56 h_P68 h_P80 h_post h5 h6) h3 h4) (h1.2 c2).2.2 (h2.2 c2).2.2⟩⟩⟩
set_option maxRecDepth 40000 in
theorem cj_q_m_findRun_128 {P56_1 P56_2 P56_3 : Int32 → (Nat → Int32) → Prop} {P68_1 P68_2 P68_3 : Int32 → (Nat → Int32) → Prop} {P80_1 P80_2 P80_3 : Int32 → (Nat → Int32) → Prop} {a_lands : Nat → Int32} {f_land : Int32} {f_huts : Int32} {a_run : Nat → Int32} {x3 : Int32} {x4 : Int32} {x5 : Int32} {x6 : Int32} {post_1 post_2 post_3 : (Nat → Int32) → Prop} (h_P56 : ∀ x0 x1, P56_1 x0 x1 → P56_2 x0 x1 → P56_3 x0 x1) (h_P68 : ∀ x0 x1, P68_1 x0 x1 → P68_2 x0 x1 → P68_3 x0 x1) (h_P80 : ∀ x0 x1, P80_1 x0 x1 → P80_2 x0 x1 → P80_3 x0 x1) (h_post : ∀ x0, post_1 x0 → post_2 x0 → post_3 x0) (h1 : q_m_findRun_128 P56_1 P68_1 P80_1 a_lands f_land f_huts a_run x3 x4 x5 x6 post_1) (h2 : q_m_findRun_128 P56_2 P68_2 P80_2 a_lands f_land f_huts a_run x3 x4 x5 x6 post_2) : q_m_findRun_128 P56_3 P68_3 P80_3 a_lands f_land f_huts a_run x3 x4 x5 x6 post_3 := cj_q_m_findRun_129 h_P56 h_P68 h_P80 h_post h1 h2
set_option maxRecDepth 40000 in
theorem cj_q_m_height_0 {a_lands : Nat → Int32} {f_land : Int32} {x1 : Int32} {post_1 post_2 post_3 : Int32 → Prop} (h_post : ∀ x0, post_1 x0 → post_2 x0 → post_3 x0) (h1 : q_m_height_0 a_lands f_land x1 post_1) (h2 : q_m_height_0 a_lands f_land x1 post_2) : q_m_height_0 a_lands f_land x1 post_3 := cj_q_m_of_0 (fun _ h1 h2 => h_post _ h1 h2) h1 h2
set_option maxRecDepth 40000 in
theorem cj_q_m_findRun_80 {P56_1 P56_2 P56_3 : Int32 → (Nat → Int32) → Prop} {P68_1 P68_2 P68_3 : Int32 → (Nat → Int32) → Prop} {a_lands : Nat → Int32} {f_land : Int32} {f_huts : Int32} {a_run : Nat → Int32} {x3 : Int32} {x4 : Int32} {x5 : Int32} {x6 : Int32} {post_1 post_2 post_3 : (Nat → Int32) → Prop} (h_P56 : ∀ x0 x1, P56_1 x0 x1 → P56_2 x0 x1 → P56_3 x0 x1) (h_P68 : ∀ x0 x1, P68_1 x0 x1 → P68_2 x0 x1 → P68_3 x0 x1) (h_post : ∀ x0, post_1 x0 → post_2 x0 → post_3 x0) (h1 : q_m_findRun_80 P56_1 P68_1 a_lands f_land f_huts a_run x3 x4 x5 x6 post_1) (h2 : q_m_findRun_80 P56_2 P68_2 a_lands f_land f_huts a_run x3 x4 x5 x6 post_2) : q_m_findRun_80 P56_3 P68_3 a_lands f_land f_huts a_run x3 x4 x5 x6 post_3 := lfp_2 h1 h2 (fun A B C hsk1 _ _ hak1 hck1 => ⟨fun c2 => fun v3 e4 => h_P68 _ _ ((hak1.1 c2) v3 e4) ((hck1.1 c2) v3 e4), fun c5 => cj_q_m_way_0 (fun _ h6 h7 => ⟨fun c8 => cj_q_m_findRun_128 h_P56 h_P68 hsk1 h_post (h6.1 c8) (h7.1 c8), fun c9 => cj_q_m_height_0 (fun _ h10 h11 => cj_q_m_height_0 (fun _ h12 h13 => ⟨fun c14 => cj_q_m_findRun_128 h_P56 h_P68 hsk1 h_post (h12.1 c14) (h13.1 c14), fun c15 => cj_q_m_has_0 (fun _ h16 h17 => ⟨fun c18 => cj_q_m_findRun_128 h_P56 h_P68 hsk1 h_post (h16.1 c18) (h17.1 c18), fun c19 => cj_q_m_findRun_129 h_P56 h_P68 hsk1 h_post (h16.2 c19) (h17.2 c19)⟩) (h12.2 c15) (h13.2 c15)⟩) h10 h11) (h6.2 c9) (h7.2 c9)⟩) (hak1.2 c5) (hck1.2 c5)⟩) (fun A B hqk1 _ _ hbk1 => ⟨fun c20 => fun v21 e22 => ((hbk1.1 c20) v21 e22), fun c23 => cj_q_m_way_0 (fun _ h24 h25 => ⟨fun c26 => cj_q_m_findRun_128 (fun _ _ h _ => h) (fun _ _ h _ => h) (fun _ _ h _ => hqk1 _ _ h) (fun _ h _ => h) (h24.1 c26) (h25.1 c26), fun c27 => cj_q_m_height_0 (fun _ h28 h29 => cj_q_m_height_0 (fun _ h30 h31 => ⟨fun c32 => cj_q_m_findRun_128 (fun _ _ h _ => h) (fun _ _ h _ => h) (fun _ _ h _ => hqk1 _ _ h) (fun _ h _ => h) (h30.1 c32) (h31.1 c32), fun c33 => cj_q_m_has_0 (fun _ h34 h35 => ⟨fun c36 => cj_q_m_findRun_128 (fun _ _ h _ => h) (fun _ _ h _ => h) (fun _ _ h _ => hqk1 _ _ h) (fun _ h _ => h) (h34.1 c36) (h35.1 c36), fun c37 => cj_q_m_findRun_129 (fun _ _ h _ => h) (fun _ _ h _ => h) (fun _ _ h _ => hqk1 _ _ h) (fun _ h _ => h) (h34.2 c37) (h35.2 c37)⟩) (h30.2 c33) (h31.2 c33)⟩) h28 h29) (h24.2 c27) (h25.2 c27)⟩) (hbk1.2 c23) (hbk1.2 c23)⟩)
set_option maxRecDepth 40000 in
theorem cj_q_m_findRun_68 {P56_1 P56_2 P56_3 : Int32 → (Nat → Int32) → Prop} {a_lands : Nat → Int32} {f_land : Int32} {f_huts : Int32} {a_run : Nat → Int32} {x3 : Int32} {x4 : Int32} {x5 : Int32} {post_1 post_2 post_3 : (Nat → Int32) → Prop} (h_P56 : ∀ x0 x1, P56_1 x0 x1 → P56_2 x0 x1 → P56_3 x0 x1) (h_post : ∀ x0, post_1 x0 → post_2 x0 → post_3 x0) (h1 : q_m_findRun_68 P56_1 a_lands f_land f_huts a_run x3 x4 x5 post_1) (h2 : q_m_findRun_68 P56_2 a_lands f_land f_huts a_run x3 x4 x5 post_2) : q_m_findRun_68 P56_3 a_lands f_land f_huts a_run x3 x4 x5 post_3 := lfp_2 h1 h2 (fun A B C hsk1 _ _ hak1 hck1 => ⟨fun c2 => cj_q_m_findRun_194 h_P56 h_post (hak1.1 c2) (hck1.1 c2), fun c3 => cj_q_m_findRun_80 h_P56 hsk1 h_post (hak1.2 c3) (hck1.2 c3)⟩) (fun A B hqk1 _ _ hbk1 => ⟨fun c4 => cj_q_m_findRun_194 (fun _ _ h _ => h) (fun _ h _ => h) (hbk1.1 c4) (hbk1.1 c4), fun c5 => cj_q_m_findRun_80 (fun _ _ h _ => h) (fun _ _ h _ => hqk1 _ _ h) (fun _ h _ => h) (hbk1.2 c5) (hbk1.2 c5)⟩)
set_option maxRecDepth 40000 in
theorem cj_q_m_findRun_56 {a_lands : Nat → Int32} {f_land : Int32} {f_huts : Int32} {a_run : Nat → Int32} {x3 : Int32} {x4 : Int32} {post_1 post_2 post_3 : (Nat → Int32) → Prop} (h_post : ∀ x0, post_1 x0 → post_2 x0 → post_3 x0) (h1 : q_m_findRun_56 a_lands f_land f_huts a_run x3 x4 post_1) (h2 : q_m_findRun_56 a_lands f_land f_huts a_run x3 x4 post_2) : q_m_findRun_56 a_lands f_land f_huts a_run x3 x4 post_3 := lfp_2 h1 h2 (fun A B C hsk1 _ _ hak1 hck1 => ⟨fun c2 => h_post _ (hak1.1 c2) (hck1.1 c2), fun c3 => cj_q_m_findRun_68 hsk1 h_post (hak1.2 c3) (hck1.2 c3)⟩) (fun A B hqk1 _ _ hbk1 => ⟨fun c4 => (hbk1.1 c4), fun c5 => cj_q_m_findRun_68 (fun _ _ h _ => hqk1 _ _ h) (fun _ h _ => h) (hbk1.2 c5) (hbk1.2 c5)⟩)
set_option maxRecDepth 40000 in
theorem cj_q_m_findRun_11 {a_lands : Nat → Int32} {f_land : Int32} {f_huts : Int32} {a_run : Nat → Int32} {x1 : Int32} {x3 : Int32} {x4 : Int32} {post_1 post_2 post_3 : (Nat → Int32) → Prop} (h_post : ∀ x0, post_1 x0 → post_2 x0 → post_3 x0) (h1 : q_m_findRun_11 a_lands f_land f_huts a_run x1 x3 x4 post_1) (h2 : q_m_findRun_11 a_lands f_land f_huts a_run x1 x3 x4 post_2) : q_m_findRun_11 a_lands f_land f_huts a_run x1 x3 x4 post_3 := lfp_2 h1 h2 (fun A B C hsk1 _ _ hak1 hck1 => ⟨fun c2 => cj_q_m_findRun_56 h_post (hak1.1 c2) (hck1.1 c2), fun c3 => ⟨fun c4 => cj_q_m_findRun_43 hsk1 h_post ((hak1.2 c3).1 c4) ((hck1.2 c3).1 c4), fun c5 => cj_q_m_has_0 (fun _ h6 h7 => ⟨fun c8 => cj_q_m_findRun_43 hsk1 h_post (h6.1 c8) (h7.1 c8), fun c9 => cj_q_m_findRun_46 hsk1 h_post (h6.2 c9) (h7.2 c9)⟩) ((hak1.2 c3).2 c5) ((hck1.2 c3).2 c5)⟩⟩) (fun A B hqk1 _ _ hbk1 => ⟨fun c10 => cj_q_m_findRun_56 (fun _ h _ => h) (hbk1.1 c10) (hbk1.1 c10), fun c11 => ⟨fun c12 => cj_q_m_findRun_43 (fun _ _ h _ => hqk1 _ _ h) (fun _ h _ => h) ((hbk1.2 c11).1 c12) ((hbk1.2 c11).1 c12), fun c13 => cj_q_m_has_0 (fun _ h14 h15 => ⟨fun c16 => cj_q_m_findRun_43 (fun _ _ h _ => hqk1 _ _ h) (fun _ h _ => h) (h14.1 c16) (h15.1 c16), fun c17 => cj_q_m_findRun_46 (fun _ _ h _ => hqk1 _ _ h) (fun _ h _ => h) (h14.2 c17) (h15.2 c17)⟩) ((hbk1.2 c11).2 c13) ((hbk1.2 c11).2 c13)⟩⟩)
set_option maxRecDepth 40000 in
theorem cj_q_m_findRun_0 {a_lands : Nat → Int32} {f_land : Int32} {f_huts : Int32} {a_run : Nat → Int32} {x1 : Int32} {x2 : Int32} {post_1 post_2 post_3 : (Nat → Int32) → Prop} (h_post : ∀ x0, post_1 x0 → post_2 x0 → post_3 x0) (h1 : q_m_findRun_0 a_lands f_land f_huts a_run x1 x2 post_1) (h2 : q_m_findRun_0 a_lands f_land f_huts a_run x1 x2 post_2) : q_m_findRun_0 a_lands f_land f_huts a_run x1 x2 post_3 := cj_q_m_of_0 (fun _ h1 h2 => fun v3 e4 => cj_q_m_findRun_11 h_post (h1 v3 e4) (h2 v3 e4)) h1 h2
set_option maxRecDepth 40000 in
theorem cj_q_m_flood_144 {P58_1 P58_2 P58_3 : Int32 → Int32 → (Nat → Int32) → Prop} {f_code : Int32} {a_many : Nat → Int32} {a_lands : Nat → Int32} {f_land : Int32} {f_huts : Int32} {f_singers : Int32} {a_run : Nat → Int32} {x2 : Int32} {x3 : Int32} {x4 : Int32} {x6 : Int32} {y0 : Int32} {post_1 post_2 post_3 : Int32 → (Int32) → (Int32) → (Int32) → (Int32) → (Nat → Int32) → Prop} (h_P58 : ∀ x0 x1 x2, P58_1 x0 x1 x2 → P58_2 x0 x1 x2 → P58_3 x0 x1 x2) (h_post : ∀ x0 x1 x2 x3 x4 x5, post_1 x0 x1 x2 x3 x4 x5 → post_2 x0 x1 x2 x3 x4 x5 → post_3 x0 x1 x2 x3 x4 x5) (h1 : q_m_flood_144 P58_1 f_code a_many a_lands f_land f_huts f_singers a_run x2 x3 x4 x6 y0 post_1) (h2 : q_m_flood_144 P58_2 f_code a_many a_lands f_land f_huts f_singers a_run x2 x3 x4 x6 y0 post_2) : q_m_flood_144 P58_3 f_code a_many a_lands f_land f_huts f_singers a_run x2 x3 x4 x6 y0 post_3 := fun v1 e2 => h_P58 _ _ _ (h1 v1 e2) (h2 v1 e2)
set_option maxRecDepth 40000 in
theorem cj_q_m_flood_137 {P58_1 P58_2 P58_3 : Int32 → Int32 → (Nat → Int32) → Prop} {f_code : Int32} {a_many : Nat → Int32} {a_lands : Nat → Int32} {f_land : Int32} {f_huts : Int32} {f_singers : Int32} {a_run : Nat → Int32} {x2 : Int32} {x3 : Int32} {x4 : Int32} {x6 : Int32} {post_1 post_2 post_3 : Int32 → (Int32) → (Int32) → (Int32) → (Int32) → (Nat → Int32) → Prop} (h_P58 : ∀ x0 x1 x2, P58_1 x0 x1 x2 → P58_2 x0 x1 x2 → P58_3 x0 x1 x2) (h_post : ∀ x0 x1 x2 x3 x4 x5, post_1 x0 x1 x2 x3 x4 x5 → post_2 x0 x1 x2 x3 x4 x5 → post_3 x0 x1 x2 x3 x4 x5) (h1 : q_m_flood_137 P58_1 f_code a_many a_lands f_land f_huts f_singers a_run x2 x3 x4 x6 post_1) (h2 : q_m_flood_137 P58_2 f_code a_many a_lands f_land f_huts f_singers a_run x2 x3 x4 x6 post_2) : q_m_flood_137 P58_3 f_code a_many a_lands f_land f_huts f_singers a_run x2 x3 x4 x6 post_3 := cj_q_m_flood_144 h_P58 h_post h1 h2
set_option maxRecDepth 40000 in
theorem cj_q_m_flood_142 {P58_1 P58_2 P58_3 : Int32 → Int32 → (Nat → Int32) → Prop} {f_code : Int32} {a_many : Nat → Int32} {a_lands : Nat → Int32} {f_land : Int32} {f_huts : Int32} {f_singers : Int32} {a_run : Nat → Int32} {x2 : Int32} {x3 : Int32} {x4 : Int32} {x5 : Int32} {x6 : Int32} {post_1 post_2 post_3 : Int32 → (Int32) → (Int32) → (Int32) → (Int32) → (Nat → Int32) → Prop} (h_P58 : ∀ x0 x1 x2, P58_1 x0 x1 x2 → P58_2 x0 x1 x2 → P58_3 x0 x1 x2) (h_post : ∀ x0 x1 x2 x3 x4 x5, post_1 x0 x1 x2 x3 x4 x5 → post_2 x0 x1 x2 x3 x4 x5 → post_3 x0 x1 x2 x3 x4 x5) (h1 : q_m_flood_142 P58_1 f_code a_many a_lands f_land f_huts f_singers a_run x2 x3 x4 x5 x6 post_1) (h2 : q_m_flood_142 P58_2 f_code a_many a_lands f_land f_huts f_singers a_run x2 x3 x4 x5 x6 post_2) : q_m_flood_142 P58_3 f_code a_many a_lands f_land f_huts f_singers a_run x2 x3 x4 x5 x6 post_3 := cj_q_m_flood_144 h_P58 h_post h1 h2
set_option maxRecDepth 40000 in
theorem cj_q_m_ones_24 {P4_1 P4_2 P4_3 : Int32 → Int32 → Prop} {x0 : Int32} {x2 : Int32} {y0 : Int32} {y1 : Int32} {post_1 post_2 post_3 : Int32 → Prop} (h_P4 : ∀ x0 x1, P4_1 x0 x1 → P4_2 x0 x1 → P4_3 x0 x1) (h_post : ∀ x0, post_1 x0 → post_2 x0 → post_3 x0) (h1 : q_m_ones_24 P4_1 x0 x2 y0 y1 post_1) (h2 : q_m_ones_24 P4_2 x0 x2 y0 y1 post_2) : q_m_ones_24 P4_3 x0 x2 y0 y1 post_3 := fun v1 e2 => fun v3 e4 => h_P4 _ _ ((h1 v1 e2) v3 e4) ((h2 v1 e2) v3 e4)
set_option maxRecDepth 40000 in
theorem cj_q_m_ones_4 {x0 : Int32} {x1 : Int32} {x2 : Int32} {post_1 post_2 post_3 : Int32 → Prop} (h_post : ∀ x0, post_1 x0 → post_2 x0 → post_3 x0) (h1 : q_m_ones_4 x0 x1 x2 post_1) (h2 : q_m_ones_4 x0 x1 x2 post_2) : q_m_ones_4 x0 x1 x2 post_3 := lfp_2 h1 h2 (fun A B C hsk1 _ _ hak1 hck1 => ⟨fun c2 => h_post _ (hak1.1 c2) (hck1.1 c2), fun c3 => cj_q_m_has_0 (fun _ h4 h5 => ⟨fun c6 => cj_q_m_ones_24 hsk1 h_post (h4.1 c6) (h5.1 c6), fun c7 => cj_q_m_ones_24 hsk1 h_post (h4.2 c7) (h5.2 c7)⟩) (hak1.2 c3) (hck1.2 c3)⟩) (fun A B hqk1 _ _ hbk1 => ⟨fun c8 => (hbk1.1 c8), fun c9 => cj_q_m_has_0 (fun _ h10 h11 => ⟨fun c12 => cj_q_m_ones_24 (fun _ _ h _ => hqk1 _ _ h) (fun _ h _ => h) (h10.1 c12) (h11.1 c12), fun c13 => cj_q_m_ones_24 (fun _ _ h _ => hqk1 _ _ h) (fun _ h _ => h) (h10.2 c13) (h11.2 c13)⟩) (hbk1.2 c9) (hbk1.2 c9)⟩)
set_option maxRecDepth 40000 in
theorem cj_q_m_ones_0 {x0 : Int32} {post_1 post_2 post_3 : Int32 → Prop} (h_post : ∀ x0, post_1 x0 → post_2 x0 → post_3 x0) (h1 : q_m_ones_0 x0 post_1) (h2 : q_m_ones_0 x0 post_2) : q_m_ones_0 x0 post_3 := cj_q_m_ones_4 h_post h1 h2
set_option maxRecDepth 40000 in
theorem cj_q_m_flood_111 {P58_1 P58_2 P58_3 : Int32 → Int32 → (Nat → Int32) → Prop} {f_code : Int32} {a_many : Nat → Int32} {a_lands : Nat → Int32} {f_land : Int32} {f_huts : Int32} {f_singers : Int32} {a_run : Nat → Int32} {x2 : Int32} {x3 : Int32} {x4 : Int32} {x5 : Int32} {x6 : Int32} {y0 : Int32} {post_1 post_2 post_3 : Int32 → (Int32) → (Int32) → (Int32) → (Int32) → (Nat → Int32) → Prop} (h_P58 : ∀ x0 x1 x2, P58_1 x0 x1 x2 → P58_2 x0 x1 x2 → P58_3 x0 x1 x2) (h_post : ∀ x0 x1 x2 x3 x4 x5, post_1 x0 x1 x2 x3 x4 x5 → post_2 x0 x1 x2 x3 x4 x5 → post_3 x0 x1 x2 x3 x4 x5) (h1 : q_m_flood_111 P58_1 f_code a_many a_lands f_land f_huts f_singers a_run x2 x3 x4 x5 x6 y0 post_1) (h2 : q_m_flood_111 P58_2 f_code a_many a_lands f_land f_huts f_singers a_run x2 x3 x4 x5 x6 y0 post_2) : q_m_flood_111 P58_3 f_code a_many a_lands f_land f_huts f_singers a_run x2 x3 x4 x5 x6 y0 post_3 := ⟨fun c1 => cj_q_m_flood_142 h_P58 h_post (h1.1 c1) (h2.1 c1), fun c2 => ⟨fun c3 => cj_q_m_flood_137 h_P58 h_post ((h1.2 c2).1 c3) ((h2.2 c2).1 c3), fun c4 => cj_q_m_ones_0 (fun _ h5 h6 => cj_q_m_ones_0 (fun _ h7 h8 => ⟨fun c9 => cj_q_m_flood_142 h_P58 h_post (h7.1 c9) (h8.1 c9), fun c10 => cj_q_m_flood_137 h_P58 h_post (h7.2 c10) (h8.2 c10)⟩) h5 h6) ((h1.2 c2).2 c4) ((h2.2 c2).2 c4)⟩⟩
set_option maxRecDepth 40000 in
theorem cj_q_m_flood_110 {P58_1 P58_2 P58_3 : Int32 → Int32 → (Nat → Int32) → Prop} {f_code : Int32} {a_many : Nat → Int32} {a_lands : Nat → Int32} {f_land : Int32} {f_huts : Int32} {f_singers : Int32} {a_run : Nat → Int32} {x2 : Int32} {x3 : Int32} {x4 : Int32} {x5 : Int32} {x6 : Int32} {post_1 post_2 post_3 : Int32 → (Int32) → (Int32) → (Int32) → (Int32) → (Nat → Int32) → Prop} (h_P58 : ∀ x0 x1 x2, P58_1 x0 x1 x2 → P58_2 x0 x1 x2 → P58_3 x0 x1 x2) (h_post : ∀ x0 x1 x2 x3 x4 x5, post_1 x0 x1 x2 x3 x4 x5 → post_2 x0 x1 x2 x3 x4 x5 → post_3 x0 x1 x2 x3 x4 x5) (h1 : q_m_flood_110 P58_1 f_code a_many a_lands f_land f_huts f_singers a_run x2 x3 x4 x5 x6 post_1) (h2 : q_m_flood_110 P58_2 f_code a_many a_lands f_land f_huts f_singers a_run x2 x3 x4 x5 x6 post_2) : q_m_flood_110 P58_3 f_code a_many a_lands f_land f_huts f_singers a_run x2 x3 x4 x5 x6 post_3 := cj_q_m_flood_111 h_P58 h_post h1 h2
set_option maxRecDepth 40000 in
theorem cj_q_m_flood_163 {f_code : Int32} {a_many : Nat → Int32} {a_lands : Nat → Int32} {f_land : Int32} {f_huts : Int32} {f_singers : Int32} {a_run : Nat → Int32} {x5 : Int32} {post_1 post_2 post_3 : Int32 → (Int32) → (Int32) → (Int32) → (Int32) → (Nat → Int32) → Prop} (h_post : ∀ x0 x1 x2 x3 x4 x5, post_1 x0 x1 x2 x3 x4 x5 → post_2 x0 x1 x2 x3 x4 x5 → post_3 x0 x1 x2 x3 x4 x5) (h1 : q_m_flood_163 f_code a_many a_lands f_land f_huts f_singers a_run x5 post_1) (h2 : q_m_flood_163 f_code a_many a_lands f_land f_huts f_singers a_run x5 post_2) : q_m_flood_163 f_code a_many a_lands f_land f_huts f_singers a_run x5 post_3 := h_post _ _ _ _ _ _ h1 h2
set_option maxRecDepth 40000 in
theorem cj_q_m_flood_58 {f_code : Int32} {a_many : Nat → Int32} {a_lands : Nat → Int32} {f_land : Int32} {f_huts : Int32} {f_singers : Int32} {a_run : Nat → Int32} {x2 : Int32} {x3 : Int32} {x4 : Int32} {x5 : Int32} {x6 : Int32} {post_1 post_2 post_3 : Int32 → (Int32) → (Int32) → (Int32) → (Int32) → (Nat → Int32) → Prop} (h_post : ∀ x0 x1 x2 x3 x4 x5, post_1 x0 x1 x2 x3 x4 x5 → post_2 x0 x1 x2 x3 x4 x5 → post_3 x0 x1 x2 x3 x4 x5) (h1 : q_m_flood_58 f_code a_many a_lands f_land f_huts f_singers a_run x2 x3 x4 x5 x6 post_1) (h2 : q_m_flood_58 f_code a_many a_lands f_land f_huts f_singers a_run x2 x3 x4 x5 x6 post_2) : q_m_flood_58 f_code a_many a_lands f_land f_huts f_singers a_run x2 x3 x4 x5 x6 post_3 := lfp_3 h1 h2 (fun A B C hsk1 _ _ _ hak1 hck1 => ⟨fun c2 => ⟨fun c3 => cj_q_m_flood_163 h_post ((hak1.1 c2).1 c3) ((hck1.1 c2).1 c3), fun c4 => ⟨fun c5 => cj_q_m_ones_0 (fun _ h6 h7 => h_post _ _ _ _ _ _ h6 h7) (((hak1.1 c2).2 c4).1 c5) (((hck1.1 c2).2 c4).1 c5), fun c8 => cj_q_m_flood_163 h_post (((hak1.1 c2).2 c4).2 c8) (((hck1.1 c2).2 c4).2 c8)⟩⟩, fun c9 => cj_q_m_findRun_0 (fun _ h10 h11 => cj_q_m_has_0 (fun _ h12 h13 => ⟨fun c14 => cj_q_m_flood_110 hsk1 h_post (h12.1 c14) (h13.1 c14), fun c15 => cj_q_m_has_0 (fun _ h16 h17 => ⟨fun c18 => cj_q_m_flood_110 hsk1 h_post (h16.1 c18) (h17.1 c18), fun c19 => ⟨(h16.2 c19).1, ⟨fun c20 => cj_q_m_flood_110 hsk1 h_post ((h16.2 c19).2.1 c20) ((h17.2 c19).2.1 c20), fun c21 => cj_q_m_flood_111 hsk1 h_post ((h16.2 c19).2.2 c21) ((h17.2 c19).2.2 c21)⟩⟩⟩) (h12.2 c15) (h13.2 c15)⟩) h10 h11) (hak1.2 c9) (hck1.2 c9)⟩) (fun A B hqk1 _ _ _ hbk1 => ⟨fun c22 => ⟨fun c23 => cj_q_m_flood_163 (fun _ _ _ _ _ _ h _ => h) ((hbk1.1 c22).1 c23) ((hbk1.1 c22).1 c23), fun c24 => ⟨fun c25 => cj_q_m_ones_0 (fun _ h26 h27 => h26) (((hbk1.1 c22).2 c24).1 c25) (((hbk1.1 c22).2 c24).1 c25), fun c28 => cj_q_m_flood_163 (fun _ _ _ _ _ _ h _ => h) (((hbk1.1 c22).2 c24).2 c28) (((hbk1.1 c22).2 c24).2 c28)⟩⟩, fun c29 => cj_q_m_findRun_0 (fun _ h30 h31 => cj_q_m_has_0 (fun _ h32 h33 => ⟨fun c34 => cj_q_m_flood_110 (fun _ _ _ h _ => hqk1 _ _ _ h) (fun _ _ _ _ _ _ h _ => h) (h32.1 c34) (h33.1 c34), fun c35 => cj_q_m_has_0 (fun _ h36 h37 => ⟨fun c38 => cj_q_m_flood_110 (fun _ _ _ h _ => hqk1 _ _ _ h) (fun _ _ _ _ _ _ h _ => h) (h36.1 c38) (h37.1 c38), fun c39 => ⟨(h36.2 c39).1, ⟨fun c40 => cj_q_m_flood_110 (fun _ _ _ h _ => hqk1 _ _ _ h) (fun _ _ _ _ _ _ h _ => h) ((h36.2 c39).2.1 c40) ((h37.2 c39).2.1 c40), fun c41 => cj_q_m_flood_111 (fun _ _ _ h _ => hqk1 _ _ _ h) (fun _ _ _ _ _ _ h _ => h) ((h36.2 c39).2.2 c41) ((h37.2 c39).2.2 c41)⟩⟩⟩) (h32.2 c35) (h33.2 c35)⟩) h30 h31) (hbk1.2 c29) (hbk1.2 c29)⟩)
set_option maxRecDepth 40000 in
theorem cj_q_m_hand_0 {a_many : Nat → Int32} {a_lands : Nat → Int32} {f_land : Int32} {f_huts : Int32} {f_singers : Int32} {x1 : Int32} {post_1 post_2 post_3 : Int32 → (Int32) → (Int32) → (Int32) → Prop} (h_post : ∀ x0 x1 x2 x3, post_1 x0 x1 x2 x3 → post_2 x0 x1 x2 x3 → post_3 x0 x1 x2 x3) (h1 : q_m_hand_0 a_many a_lands f_land f_huts f_singers x1 post_1) (h2 : q_m_hand_0 a_many a_lands f_land f_huts f_singers x1 post_2) : q_m_hand_0 a_many a_lands f_land f_huts f_singers x1 post_3 := cj_q_m_is_0 (fun _ h1 h2 => ⟨fun c3 => cj_q_m_of_0 (fun _ h4 h5 => cj_q_m_of_0 (fun _ h6 h7 => h_post _ _ _ _ h6 h7) h4 h5) (h1.1 c3) (h2.1 c3), fun c8 => h_post _ _ _ _ (h1.2 c8) (h2.2 c8)⟩) h1 h2
set_option maxRecDepth 40000 in
theorem cj_q_m_isDam_0 {a_lands : Nat → Int32} {f_land : Int32} {x1 : Int32} {post_1 post_2 post_3 : Int32 → Prop} (h_post : ∀ x0, post_1 x0 → post_2 x0 → post_3 x0) (h1 : q_m_isDam_0 a_lands f_land x1 post_1) (h2 : q_m_isDam_0 a_lands f_land x1 post_2) : q_m_isDam_0 a_lands f_land x1 post_3 := cj_q_m_of_0 (fun _ h1 h2 => cj_q_m_has_0 (fun _ h3 h4 => ⟨h3.1, h_post _ h3.2 h4.2⟩) h1 h2) h1 h2
set_option maxRecDepth 40000 in
theorem cj_q_m_isHut_0 {f_huts : Int32} {x1 : Int32} {post_1 post_2 post_3 : Int32 → Prop} (h_post : ∀ x0, post_1 x0 → post_2 x0 → post_3 x0) (h1 : q_m_isHut_0 f_huts x1 post_1) (h2 : q_m_isHut_0 f_huts x1 post_2) : q_m_isHut_0 f_huts x1 post_3 := cj_q_m_in_0 (fun _ h1 h2 => ⟨h1.1, h_post _ h1.2 h2.2⟩) h1 h2
set_option maxRecDepth 40000 in
theorem cj_q_m_flood_0 {f_code : Int32} {a_many : Nat → Int32} {a_lands : Nat → Int32} {f_land : Int32} {f_huts : Int32} {f_singers : Int32} {a_run : Nat → Int32} {x1 : Int32} {x2 : Int32} {x3 : Int32} {x4 : Int32} {post_1 post_2 post_3 : Int32 → (Int32) → (Int32) → (Int32) → (Int32) → (Nat → Int32) → Prop} (h_post : ∀ x0 x1 x2 x3 x4 x5, post_1 x0 x1 x2 x3 x4 x5 → post_2 x0 x1 x2 x3 x4 x5 → post_3 x0 x1 x2 x3 x4 x5) (h1 : q_m_flood_0 f_code a_many a_lands f_land f_huts f_singers a_run x1 x2 x3 x4 post_1) (h2 : q_m_flood_0 f_code a_many a_lands f_land f_huts f_singers a_run x1 x2 x3 x4 post_2) : q_m_flood_0 f_code a_many a_lands f_land f_huts f_singers a_run x1 x2 x3 x4 post_3 := cj_q_m_hand_0 (fun _ _ _ _ h1 h2 => ⟨fun c3 => h_post _ _ _ _ _ _ (h1.1 c3) (h2.1 c3), fun c4 => cj_q_m_isHut_0 (fun _ h5 h6 => ⟨fun c7 => h_post _ _ _ _ _ _ (h5.1 c7) (h6.1 c7), fun c8 => cj_q_m_isHut_0 (fun _ h9 h10 => ⟨fun c11 => h_post _ _ _ _ _ _ (h9.1 c11) (h10.1 c11), fun c12 => ⟨fun c13 => h_post _ _ _ _ _ _ ((h9.2 c12).1 c13) ((h10.2 c12).1 c13), fun c14 => cj_q_m_isDam_0 (fun _ h15 h16 => ⟨fun c17 => h_post _ _ _ _ _ _ (h15.1 c17) (h16.1 c17), fun c18 => cj_q_m_isDam_0 (fun _ h19 h20 => ⟨fun c21 => cj_q_m_flood_58 h_post (h19.1 c21) (h20.1 c21), fun c22 => h_post _ _ _ _ _ _ (h19.2 c22) (h20.2 c22)⟩) (h15.2 c18) (h16.2 c18)⟩) ((h9.2 c12).2 c14) ((h10.2 c12).2 c14)⟩⟩) (h5.2 c8) (h6.2 c8)⟩) (h1.2 c4) (h2.2 c4)⟩) h1 h2
set_option maxRecDepth 40000 in
theorem cj_q_wl_X2_hasHut_0 {f_huts : Int32} {x1 : Int32} {post_1 post_2 post_3 : Int32 → Prop} (h_post : ∀ x0, post_1 x0 → post_2 x0 → post_3 x0) (h1 : q_wl_X2_hasHut_0 f_huts x1 post_1) (h2 : q_wl_X2_hasHut_0 f_huts x1 post_2) : q_wl_X2_hasHut_0 f_huts x1 post_3 := ⟨fun c1 => h_post _ (h1.1 c1) (h2.1 c1), fun c2 => ⟨fun c3 => h_post _ ((h1.2 c2).1 c3) ((h2.2 c2).1 c3), fun c4 => h_post _ ((h1.2 c2).2 c4) ((h2.2 c2).2 c4)⟩⟩
set_option maxRecDepth 40000 in
theorem cj_q_wl_X2_isDam_0 {f_dams : Int32} {x1 : Int32} {post_1 post_2 post_3 : Int32 → Prop} (h_post : ∀ x0, post_1 x0 → post_2 x0 → post_3 x0) (h1 : q_wl_X2_isDam_0 f_dams x1 post_1) (h2 : q_wl_X2_isDam_0 f_dams x1 post_2) : q_wl_X2_isDam_0 f_dams x1 post_3 := ⟨fun c1 => h_post _ (h1.1 c1) (h2.1 c1), fun c2 => h_post _ (h1.2 c2) (h2.2 c2)⟩
set_option maxRecDepth 40000 in
theorem cj_q_wl_X2_isOpen_0 {f_huts : Int32} {f_dams : Int32} {x1 : Int32} {post_1 post_2 post_3 : Int32 → Prop} (h_post : ∀ x0, post_1 x0 → post_2 x0 → post_3 x0) (h1 : q_wl_X2_isOpen_0 f_huts f_dams x1 post_1) (h2 : q_wl_X2_isOpen_0 f_huts f_dams x1 post_2) : q_wl_X2_isOpen_0 f_huts f_dams x1 post_3 := cj_q_wl_X2_hasHut_0 (fun _ h1 h2 => ⟨fun c3 => h_post _ (h1.1 c3) (h2.1 c3), fun c4 => cj_q_wl_X2_isDam_0 (fun _ h5 h6 => ⟨fun c7 => h_post _ (h5.1 c7) (h6.1 c7), fun c8 => h_post _ (h5.2 c8) (h6.2 c8)⟩) (h1.2 c4) (h2.2 c4)⟩) h1 h2
set_option maxRecDepth 40000 in
theorem cj_q_wp_X7_fewestDams_9_85 {P28_1 P28_2 P28_3 : Int32 → Int32 → Int32 → Prop} {a_next : Nat → Int32} {lf_huts : Int32} {lf_dams : Int32} {x2 : Int32} {x3 : Int32} {x4 : Int32} {x5 : Int32} {x6 : Int32} {x7 : Int32} {post_1 post_2 post_3 : Int32 → Prop} (h_P28 : ∀ x0 x1 x2, P28_1 x0 x1 x2 → P28_2 x0 x1 x2 → P28_3 x0 x1 x2) (h_post : ∀ x0, post_1 x0 → post_2 x0 → post_3 x0) (h1 : q_wp_X7_fewestDams_9_85 P28_1 a_next lf_huts lf_dams x2 x3 x4 x5 x6 x7 post_1) (h2 : q_wp_X7_fewestDams_9_85 P28_2 a_next lf_huts lf_dams x2 x3 x4 x5 x6 x7 post_2) : q_wp_X7_fewestDams_9_85 P28_3 a_next lf_huts lf_dams x2 x3 x4 x5 x6 x7 post_3 := fun v1 e2 => h_P28 _ _ _ (h1 v1 e2) (h2 v1 e2)
set_option maxRecDepth 40000 in
theorem cj_q_wp_X7_reach_5_49 {P7_1 P7_2 P7_3 : Int32 → Int32 → Prop} {P20_1 P20_2 P20_3 : Int32 → Int32 → Prop} {a_next : Nat → Int32} {x2 : Int32} {x3 : Int32} {x4 : Int32} {x5 : Int32} {x6 : Int32} {post_1 post_2 post_3 : Int32 → Prop} (h_P7 : ∀ x0 x1, P7_1 x0 x1 → P7_2 x0 x1 → P7_3 x0 x1) (h_P20 : ∀ x0 x1, P20_1 x0 x1 → P20_2 x0 x1 → P20_3 x0 x1) (h_post : ∀ x0, post_1 x0 → post_2 x0 → post_3 x0) (h1 : q_wp_X7_reach_5_49 P7_1 P20_1 a_next x2 x3 x4 x5 x6 post_1) (h2 : q_wp_X7_reach_5_49 P7_2 P20_2 a_next x2 x3 x4 x5 x6 post_2) : q_wp_X7_reach_5_49 P7_3 P20_3 a_next x2 x3 x4 x5 x6 post_3 := fun v1 e2 => h_P20 _ _ (h1 v1 e2) (h2 v1 e2)
set_option maxRecDepth 40000 in
theorem cj_q_z_X10_has_0 {x0 : Int32} {x1 : Int32} {post_1 post_2 post_3 : Int32 → Prop} (h_post : ∀ x0, post_1 x0 → post_2 x0 → post_3 x0) (h1 : q_z_X10_has_0 x0 x1 post_1) (h2 : q_z_X10_has_0 x0 x1 post_2) : q_z_X10_has_0 x0 x1 post_3 := ⟨fun c1 => h_post _ (h1.1 c1) (h2.1 c1), fun c2 => h_post _ (h1.2 c2) (h2.2 c2)⟩
set_option maxRecDepth 40000 in
theorem cj_q_wp_X7_reach_5_20 {P7_1 P7_2 P7_3 : Int32 → Int32 → Prop} {a_next : Nat → Int32} {x2 : Int32} {x3 : Int32} {x4 : Int32} {x5 : Int32} {x6 : Int32} {post_1 post_2 post_3 : Int32 → Prop} (h_P7 : ∀ x0 x1, P7_1 x0 x1 → P7_2 x0 x1 → P7_3 x0 x1) (h_post : ∀ x0, post_1 x0 → post_2 x0 → post_3 x0) (h1 : q_wp_X7_reach_5_20 P7_1 a_next x2 x3 x4 x5 x6 post_1) (h2 : q_wp_X7_reach_5_20 P7_2 a_next x2 x3 x4 x5 x6 post_2) : q_wp_X7_reach_5_20 P7_3 a_next x2 x3 x4 x5 x6 post_3 := lfp_2 h1 h2 (fun A B C hsk1 _ _ hak1 hck1 => ⟨fun c2 => ⟨fun c3 => fun v4 e5 => h_P7 _ _ (((hak1.1 c2).1 c3) v4 e5) (((hck1.1 c2).1 c3) v4 e5), fun c6 => h_post _ ((hak1.1 c2).2 c6) ((hck1.1 c2).2 c6)⟩, fun c7 => cj_q_z_X10_has_0 (fun _ h8 h9 => ⟨fun c10 => cj_q_wp_X7_reach_5_49 h_P7 hsk1 h_post (h8.1 c10) (h9.1 c10), fun c11 => ⟨(h8.2 c11).1, fun v12 e13 => cj_q_wp_X7_reach_5_49 h_P7 hsk1 h_post ((h8.2 c11).2 v12 e13) ((h9.2 c11).2 v12 e13)⟩⟩) (hak1.2 c7) (hck1.2 c7)⟩) (fun A B hqk1 _ _ hbk1 => ⟨fun c14 => ⟨fun c15 => fun v16 e17 => (((hbk1.1 c14).1 c15) v16 e17), fun c18 => ((hbk1.1 c14).2 c18)⟩, fun c19 => cj_q_z_X10_has_0 (fun _ h20 h21 => ⟨fun c22 => cj_q_wp_X7_reach_5_49 (fun _ _ h _ => h) (fun _ _ h _ => hqk1 _ _ h) (fun _ h _ => h) (h20.1 c22) (h21.1 c22), fun c23 => ⟨(h20.2 c23).1, fun v24 e25 => cj_q_wp_X7_reach_5_49 (fun _ _ h _ => h) (fun _ _ h _ => hqk1 _ _ h) (fun _ h _ => h) ((h20.2 c23).2 v24 e25) ((h21.2 c23).2 v24 e25)⟩⟩) (hbk1.2 c19) (hbk1.2 c19)⟩)
set_option maxRecDepth 40000 in
theorem cj_q_wp_X7_reach_5_7 {a_next : Nat → Int32} {x2 : Int32} {x3 : Int32} {x4 : Int32} {post_1 post_2 post_3 : Int32 → Prop} (h_post : ∀ x0, post_1 x0 → post_2 x0 → post_3 x0) (h1 : q_wp_X7_reach_5_7 a_next x2 x3 x4 post_1) (h2 : q_wp_X7_reach_5_7 a_next x2 x3 x4 post_2) : q_wp_X7_reach_5_7 a_next x2 x3 x4 post_3 := lfp_2 h1 h2 (fun A B C hsk1 _ _ hak1 hck1 => ⟨fun c2 => h_post _ (hak1.1 c2) (hck1.1 c2), fun c3 => cj_q_wp_X7_reach_5_20 hsk1 h_post (hak1.2 c3) (hck1.2 c3)⟩) (fun A B hqk1 _ _ hbk1 => ⟨fun c4 => (hbk1.1 c4), fun c5 => cj_q_wp_X7_reach_5_20 (fun _ _ h _ => hqk1 _ _ h) (fun _ h _ => h) (hbk1.2 c5) (hbk1.2 c5)⟩)
set_option maxRecDepth 40000 in
theorem cj_q_wp_X7_reach_5_0 {a_next : Nat → Int32} {x0 : Int32} {x2 : Int32} {post_1 post_2 post_3 : Int32 → Prop} (h_post : ∀ x0, post_1 x0 → post_2 x0 → post_3 x0) (h1 : q_wp_X7_reach_5_0 a_next x0 x2 post_1) (h2 : q_wp_X7_reach_5_0 a_next x0 x2 post_2) : q_wp_X7_reach_5_0 a_next x0 x2 post_3 := fun v1 e2 => cj_q_wp_X7_reach_5_7 h_post (h1 v1 e2) (h2 v1 e2)
set_option maxRecDepth 40000 in
theorem cj_q_z_J6_bitCount_0f7a4_0 {x0 : Int32} {post_1 post_2 post_3 : Int32 → Prop} (h_post : ∀ x0, post_1 x0 → post_2 x0 → post_3 x0) (h1 : q_z_J6_bitCount_0f7a4_0 x0 post_1) (h2 : q_z_J6_bitCount_0f7a4_0 x0 post_2) : q_z_J6_bitCount_0f7a4_0 x0 post_3 := fun v1 e2 => fun v3 e4 => fun v5 e6 => fun v7 e8 => fun v9 e10 => h_post _ (((((h1 v1 e2) v3 e4) v5 e6) v7 e8) v9 e10) (((((h2 v1 e2) v3 e4) v5 e6) v7 e8) v9 e10)
set_option maxRecDepth 40000 in
theorem cj_q_wp_X7_fewestDams_9_28 {a_next : Nat → Int32} {lf_huts : Int32} {lf_dams : Int32} {x2 : Int32} {x3 : Int32} {x4 : Int32} {x5 : Int32} {x6 : Int32} {x7 : Int32} {post_1 post_2 post_3 : Int32 → Prop} (h_post : ∀ x0, post_1 x0 → post_2 x0 → post_3 x0) (h1 : q_wp_X7_fewestDams_9_28 a_next lf_huts lf_dams x2 x3 x4 x5 x6 x7 post_1) (h2 : q_wp_X7_fewestDams_9_28 a_next lf_huts lf_dams x2 x3 x4 x5 x6 x7 post_2) : q_wp_X7_fewestDams_9_28 a_next lf_huts lf_dams x2 x3 x4 x5 x6 x7 post_3 := lfp_3 h1 h2 (fun A B C hsk1 _ _ _ hak1 hck1 => ⟨fun c2 => h_post _ (hak1.1 c2) (hck1.1 c2), fun c3 => ⟨fun c4 => cj_q_wp_X7_fewestDams_9_85 hsk1 h_post ((hak1.2 c3).1 c4) ((hck1.2 c3).1 c4), fun c5 => cj_q_z_J6_bitCount_0f7a4_0 (fun _ h6 h7 => ⟨fun c8 => cj_q_wp_X7_fewestDams_9_85 hsk1 h_post (h6.1 c8) (h7.1 c8), fun c9 => cj_q_wp_X7_reach_5_0 (fun _ h10 h11 => cj_q_z_X10_has_0 (fun _ h12 h13 => ⟨fun c14 => cj_q_wp_X7_fewestDams_9_85 hsk1 h_post (h12.1 c14) (h13.1 c14), fun c15 => cj_q_z_J6_bitCount_0f7a4_0 (fun _ h16 h17 => cj_q_wp_X7_fewestDams_9_85 hsk1 h_post h16 h17) (h12.2 c15) (h13.2 c15)⟩) h10 h11) (h6.2 c9) (h7.2 c9)⟩) ((hak1.2 c3).2 c5) ((hck1.2 c3).2 c5)⟩⟩) (fun A B hqk1 _ _ _ hbk1 => ⟨fun c18 => (hbk1.1 c18), fun c19 => ⟨fun c20 => cj_q_wp_X7_fewestDams_9_85 (fun _ _ _ h _ => hqk1 _ _ _ h) (fun _ h _ => h) ((hbk1.2 c19).1 c20) ((hbk1.2 c19).1 c20), fun c21 => cj_q_z_J6_bitCount_0f7a4_0 (fun _ h22 h23 => ⟨fun c24 => cj_q_wp_X7_fewestDams_9_85 (fun _ _ _ h _ => hqk1 _ _ _ h) (fun _ h _ => h) (h22.1 c24) (h23.1 c24), fun c25 => cj_q_wp_X7_reach_5_0 (fun _ h26 h27 => cj_q_z_X10_has_0 (fun _ h28 h29 => ⟨fun c30 => cj_q_wp_X7_fewestDams_9_85 (fun _ _ _ h _ => hqk1 _ _ _ h) (fun _ h _ => h) (h28.1 c30) (h29.1 c30), fun c31 => cj_q_z_J6_bitCount_0f7a4_0 (fun _ h32 h33 => cj_q_wp_X7_fewestDams_9_85 (fun _ _ _ h _ => hqk1 _ _ _ h) (fun _ h _ => h) h32 h33) (h28.2 c31) (h29.2 c31)⟩) h26 h27) (h22.2 c25) (h23.2 c25)⟩) ((hbk1.2 c19).2 c21) ((hbk1.2 c19).2 c21)⟩⟩)
set_option maxRecDepth 40000 in
theorem cj_q_wp_X7_fewestDams_9_0 {a_next : Nat → Int32} {lf_huts : Int32} {lf_dams : Int32} {x2 : Int32} {x3 : Int32} {post_1 post_2 post_3 : Int32 → Prop} (h_post : ∀ x0, post_1 x0 → post_2 x0 → post_3 x0) (h1 : q_wp_X7_fewestDams_9_0 a_next lf_huts lf_dams x2 x3 post_1) (h2 : q_wp_X7_fewestDams_9_0 a_next lf_huts lf_dams x2 x3 post_2) : q_wp_X7_fewestDams_9_0 a_next lf_huts lf_dams x2 x3 post_3 := fun v1 e2 => fun v3 e4 => cj_q_wp_X7_fewestDams_9_28 h_post ((h1 v1 e2) v3 e4) ((h2 v1 e2) v3 e4)
set_option maxRecDepth 40000 in
theorem cj_q_wl_X2_earshot_60 {P18_1 P18_2 P18_3 : Int32 → Int32 → Prop} {f_dams : Int32} {f_echoes : Int32} {a_echoFrom : Nat → Int32} {a_echoTo : Nat → Int32} {x1 : Int32} {x2 : Int32} {x3 : Int32} {post_1 post_2 post_3 : Int32 → Prop} (h_P18 : ∀ x0 x1, P18_1 x0 x1 → P18_2 x0 x1 → P18_3 x0 x1) (h_post : ∀ x0, post_1 x0 → post_2 x0 → post_3 x0) (h1 : q_wl_X2_earshot_60 P18_1 f_dams f_echoes a_echoFrom a_echoTo x1 x2 x3 post_1) (h2 : q_wl_X2_earshot_60 P18_2 f_dams f_echoes a_echoFrom a_echoTo x1 x2 x3 post_2) : q_wl_X2_earshot_60 P18_3 f_dams f_echoes a_echoFrom a_echoTo x1 x2 x3 post_3 := fun v1 e2 => h_P18 _ _ (h1 v1 e2) (h2 v1 e2)
set_option maxRecDepth 40000 in
theorem cj_q_wl_X2_earshot_18 {f_dams : Int32} {f_echoes : Int32} {a_echoFrom : Nat → Int32} {a_echoTo : Nat → Int32} {x1 : Int32} {x2 : Int32} {x3 : Int32} {post_1 post_2 post_3 : Int32 → Prop} (h_post : ∀ x0, post_1 x0 → post_2 x0 → post_3 x0) (h1 : q_wl_X2_earshot_18 f_dams f_echoes a_echoFrom a_echoTo x1 x2 x3 post_1) (h2 : q_wl_X2_earshot_18 f_dams f_echoes a_echoFrom a_echoTo x1 x2 x3 post_2) : q_wl_X2_earshot_18 f_dams f_echoes a_echoFrom a_echoTo x1 x2 x3 post_3 := lfp_2 h1 h2 (fun A B C hsk1 _ _ hak1 hck1 => ⟨fun c2 => h_post _ (hak1.1 c2) (hck1.1 c2), fun c3 => ⟨(hak1.2 c3).1, ⟨fun c4 => cj_q_wl_X2_earshot_60 hsk1 h_post ((hak1.2 c3).2.1 c4) ((hck1.2 c3).2.1 c4), fun c5 => ⟨((hak1.2 c3).2.2 c5).1, cj_q_wl_X2_isDam_0 (fun _ h6 h7 => ⟨fun c8 => cj_q_wl_X2_earshot_60 hsk1 h_post (h6.1 c8) (h7.1 c8), fun c9 => ⟨(h6.2 c9).1, fun v10 e11 => cj_q_wl_X2_earshot_60 hsk1 h_post ((h6.2 c9).2 v10 e11) ((h7.2 c9).2 v10 e11)⟩⟩) ((hak1.2 c3).2.2 c5).2 ((hck1.2 c3).2.2 c5).2⟩⟩⟩⟩) (fun A B hqk1 _ _ hbk1 => ⟨fun c12 => (hbk1.1 c12), fun c13 => ⟨(hbk1.2 c13).1, ⟨fun c14 => cj_q_wl_X2_earshot_60 (fun _ _ h _ => hqk1 _ _ h) (fun _ h _ => h) ((hbk1.2 c13).2.1 c14) ((hbk1.2 c13).2.1 c14), fun c15 => ⟨((hbk1.2 c13).2.2 c15).1, cj_q_wl_X2_isDam_0 (fun _ h16 h17 => ⟨fun c18 => cj_q_wl_X2_earshot_60 (fun _ _ h _ => hqk1 _ _ h) (fun _ h _ => h) (h16.1 c18) (h17.1 c18), fun c19 => ⟨(h16.2 c19).1, fun v20 e21 => cj_q_wl_X2_earshot_60 (fun _ _ h _ => hqk1 _ _ h) (fun _ h _ => h) ((h16.2 c19).2 v20 e21) ((h17.2 c19).2 v20 e21)⟩⟩) ((hbk1.2 c13).2.2 c15).2 ((hbk1.2 c13).2.2 c15).2⟩⟩⟩⟩)
set_option maxRecDepth 40000 in
theorem cj_q_wl_X2_earshot_15 {f_dams : Int32} {f_echoes : Int32} {a_echoFrom : Nat → Int32} {a_echoTo : Nat → Int32} {x1 : Int32} {y0 : Int32} {post_1 post_2 post_3 : Int32 → Prop} (h_post : ∀ x0, post_1 x0 → post_2 x0 → post_3 x0) (h1 : q_wl_X2_earshot_15 f_dams f_echoes a_echoFrom a_echoTo x1 y0 post_1) (h2 : q_wl_X2_earshot_15 f_dams f_echoes a_echoFrom a_echoTo x1 y0 post_2) : q_wl_X2_earshot_15 f_dams f_echoes a_echoFrom a_echoTo x1 y0 post_3 := cj_q_wl_X2_earshot_18 h_post h1 h2
set_option maxRecDepth 40000 in
theorem cj_q_wl_X2_earshot_0 {f_dams : Int32} {f_echoes : Int32} {a_echoFrom : Nat → Int32} {a_echoTo : Nat → Int32} {x1 : Int32} {post_1 post_2 post_3 : Int32 → Prop} (h_post : ∀ x0, post_1 x0 → post_2 x0 → post_3 x0) (h1 : q_wl_X2_earshot_0 f_dams f_echoes a_echoFrom a_echoTo x1 post_1) (h2 : q_wl_X2_earshot_0 f_dams f_echoes a_echoFrom a_echoTo x1 post_2) : q_wl_X2_earshot_0 f_dams f_echoes a_echoFrom a_echoTo x1 post_3 := cj_q_wl_X2_isDam_0 (fun _ h1 h2 => ⟨fun c3 => cj_q_wl_X2_earshot_15 h_post (h1.1 c3) (h2.1 c3), fun c4 => cj_q_wl_X2_earshot_15 h_post (h1.2 c4) (h2.2 c4)⟩) h1 h2
set_option maxRecDepth 40000 in
theorem cj_q_wl_X2_leads_0 {f_dams : Int32} {a_heights : Nat → Int32} {a_minutes : Nat → Int32} {x1 : Int32} {x2 : Int32} {post_1 post_2 post_3 : Int32 → Prop} (h_post : ∀ x0, post_1 x0 → post_2 x0 → post_3 x0) (h1 : q_wl_X2_leads_0 f_dams a_heights a_minutes x1 x2 post_1) (h2 : q_wl_X2_leads_0 f_dams a_heights a_minutes x1 x2 post_2) : q_wl_X2_leads_0 f_dams a_heights a_minutes x1 x2 post_3 := ⟨h1.1, ⟨fun c1 => h_post _ (h1.2.1 c1) (h2.2.1 c1), fun c2 => ⟨(h1.2.2 c2).1, ⟨(h1.2.2 c2).2.1, ⟨fun c3 => h_post _ ((h1.2.2 c2).2.2.1 c3) ((h2.2.2 c2).2.2.1 c3), fun c4 => cj_q_wl_X2_isDam_0 (fun _ h5 h6 => ⟨fun c7 => h_post _ (h5.1 c7) (h6.1 c7), fun c8 => cj_q_wl_X2_isDam_0 (fun _ h9 h10 => ⟨fun c11 => h_post _ (h9.1 c11) (h10.1 c11), fun c12 => h_post _ (h9.2 c12) (h10.2 c12)⟩) (h5.2 c8) (h6.2 c8)⟩) ((h1.2.2 c2).2.2.2 c4) ((h2.2.2 c2).2.2.2 c4)⟩⟩⟩⟩⟩
set_option maxRecDepth 40000 in
theorem cj_q_wp_X7_link_9_64 {P2_1 P2_2 P2_3 : Int32 → (Nat → Int32) → Prop} {P35_1 P35_2 P35_3 : Int32 → (Nat → Int32) → Prop} {a_next : Nat → Int32} {lf_huts : Int32} {lf_dams : Int32} {lf_echoes : Int32} {la_heights : Nat → Int32} {la_minutes : Nat → Int32} {la_echoFrom : Nat → Int32} {la_echoTo : Nat → Int32} {x2 : Int32} {x3 : Int32} {post_1 post_2 post_3 : (Nat → Int32) → Prop} (h_P2 : ∀ x0 x1, P2_1 x0 x1 → P2_2 x0 x1 → P2_3 x0 x1) (h_P35 : ∀ x0 x1, P35_1 x0 x1 → P35_2 x0 x1 → P35_3 x0 x1) (h_post : ∀ x0, post_1 x0 → post_2 x0 → post_3 x0) (h1 : q_wp_X7_link_9_64 P2_1 P35_1 a_next lf_huts lf_dams lf_echoes la_heights la_minutes la_echoFrom la_echoTo x2 x3 post_1) (h2 : q_wp_X7_link_9_64 P2_2 P35_2 a_next lf_huts lf_dams lf_echoes la_heights la_minutes la_echoFrom la_echoTo x2 x3 post_2) : q_wp_X7_link_9_64 P2_3 P35_3 a_next lf_huts lf_dams lf_echoes la_heights la_minutes la_echoFrom la_echoTo x2 x3 post_3 := fun v1 e2 => h_P35 _ _ (h1 v1 e2) (h2 v1 e2)
set_option maxRecDepth 40000 in
theorem cj_q_wp_X7_link_9_35 {P2_1 P2_2 P2_3 : Int32 → (Nat → Int32) → Prop} {a_next : Nat → Int32} {lf_huts : Int32} {lf_dams : Int32} {lf_echoes : Int32} {la_heights : Nat → Int32} {la_minutes : Nat → Int32} {la_echoFrom : Nat → Int32} {la_echoTo : Nat → Int32} {x2 : Int32} {x3 : Int32} {post_1 post_2 post_3 : (Nat → Int32) → Prop} (h_P2 : ∀ x0 x1, P2_1 x0 x1 → P2_2 x0 x1 → P2_3 x0 x1) (h_post : ∀ x0, post_1 x0 → post_2 x0 → post_3 x0) (h1 : q_wp_X7_link_9_35 P2_1 a_next lf_huts lf_dams lf_echoes la_heights la_minutes la_echoFrom la_echoTo x2 x3 post_1) (h2 : q_wp_X7_link_9_35 P2_2 a_next lf_huts lf_dams lf_echoes la_heights la_minutes la_echoFrom la_echoTo x2 x3 post_2) : q_wp_X7_link_9_35 P2_3 a_next lf_huts lf_dams lf_echoes la_heights la_minutes la_echoFrom la_echoTo x2 x3 post_3 := lfp_2 h1 h2 (fun A B C hsk1 _ _ hak1 hck1 => ⟨fun c2 => fun v3 e4 => h_P2 _ _ ((hak1.1 c2) v3 e4) ((hck1.1 c2) v3 e4), fun c5 => cj_q_wl_X2_leads_0 (fun _ h6 h7 => ⟨fun c8 => cj_q_wp_X7_link_9_64 h_P2 hsk1 h_post (h6.1 c8) (h7.1 c8), fun c9 => ⟨(h6.2 c9).1, fun v10 e11 => ⟨((h6.2 c9).2 v10 e11).1, fun v12 e13 => cj_q_wp_X7_link_9_64 h_P2 hsk1 h_post (((h6.2 c9).2 v10 e11).2 v12 e13) (((h7.2 c9).2 v10 e11).2 v12 e13)⟩⟩⟩) (hak1.2 c5) (hck1.2 c5)⟩) (fun A B hqk1 _ _ hbk1 => ⟨fun c14 => fun v15 e16 => ((hbk1.1 c14) v15 e16), fun c17 => cj_q_wl_X2_leads_0 (fun _ h18 h19 => ⟨fun c20 => cj_q_wp_X7_link_9_64 (fun _ _ h _ => h) (fun _ _ h _ => hqk1 _ _ h) (fun _ h _ => h) (h18.1 c20) (h19.1 c20), fun c21 => ⟨(h18.2 c21).1, fun v22 e23 => ⟨((h18.2 c21).2 v22 e23).1, fun v24 e25 => cj_q_wp_X7_link_9_64 (fun _ _ h _ => h) (fun _ _ h _ => hqk1 _ _ h) (fun _ h _ => h) (((h18.2 c21).2 v22 e23).2 v24 e25) (((h19.2 c21).2 v22 e23).2 v24 e25)⟩⟩⟩) (hbk1.2 c17) (hbk1.2 c17)⟩)
set_option maxRecDepth 40000 in
theorem cj_q_wp_X7_link_9_32 {P2_1 P2_2 P2_3 : Int32 → (Nat → Int32) → Prop} {a_next : Nat → Int32} {lf_huts : Int32} {lf_dams : Int32} {lf_echoes : Int32} {la_heights : Nat → Int32} {la_minutes : Nat → Int32} {la_echoFrom : Nat → Int32} {la_echoTo : Nat → Int32} {x2 : Int32} {y0 : Int32} {y1 : Int32} {post_1 post_2 post_3 : (Nat → Int32) → Prop} (h_P2 : ∀ x0 x1, P2_1 x0 x1 → P2_2 x0 x1 → P2_3 x0 x1) (h_post : ∀ x0, post_1 x0 → post_2 x0 → post_3 x0) (h1 : q_wp_X7_link_9_32 P2_1 a_next lf_huts lf_dams lf_echoes la_heights la_minutes la_echoFrom la_echoTo x2 y0 y1 post_1) (h2 : q_wp_X7_link_9_32 P2_2 a_next lf_huts lf_dams lf_echoes la_heights la_minutes la_echoFrom la_echoTo x2 y0 y1 post_2) : q_wp_X7_link_9_32 P2_3 a_next lf_huts lf_dams lf_echoes la_heights la_minutes la_echoFrom la_echoTo x2 y0 y1 post_3 := ⟨h1.1, fun v1 e2 => cj_q_wp_X7_link_9_35 h_P2 h_post (h1.2 v1 e2) (h2.2 v1 e2)⟩
set_option maxRecDepth 40000 in
theorem cj_q_wp_X7_link_9_2 {a_next : Nat → Int32} {lf_huts : Int32} {lf_dams : Int32} {lf_echoes : Int32} {la_heights : Nat → Int32} {la_minutes : Nat → Int32} {la_echoFrom : Nat → Int32} {la_echoTo : Nat → Int32} {x2 : Int32} {post_1 post_2 post_3 : (Nat → Int32) → Prop} (h_post : ∀ x0, post_1 x0 → post_2 x0 → post_3 x0) (h1 : q_wp_X7_link_9_2 a_next lf_huts lf_dams lf_echoes la_heights la_minutes la_echoFrom la_echoTo x2 post_1) (h2 : q_wp_X7_link_9_2 a_next lf_huts lf_dams lf_echoes la_heights la_minutes la_echoFrom la_echoTo x2 post_2) : q_wp_X7_link_9_2 a_next lf_huts lf_dams lf_echoes la_heights la_minutes la_echoFrom la_echoTo x2 post_3 := lfp_2 h1 h2 (fun A B C hsk1 _ _ hak1 hck1 => ⟨fun c2 => h_post _ (hak1.1 c2) (hck1.1 c2), fun c3 => cj_q_wl_X2_isDam_0 (fun _ h4 h5 => ⟨fun c6 => cj_q_wl_X2_earshot_0 (fun _ h7 h8 => cj_q_wp_X7_link_9_32 hsk1 h_post h7 h8) (h4.1 c6) (h5.1 c6), fun c9 => cj_q_wp_X7_link_9_32 hsk1 h_post (h4.2 c9) (h5.2 c9)⟩) (hak1.2 c3) (hck1.2 c3)⟩) (fun A B hqk1 _ _ hbk1 => ⟨fun c10 => (hbk1.1 c10), fun c11 => cj_q_wl_X2_isDam_0 (fun _ h12 h13 => ⟨fun c14 => cj_q_wl_X2_earshot_0 (fun _ h15 h16 => cj_q_wp_X7_link_9_32 (fun _ _ h _ => hqk1 _ _ h) (fun _ h _ => h) h15 h16) (h12.1 c14) (h13.1 c14), fun c17 => cj_q_wp_X7_link_9_32 (fun _ _ h _ => hqk1 _ _ h) (fun _ h _ => h) (h12.2 c17) (h13.2 c17)⟩) (hbk1.2 c11) (hbk1.2 c11)⟩)
set_option maxRecDepth 40000 in
theorem cj_q_wp_X7_link_9_0 {a_next : Nat → Int32} {lf_huts : Int32} {lf_dams : Int32} {lf_echoes : Int32} {la_heights : Nat → Int32} {la_minutes : Nat → Int32} {la_echoFrom : Nat → Int32} {la_echoTo : Nat → Int32} {post_1 post_2 post_3 : (Nat → Int32) → Prop} (h_post : ∀ x0, post_1 x0 → post_2 x0 → post_3 x0) (h1 : q_wp_X7_link_9_0 a_next lf_huts lf_dams lf_echoes la_heights la_minutes la_echoFrom la_echoTo post_1) (h2 : q_wp_X7_link_9_0 a_next lf_huts lf_dams lf_echoes la_heights la_minutes la_echoFrom la_echoTo post_2) : q_wp_X7_link_9_0 a_next lf_huts lf_dams lf_echoes la_heights la_minutes la_echoFrom la_echoTo post_3 := cj_q_wp_X7_link_9_2 h_post h1 h2
set_option maxRecDepth 40000 in
theorem cj_q_wx_X10_flood_70 {ta_counts : Nat → Int32} {tl0f_huts : Int32} {tl0f_dams : Int32} {tl0f_echoes : Int32} {tl0a_heights : Nat → Int32} {tl0a_minutes : Nat → Int32} {tl0a_echoFrom : Nat → Int32} {tl0a_echoTo : Nat → Int32} {tl1f_huts : Int32} {tl1f_dams : Int32} {tl1f_echoes : Int32} {tl1a_heights : Nat → Int32} {tl1a_minutes : Nat → Int32} {tl1a_echoFrom : Nat → Int32} {tl1a_echoTo : Nat → Int32} {pa_next : Nat → Int32} {x6 : Int32} {post_1 post_2 post_3 : Int32 → (Nat → Int32) → Prop} (h_post : ∀ x0 x1, post_1 x0 x1 → post_2 x0 x1 → post_3 x0 x1) (h1 : q_wx_X10_flood_70 ta_counts tl0f_huts tl0f_dams tl0f_echoes tl0a_heights tl0a_minutes tl0a_echoFrom tl0a_echoTo tl1f_huts tl1f_dams tl1f_echoes tl1a_heights tl1a_minutes tl1a_echoFrom tl1a_echoTo pa_next x6 post_1) (h2 : q_wx_X10_flood_70 ta_counts tl0f_huts tl0f_dams tl0f_echoes tl0a_heights tl0a_minutes tl0a_echoFrom tl0a_echoTo tl1f_huts tl1f_dams tl1f_echoes tl1a_heights tl1a_minutes tl1a_echoFrom tl1a_echoTo pa_next x6 post_2) : q_wx_X10_flood_70 ta_counts tl0f_huts tl0f_dams tl0f_echoes tl0a_heights tl0a_minutes tl0a_echoFrom tl0a_echoTo tl1f_huts tl1f_dams tl1f_echoes tl1a_heights tl1a_minutes tl1a_echoFrom tl1a_echoTo pa_next x6 post_3 := h_post _ _ h1 h2
set_option maxRecDepth 40000 in
theorem cj_q_wx_X10_landAt_0 {ta_counts : Nat → Int32} {x1 : Int32} {post_1 post_2 post_3 : Nat → Prop} (h_post : ∀ x0, post_1 x0 → post_2 x0 → post_3 x0) (h1 : q_wx_X10_landAt_0 ta_counts x1 post_1) (h2 : q_wx_X10_landAt_0 ta_counts x1 post_2) : q_wx_X10_landAt_0 ta_counts x1 post_3 := ⟨fun c1 => h_post _ (h1.1 c1) (h2.1 c1), fun c2 => ⟨fun c3 => h_post _ ((h1.2 c2).1 c3) ((h2.2 c2).1 c3), fun c4 => ⟨((h1.2 c2).2 c4).1, fun c5 => h_post _ (((h1.2 c2).2 c4).2.1 c5) (((h2.2 c2).2 c4).2.1 c5), fun c6 => h_post _ (((h1.2 c2).2 c4).2.2 c6) (((h2.2 c2).2 c4).2.2 c6)⟩⟩⟩
set_option maxRecDepth 40000 in
theorem cj_q_wx_X10_flood_0 {ta_counts : Nat → Int32} {tl0f_huts : Int32} {tl0f_dams : Int32} {tl0f_echoes : Int32} {tl0a_heights : Nat → Int32} {tl0a_minutes : Nat → Int32} {tl0a_echoFrom : Nat → Int32} {tl0a_echoTo : Nat → Int32} {tl1f_huts : Int32} {tl1f_dams : Int32} {tl1f_echoes : Int32} {tl1a_heights : Nat → Int32} {tl1a_minutes : Nat → Int32} {tl1a_echoFrom : Nat → Int32} {tl1a_echoTo : Nat → Int32} {pa_next : Nat → Int32} {x1 : Int32} {x2 : Int32} {x3 : Int32} {x4 : Int32} {post_1 post_2 post_3 : Int32 → (Nat → Int32) → Prop} (h_post : ∀ x0 x1, post_1 x0 x1 → post_2 x0 x1 → post_3 x0 x1) (h1 : q_wx_X10_flood_0 ta_counts tl0f_huts tl0f_dams tl0f_echoes tl0a_heights tl0a_minutes tl0a_echoFrom tl0a_echoTo tl1f_huts tl1f_dams tl1f_echoes tl1a_heights tl1a_minutes tl1a_echoFrom tl1a_echoTo pa_next x1 x2 x3 x4 post_1) (h2 : q_wx_X10_flood_0 ta_counts tl0f_huts tl0f_dams tl0f_echoes tl0a_heights tl0a_minutes tl0a_echoFrom tl0a_echoTo tl1f_huts tl1f_dams tl1f_echoes tl1a_heights tl1a_minutes tl1a_echoFrom tl1a_echoTo pa_next x1 x2 x3 x4 post_2) : q_wx_X10_flood_0 ta_counts tl0f_huts tl0f_dams tl0f_echoes tl0a_heights tl0a_minutes tl0a_echoFrom tl0a_echoTo tl1f_huts tl1f_dams tl1f_echoes tl1a_heights tl1a_minutes tl1a_echoFrom tl1a_echoTo pa_next x1 x2 x3 x4 post_3 := cj_q_wx_X10_landAt_0 (fun _ h1 h2 => ⟨fun c3 => h_post _ _ (h1.1 c3) (h2.1 c3), fun c4 => cj_q_wl_X2_isOpen_0 (fun _ h5 h6 => ⟨fun c7 => h_post _ _ (h5.1 c7) (h6.1 c7), fun c8 => cj_q_wl_X2_isOpen_0 (fun _ h9 h10 => ⟨fun c11 => h_post _ _ (h9.1 c11) (h10.1 c11), fun c12 => ⟨fun c13 => cj_q_wp_X7_link_9_0 (fun _ h14 h15 => cj_q_wp_X7_fewestDams_9_0 (fun _ h16 h17 => ⟨fun c18 => cj_q_wx_X10_flood_70 h_post (h16.1 c18) (h17.1 c18), fun c19 => ⟨fun c20 => cj_q_z_J6_bitCount_0f7a4_0 (fun _ h21 h22 => h_post _ _ h21 h22) ((h16.2 c19).1 c20) ((h17.2 c19).1 c20), fun c23 => cj_q_wx_X10_flood_70 h_post ((h16.2 c19).2 c23) ((h17.2 c19).2 c23)⟩⟩) h14 h15) ((h9.2 c12).1 c13) ((h10.2 c12).1 c13), fun c24 => h_post _ _ ((h9.2 c12).2 c24) ((h10.2 c12).2 c24)⟩⟩) (h5.2 c8) (h6.2 c8)⟩) (h1.2.1 c4) (h2.2.1 c4), fun c25 c26 => cj_q_wl_X2_isOpen_0 (fun _ h27 h28 => ⟨fun c29 => h_post _ _ (h27.1 c29) (h28.1 c29), fun c30 => cj_q_wl_X2_isOpen_0 (fun _ h31 h32 => ⟨fun c33 => h_post _ _ (h31.1 c33) (h32.1 c33), fun c34 => ⟨fun c35 => cj_q_wp_X7_link_9_0 (fun _ h36 h37 => cj_q_wp_X7_fewestDams_9_0 (fun _ h38 h39 => ⟨fun c40 => cj_q_wx_X10_flood_70 h_post (h38.1 c40) (h39.1 c40), fun c41 => ⟨fun c42 => cj_q_z_J6_bitCount_0f7a4_0 (fun _ h43 h44 => h_post _ _ h43 h44) ((h38.2 c41).1 c42) ((h39.2 c41).1 c42), fun c45 => cj_q_wx_X10_flood_70 h_post ((h38.2 c41).2 c45) ((h39.2 c41).2 c45)⟩⟩) h36 h37) ((h31.2 c34).1 c35) ((h32.2 c34).1 c35), fun c46 => h_post _ _ ((h31.2 c34).2 c46) ((h32.2 c34).2 c46)⟩⟩) (h27.2 c30) (h28.2 c30)⟩) (h1.2.2 c25 c26) (h2.2.2 c25 c26)⟩) h1 h2
end
section
set_option maxRecDepth 40000 in
set_option maxHeartbeats 4000000 in
theorem tG_copy3 {a_tape : Nat → Int32} {f_length : Int32} {f_fault : Int32} {f_place : Int32} {a_counts : Nat → Int32} {l0f_huts : Int32} {l0f_singers : Int32} {l0f_villages : Int32} {l0f_dams : Int32} {l0f_echoes : Int32} {l0f_deep : Int32} {l0f_slide : Int32} {l0a_heights : Nat → Int32} {l0a_ladders : Nat → Int32} {l0a_minutes : Nat → Int32} {l0a_echoFrom : Nat → Int32} {l0a_echoTo : Nat → Int32} {l0a_homes : Nat → Int32} {l0a_talls : Nat → Int32} {l0a_known : Nat → Int32} {l1f_huts : Int32} {l1f_singers : Int32} {l1f_villages : Int32} {l1f_dams : Int32} {l1f_echoes : Int32} {l1f_deep : Int32} {l1f_slide : Int32} {l1a_heights : Nat → Int32} {l1a_ladders : Nat → Int32} {l1a_minutes : Nat → Int32} {l1a_echoFrom : Nat → Int32} {l1a_echoTo : Nat → Int32} {l1a_homes : Nat → Int32} {l1a_talls : Nat → Int32} {l1a_known : Nat → Int32} {v0f_deeds : Int32} {v0a_kinds : Nat → Int32} {v0a_firsts : Nat → Int32} {v0a_seconds : Nat → Int32} {v1f_deeds : Int32} {v1a_kinds : Nat → Int32} {v1a_firsts : Nat → Int32} {v1a_seconds : Nat → Int32} {s0f_facts : Int32} {s0a_heard : Nat → Int32} {s0a_huts : Nat → Int32} {s0a_minutes : Nat → Int32} {s1f_facts : Int32} {s1a_heard : Nat → Int32} {s1a_huts : Nat → Int32} {s1a_minutes : Nat → Int32} {c0f_voices : Int32} {c0f_step : Int32} {c0a_parts : Nat → Int32} {c0a_heights : Nat → Int32} {c1f_voices : Int32} {c1f_step : Int32} {c1a_parts : Nat → Int32} {c1a_heights : Nat → Int32} {oa_tape : Nat → Int32} {of_length : Int32} {of_fault : Int32} {of_place : Int32} {oa_counts : Nat → Int32} {ol0f_huts : Int32} {ol0f_singers : Int32} {ol0f_villages : Int32} {ol0f_dams : Int32} {ol0f_echoes : Int32} {ol0f_deep : Int32} {ol0f_slide : Int32} {ol0a_heights : Nat → Int32} {ol0a_ladders : Nat → Int32} {ol0a_minutes : Nat → Int32} {ol0a_echoFrom : Nat → Int32} {ol0a_echoTo : Nat → Int32} {ol0a_homes : Nat → Int32} {ol0a_talls : Nat → Int32} {ol0a_known : Nat → Int32} {ol1f_huts : Int32} {ol1f_singers : Int32} {ol1f_villages : Int32} {ol1f_dams : Int32} {ol1f_echoes : Int32} {ol1f_deep : Int32} {ol1f_slide : Int32} {ol1a_heights : Nat → Int32} {ol1a_ladders : Nat → Int32} {ol1a_minutes : Nat → Int32} {ol1a_echoFrom : Nat → Int32} {ol1a_echoTo : Nat → Int32} {ol1a_homes : Nat → Int32} {ol1a_talls : Nat → Int32} {ol1a_known : Nat → Int32} {ov0f_deeds : Int32} {ov0a_kinds : Nat → Int32} {ov0a_firsts : Nat → Int32} {ov0a_seconds : Nat → Int32} {ov1f_deeds : Int32} {ov1a_kinds : Nat → Int32} {ov1a_firsts : Nat → Int32} {ov1a_seconds : Nat → Int32} {os0f_facts : Int32} {os0a_heard : Nat → Int32} {os0a_huts : Nat → Int32} {os0a_minutes : Nat → Int32} {os1f_facts : Int32} {os1a_heard : Nat → Int32} {os1a_huts : Nat → Int32} {os1a_minutes : Nat → Int32} {oc0f_voices : Int32} {oc0f_step : Int32} {oc0a_parts : Nat → Int32} {oc0a_heights : Nat → Int32} {oc1f_voices : Int32} {oc1f_step : Int32} {oc1a_parts : Nat → Int32} {oc1a_heights : Nat → Int32} {post : (Nat → Int32) → (Int32) → (Int32) → (Int32) → (Nat → Int32) → (Int32) → (Int32) → (Int32) → (Int32) → (Int32) → (Int32) → (Int32) → (Nat → Int32) → (Nat → Int32) → (Nat → Int32) → (Nat → Int32) → (Nat → Int32) → (Nat → Int32) → (Nat → Int32) → (Nat → Int32) → (Int32) → (Int32) → (Int32) → (Int32) → (Int32) → (Int32) → (Int32) → (Nat → Int32) → (Nat → Int32) → (Nat → Int32) → (Nat → Int32) → (Nat → Int32) → (Nat → Int32) → (Nat → Int32) → (Nat → Int32) → (Int32) → (Nat → Int32) → (Nat → Int32) → (Nat → Int32) → (Int32) → (Nat → Int32) → (Nat → Int32) → (Nat → Int32) → (Int32) → (Nat → Int32) → (Nat → Int32) → (Nat → Int32) → (Int32) → (Nat → Int32) → (Nat → Int32) → (Nat → Int32) → (Int32) → (Int32) → (Nat → Int32) → (Nat → Int32) → (Int32) → (Int32) → (Nat → Int32) → (Nat → Int32) → Prop} (hT : tG a_tape f_length f_fault f_place a_counts l0f_huts l0f_singers l0f_villages l0f_dams l0f_echoes l0f_deep l0f_slide l0a_heights l0a_ladders l0a_minutes l0a_echoFrom l0a_echoTo l0a_homes l0a_talls l0a_known l1f_huts l1f_singers l1f_villages l1f_dams l1f_echoes l1f_deep l1f_slide l1a_heights l1a_ladders l1a_minutes l1a_echoFrom l1a_echoTo l1a_homes l1a_talls l1a_known v0f_deeds v0a_kinds v0a_firsts v0a_seconds v1f_deeds v1a_kinds v1a_firsts v1a_seconds s0f_facts s0a_heard s0a_huts s0a_minutes s1f_facts s1a_heard s1a_huts s1a_minutes c0f_voices c0f_step c0a_parts c0a_heights c1f_voices c1f_step c1a_parts c1a_heights) (hO : tG oa_tape of_length of_fault of_place oa_counts ol0f_huts ol0f_singers ol0f_villages ol0f_dams ol0f_echoes ol0f_deep ol0f_slide ol0a_heights ol0a_ladders ol0a_minutes ol0a_echoFrom ol0a_echoTo ol0a_homes ol0a_talls ol0a_known ol1f_huts ol1f_singers ol1f_villages ol1f_dams ol1f_echoes ol1f_deep ol1f_slide ol1a_heights ol1a_ladders ol1a_minutes ol1a_echoFrom ol1a_echoTo ol1a_homes ol1a_talls ol1a_known ov0f_deeds ov0a_kinds ov0a_firsts ov0a_seconds ov1f_deeds ov1a_kinds ov1a_firsts ov1a_seconds os0f_facts os0a_heard os0a_huts os0a_minutes os1f_facts os1a_heard os1a_huts os1a_minutes oc0f_voices oc0f_step oc0a_parts oc0a_heights oc1f_voices oc1f_step oc1a_parts oc1a_heights) (hpost : ∀ (na_tape : Nat → Int32) (nf_length : Int32) (nf_fault : Int32) (nf_place : Int32) (na_counts : Nat → Int32) (nl0f_huts : Int32) (nl0f_singers : Int32) (nl0f_villages : Int32) (nl0f_dams : Int32) (nl0f_echoes : Int32) (nl0f_deep : Int32) (nl0f_slide : Int32) (nl0a_heights : Nat → Int32) (nl0a_ladders : Nat → Int32) (nl0a_minutes : Nat → Int32) (nl0a_echoFrom : Nat → Int32) (nl0a_echoTo : Nat → Int32) (nl0a_homes : Nat → Int32) (nl0a_talls : Nat → Int32) (nl0a_known : Nat → Int32) (nl1f_huts : Int32) (nl1f_singers : Int32) (nl1f_villages : Int32) (nl1f_dams : Int32) (nl1f_echoes : Int32) (nl1f_deep : Int32) (nl1f_slide : Int32) (nl1a_heights : Nat → Int32) (nl1a_ladders : Nat → Int32) (nl1a_minutes : Nat → Int32) (nl1a_echoFrom : Nat → Int32) (nl1a_echoTo : Nat → Int32) (nl1a_homes : Nat → Int32) (nl1a_talls : Nat → Int32) (nl1a_known : Nat → Int32) (nv0f_deeds : Int32) (nv0a_kinds : Nat → Int32) (nv0a_firsts : Nat → Int32) (nv0a_seconds : Nat → Int32) (nv1f_deeds : Int32) (nv1a_kinds : Nat → Int32) (nv1a_firsts : Nat → Int32) (nv1a_seconds : Nat → Int32) (ns0f_facts : Int32) (ns0a_heard : Nat → Int32) (ns0a_huts : Nat → Int32) (ns0a_minutes : Nat → Int32) (ns1f_facts : Int32) (ns1a_heard : Nat → Int32) (ns1a_huts : Nat → Int32) (ns1a_minutes : Nat → Int32) (nc0f_voices : Int32) (nc0f_step : Int32) (nc0a_parts : Nat → Int32) (nc0a_heights : Nat → Int32) (nc1f_voices : Int32) (nc1f_step : Int32) (nc1a_parts : Nat → Int32) (nc1a_heights : Nat → Int32), tG na_tape nf_length nf_fault nf_place na_counts nl0f_huts nl0f_singers nl0f_villages nl0f_dams nl0f_echoes nl0f_deep nl0f_slide nl0a_heights nl0a_ladders nl0a_minutes nl0a_echoFrom nl0a_echoTo nl0a_homes nl0a_talls nl0a_known nl1f_huts nl1f_singers nl1f_villages nl1f_dams nl1f_echoes nl1f_deep nl1f_slide nl1a_heights nl1a_ladders nl1a_minutes nl1a_echoFrom nl1a_echoTo nl1a_homes nl1a_talls nl1a_known nv0f_deeds nv0a_kinds nv0a_firsts nv0a_seconds nv1f_deeds nv1a_kinds nv1a_firsts nv1a_seconds ns0f_facts ns0a_heard ns0a_huts ns0a_minutes ns1f_facts ns1a_heard ns1a_huts ns1a_minutes nc0f_voices nc0f_step nc0a_parts nc0a_heights nc1f_voices nc1f_step nc1a_parts nc1a_heights → tCP (tmk na_tape nf_length nf_fault nf_place na_counts nl0f_huts nl0f_singers nl0f_villages nl0f_dams nl0f_echoes nl0f_deep nl0f_slide nl0a_heights nl0a_ladders nl0a_minutes nl0a_echoFrom nl0a_echoTo nl0a_homes nl0a_talls nl0a_known nl1f_huts nl1f_singers nl1f_villages nl1f_dams nl1f_echoes nl1f_deep nl1f_slide nl1a_heights nl1a_ladders nl1a_minutes nl1a_echoFrom nl1a_echoTo nl1a_homes nl1a_talls nl1a_known nv0f_deeds nv0a_kinds nv0a_firsts nv0a_seconds nv1f_deeds nv1a_kinds nv1a_firsts nv1a_seconds ns0f_facts ns0a_heard ns0a_huts ns0a_minutes ns1f_facts ns1a_heard ns1a_huts ns1a_minutes nc0f_voices nc0f_step nc0a_parts nc0a_heights nc1f_voices nc1f_step nc1a_parts nc1a_heights) (tmk oa_tape of_length of_fault of_place oa_counts ol0f_huts ol0f_singers ol0f_villages ol0f_dams ol0f_echoes ol0f_deep ol0f_slide ol0a_heights ol0a_ladders ol0a_minutes ol0a_echoFrom ol0a_echoTo ol0a_homes ol0a_talls ol0a_known ol1f_huts ol1f_singers ol1f_villages ol1f_dams ol1f_echoes ol1f_deep ol1f_slide ol1a_heights ol1a_ladders ol1a_minutes ol1a_echoFrom ol1a_echoTo ol1a_homes ol1a_talls ol1a_known ov0f_deeds ov0a_kinds ov0a_firsts ov0a_seconds ov1f_deeds ov1a_kinds ov1a_firsts ov1a_seconds os0f_facts os0a_heard os0a_huts os0a_minutes os1f_facts os1a_heard os1a_huts os1a_minutes oc0f_voices oc0f_step oc0a_parts oc0a_heights oc1f_voices oc1f_step oc1a_parts oc1a_heights) → post na_tape nf_length nf_fault nf_place na_counts nl0f_huts nl0f_singers nl0f_villages nl0f_dams nl0f_echoes nl0f_deep nl0f_slide nl0a_heights nl0a_ladders nl0a_minutes nl0a_echoFrom nl0a_echoTo nl0a_homes nl0a_talls nl0a_known nl1f_huts nl1f_singers nl1f_villages nl1f_dams nl1f_echoes nl1f_deep nl1f_slide nl1a_heights nl1a_ladders nl1a_minutes nl1a_echoFrom nl1a_echoTo nl1a_homes nl1a_talls nl1a_known nv0f_deeds nv0a_kinds nv0a_firsts nv0a_seconds nv1f_deeds nv1a_kinds nv1a_firsts nv1a_seconds ns0f_facts ns0a_heard ns0a_huts ns0a_minutes ns1f_facts ns1a_heard ns1a_huts ns1a_minutes nc0f_voices nc0f_step nc0a_parts nc0a_heights nc1f_voices nc1f_step nc1a_parts nc1a_heights) : q_wtt_X9_copyFrom_47_0 a_tape f_length f_fault f_place a_counts l0f_huts l0f_singers l0f_villages l0f_dams l0f_echoes l0f_deep l0f_slide l0a_heights l0a_ladders l0a_minutes l0a_echoFrom l0a_echoTo l0a_homes l0a_talls l0a_known l1f_huts l1f_singers l1f_villages l1f_dams l1f_echoes l1f_deep l1f_slide l1a_heights l1a_ladders l1a_minutes l1a_echoFrom l1a_echoTo l1a_homes l1a_talls l1a_known v0f_deeds v0a_kinds v0a_firsts v0a_seconds v1f_deeds v1a_kinds v1a_firsts v1a_seconds s0f_facts s0a_heard s0a_huts s0a_minutes s1f_facts s1a_heard s1a_huts s1a_minutes c0f_voices c0f_step c0a_parts c0a_heights c1f_voices c1f_step c1a_parts c1a_heights oa_tape of_length of_fault of_place oa_counts ol0f_huts ol0f_singers ol0f_villages ol0f_dams ol0f_echoes ol0f_deep ol0f_slide ol0a_heights ol0a_ladders ol0a_minutes ol0a_echoFrom ol0a_echoTo ol0a_homes ol0a_talls ol0a_known ol1f_huts ol1f_singers ol1f_villages ol1f_dams ol1f_echoes ol1f_deep ol1f_slide ol1a_heights ol1a_ladders ol1a_minutes ol1a_echoFrom ol1a_echoTo ol1a_homes ol1a_talls ol1a_known ov0f_deeds ov0a_kinds ov0a_firsts ov0a_seconds ov1f_deeds ov1a_kinds ov1a_firsts ov1a_seconds os0f_facts os0a_heard os0a_huts os0a_minutes os1f_facts os1a_heard os1a_huts os1a_minutes oc0f_voices oc0f_step oc0a_parts oc0a_heights oc1f_voices oc1f_step oc1a_parts oc1a_heights post := by
  obtain ⟨t_a_tape, t_f_length, t_f_fault, t_f_place, t_a_counts, t_l0f_huts, t_l0f_singers, t_l0f_villages, t_l0f_dams, t_l0f_echoes, t_l0f_deep, t_l0f_slide, t_l0a_heights, t_l0a_ladders, t_l0a_minutes, t_l0a_echoFrom, t_l0a_echoTo, t_l0a_homes, t_l0a_talls, t_l0a_known, t_l1f_huts, t_l1f_singers, t_l1f_villages, t_l1f_dams, t_l1f_echoes, t_l1f_deep, t_l1f_slide, t_l1a_heights, t_l1a_ladders, t_l1a_minutes, t_l1a_echoFrom, t_l1a_echoTo, t_l1a_homes, t_l1a_talls, t_l1a_known, t_v0f_deeds, t_v0a_kinds, t_v0a_firsts, t_v0a_seconds, t_v1f_deeds, t_v1a_kinds, t_v1a_firsts, t_v1a_seconds, t_s0f_facts, t_s0a_heard, t_s0a_huts, t_s0a_minutes, t_s1f_facts, t_s1a_heard, t_s1a_huts, t_s1a_minutes, t_c0f_voices, t_c0f_step, t_c0a_parts, t_c0a_heights, t_c1f_voices, t_c1f_step, t_c1a_parts, t_c1a_heights⟩ := hT
  obtain ⟨o_a_tape, o_f_length, o_f_fault, o_f_place, o_a_counts, o_l0f_huts, o_l0f_singers, o_l0f_villages, o_l0f_dams, o_l0f_echoes, o_l0f_deep, o_l0f_slide, o_l0a_heights, o_l0a_ladders, o_l0a_minutes, o_l0a_echoFrom, o_l0a_echoTo, o_l0a_homes, o_l0a_talls, o_l0a_known, o_l1f_huts, o_l1f_singers, o_l1f_villages, o_l1f_dams, o_l1f_echoes, o_l1f_deep, o_l1f_slide, o_l1a_heights, o_l1a_ladders, o_l1a_minutes, o_l1a_echoFrom, o_l1a_echoTo, o_l1a_homes, o_l1a_talls, o_l1a_known, o_v0f_deeds, o_v0a_kinds, o_v0a_firsts, o_v0a_seconds, o_v1f_deeds, o_v1a_kinds, o_v1a_firsts, o_v1a_seconds, o_s0f_facts, o_s0a_heard, o_s0a_huts, o_s0a_minutes, o_s1f_facts, o_s1a_heard, o_s1a_huts, o_s1a_minutes, o_c0f_voices, o_c0f_step, o_c0a_parts, o_c0a_heights, o_c1f_voices, o_c1f_step, o_c1a_parts, o_c1a_heights⟩ := hO
  refine cj_q_wtt_X9_copyFrom_47_0 (post_1 := fun na_tape nf_length nf_fault nf_place na_counts nl0f_huts nl0f_singers nl0f_villages nl0f_dams nl0f_echoes nl0f_deep nl0f_slide nl0a_heights nl0a_ladders nl0a_minutes nl0a_echoFrom nl0a_echoTo nl0a_homes nl0a_talls nl0a_known nl1f_huts nl1f_singers nl1f_villages nl1f_dams nl1f_echoes nl1f_deep nl1f_slide nl1a_heights nl1a_ladders nl1a_minutes nl1a_echoFrom nl1a_echoTo nl1a_homes nl1a_talls nl1a_known nv0f_deeds nv0a_kinds nv0a_firsts nv0a_seconds nv1f_deeds nv1a_kinds nv1a_firsts nv1a_seconds ns0f_facts ns0a_heard ns0a_huts ns0a_minutes ns1f_facts ns1a_heard ns1a_huts ns1a_minutes nc0f_voices nc0f_step nc0a_parts nc0a_heights nc1f_voices nc1f_step nc1a_parts nc1a_heights => tG na_tape nf_length nf_fault nf_place na_counts nl0f_huts nl0f_singers nl0f_villages nl0f_dams nl0f_echoes nl0f_deep nl0f_slide nl0a_heights nl0a_ladders nl0a_minutes nl0a_echoFrom nl0a_echoTo nl0a_homes nl0a_talls nl0a_known nl1f_huts nl1f_singers nl1f_villages nl1f_dams nl1f_echoes nl1f_deep nl1f_slide nl1a_heights nl1a_ladders nl1a_minutes nl1a_echoFrom nl1a_echoTo nl1a_homes nl1a_talls nl1a_known nv0f_deeds nv0a_kinds nv0a_firsts nv0a_seconds nv1f_deeds nv1a_kinds nv1a_firsts nv1a_seconds ns0f_facts ns0a_heard ns0a_huts ns0a_minutes ns1f_facts ns1a_heard ns1a_huts ns1a_minutes nc0f_voices nc0f_step nc0a_parts nc0a_heights nc1f_voices nc1f_step nc1a_parts nc1a_heights) (post_2 := fun na_tape nf_length nf_fault nf_place na_counts nl0f_huts nl0f_singers nl0f_villages nl0f_dams nl0f_echoes nl0f_deep nl0f_slide nl0a_heights nl0a_ladders nl0a_minutes nl0a_echoFrom nl0a_echoTo nl0a_homes nl0a_talls nl0a_known nl1f_huts nl1f_singers nl1f_villages nl1f_dams nl1f_echoes nl1f_deep nl1f_slide nl1a_heights nl1a_ladders nl1a_minutes nl1a_echoFrom nl1a_echoTo nl1a_homes nl1a_talls nl1a_known nv0f_deeds nv0a_kinds nv0a_firsts nv0a_seconds nv1f_deeds nv1a_kinds nv1a_firsts nv1a_seconds ns0f_facts ns0a_heard ns0a_huts ns0a_minutes ns1f_facts ns1a_heard ns1a_huts ns1a_minutes nc0f_voices nc0f_step nc0a_parts nc0a_heights nc1f_voices nc1f_step nc1a_parts nc1a_heights => tCP (tmk na_tape nf_length nf_fault nf_place na_counts nl0f_huts nl0f_singers nl0f_villages nl0f_dams nl0f_echoes nl0f_deep nl0f_slide nl0a_heights nl0a_ladders nl0a_minutes nl0a_echoFrom nl0a_echoTo nl0a_homes nl0a_talls nl0a_known nl1f_huts nl1f_singers nl1f_villages nl1f_dams nl1f_echoes nl1f_deep nl1f_slide nl1a_heights nl1a_ladders nl1a_minutes nl1a_echoFrom nl1a_echoTo nl1a_homes nl1a_talls nl1a_known nv0f_deeds nv0a_kinds nv0a_firsts nv0a_seconds nv1f_deeds nv1a_kinds nv1a_firsts nv1a_seconds ns0f_facts ns0a_heard ns0a_huts ns0a_minutes ns1f_facts ns1a_heard ns1a_huts ns1a_minutes nc0f_voices nc0f_step nc0a_parts nc0a_heights nc1f_voices nc1f_step nc1a_parts nc1a_heights) (tmk oa_tape of_length of_fault of_place oa_counts ol0f_huts ol0f_singers ol0f_villages ol0f_dams ol0f_echoes ol0f_deep ol0f_slide ol0a_heights ol0a_ladders ol0a_minutes ol0a_echoFrom ol0a_echoTo ol0a_homes ol0a_talls ol0a_known ol1f_huts ol1f_singers ol1f_villages ol1f_dams ol1f_echoes ol1f_deep ol1f_slide ol1a_heights ol1a_ladders ol1a_minutes ol1a_echoFrom ol1a_echoTo ol1a_homes ol1a_talls ol1a_known ov0f_deeds ov0a_kinds ov0a_firsts ov0a_seconds ov1f_deeds ov1a_kinds ov1a_firsts ov1a_seconds os0f_facts os0a_heard os0a_huts os0a_minutes os1f_facts os1a_heard os1a_huts os1a_minutes oc0f_voices oc0f_step oc0a_parts oc0a_heights oc1f_voices oc1f_step oc1a_parts oc1a_heights)) (fun na_tape nf_length nf_fault nf_place na_counts nl0f_huts nl0f_singers nl0f_villages nl0f_dams nl0f_echoes nl0f_deep nl0f_slide nl0a_heights nl0a_ladders nl0a_minutes nl0a_echoFrom nl0a_echoTo nl0a_homes nl0a_talls nl0a_known nl1f_huts nl1f_singers nl1f_villages nl1f_dams nl1f_echoes nl1f_deep nl1f_slide nl1a_heights nl1a_ladders nl1a_minutes nl1a_echoFrom nl1a_echoTo nl1a_homes nl1a_talls nl1a_known nv0f_deeds nv0a_kinds nv0a_firsts nv0a_seconds nv1f_deeds nv1a_kinds nv1a_firsts nv1a_seconds ns0f_facts ns0a_heard ns0a_huts ns0a_minutes ns1f_facts ns1a_heard ns1a_huts ns1a_minutes nc0f_voices nc0f_step nc0a_parts nc0a_heights nc1f_voices nc1f_step nc1a_parts nc1a_heights a b => hpost na_tape nf_length nf_fault nf_place na_counts nl0f_huts nl0f_singers nl0f_villages nl0f_dams nl0f_echoes nl0f_deep nl0f_slide nl0a_heights nl0a_ladders nl0a_minutes nl0a_echoFrom nl0a_echoTo nl0a_homes nl0a_talls nl0a_known nl1f_huts nl1f_singers nl1f_villages nl1f_dams nl1f_echoes nl1f_deep nl1f_slide nl1a_heights nl1a_ladders nl1a_minutes nl1a_echoFrom nl1a_echoTo nl1a_homes nl1a_talls nl1a_known nv0f_deeds nv0a_kinds nv0a_firsts nv0a_seconds nv1f_deeds nv1a_kinds nv1a_firsts nv1a_seconds ns0f_facts ns0a_heard ns0a_huts ns0a_minutes ns1f_facts ns1a_heard ns1a_huts ns1a_minutes nc0f_voices nc0f_step nc0a_parts nc0a_heights nc1f_voices nc1f_step nc1a_parts nc1a_heights a b) ?_ (e_cp o_f_length o_a_tape o_l0f_huts o_l0f_singers o_l0f_echoes o_v0f_deeds o_s0f_facts o_c0f_voices o_l1f_huts o_l1f_singers o_l1f_echoes o_v1f_deeds o_s1f_facts o_c1f_voices (fun _ _ _ _ _ _ _ _ _ _ _ _ _ _ _ _ _ _ _ _ _ _ _ _ _ _ _ _ _ _ _ _ _ _ _ _ _ _ _ _ _ _ _ _ _ _ _ _ _ _ _ _ _ _ _ _ _ _ _ h => h))
  exact s_wtt_X9_copyFrom_47_0 t_a_tape t_f_length t_f_fault t_f_place t_a_counts t_l0f_huts t_l0f_singers t_l0f_villages t_l0f_dams t_l0f_echoes t_l0f_deep t_l0f_slide t_l0a_heights t_l0a_ladders t_l0a_minutes t_l0a_echoFrom t_l0a_echoTo t_l0a_homes t_l0a_talls t_l0a_known t_l1f_huts t_l1f_singers t_l1f_villages t_l1f_dams t_l1f_echoes t_l1f_deep t_l1f_slide t_l1a_heights t_l1a_ladders t_l1a_minutes t_l1a_echoFrom t_l1a_echoTo t_l1a_homes t_l1a_talls t_l1a_known t_v0f_deeds t_v0a_kinds t_v0a_firsts t_v0a_seconds t_v1f_deeds t_v1a_kinds t_v1a_firsts t_v1a_seconds t_s0f_facts t_s0a_heard t_s0a_huts t_s0a_minutes t_s1f_facts t_s1a_heard t_s1a_huts t_s1a_minutes t_c0f_voices t_c0f_step t_c0a_parts t_c0a_heights t_c1f_voices t_c1f_step t_c1a_parts t_c1a_heights o_a_tape o_f_length o_f_fault o_f_place o_a_counts o_l0f_huts o_l0f_singers o_l0f_villages o_l0f_dams o_l0f_echoes o_l0f_deep o_l0f_slide o_l0a_heights o_l0a_ladders o_l0a_minutes o_l0a_echoFrom o_l0a_echoTo o_l0a_homes o_l0a_talls o_l0a_known o_l1f_huts o_l1f_singers o_l1f_villages o_l1f_dams o_l1f_echoes o_l1f_deep o_l1f_slide o_l1a_heights o_l1a_ladders o_l1a_minutes o_l1a_echoFrom o_l1a_echoTo o_l1a_homes o_l1a_talls o_l1a_known o_v0f_deeds o_v0a_kinds o_v0a_firsts o_v0a_seconds o_v1f_deeds o_v1a_kinds o_v1a_firsts o_v1a_seconds o_s0f_facts o_s0a_heard o_s0a_huts o_s0a_minutes o_s1f_facts o_s1a_heard o_s1a_huts o_s1a_minutes o_c0f_voices o_c0f_step o_c0a_parts o_c0a_heights o_c1f_voices o_c1f_step o_c1a_parts o_c1a_heights (fun na_tape nf_length nf_fault nf_place na_counts nl0f_huts nl0f_singers nl0f_villages nl0f_dams nl0f_echoes nl0f_deep nl0f_slide nl0a_heights nl0a_ladders nl0a_minutes nl0a_echoFrom nl0a_echoTo nl0a_homes nl0a_talls nl0a_known nl1f_huts nl1f_singers nl1f_villages nl1f_dams nl1f_echoes nl1f_deep nl1f_slide nl1a_heights nl1a_ladders nl1a_minutes nl1a_echoFrom nl1a_echoTo nl1a_homes nl1a_talls nl1a_known nv0f_deeds nv0a_kinds nv0a_firsts nv0a_seconds nv1f_deeds nv1a_kinds nv1a_firsts nv1a_seconds ns0f_facts ns0a_heard ns0a_huts ns0a_minutes ns1f_facts ns1a_heard ns1a_huts ns1a_minutes nc0f_voices nc0f_step nc0a_parts nc0a_heights nc1f_voices nc1f_step nc1a_parts nc1a_heights z_a_tape z_f_length z_f_fault z_f_place z_a_counts z_l0f_huts z_l0f_singers z_l0f_villages z_l0f_dams z_l0f_echoes z_l0f_deep z_l0f_slide z_l0a_heights z_l0a_ladders z_l0a_minutes z_l0a_echoFrom z_l0a_echoTo z_l0a_homes z_l0a_talls z_l0a_known z_l1f_huts z_l1f_singers z_l1f_villages z_l1f_dams z_l1f_echoes z_l1f_deep z_l1f_slide z_l1a_heights z_l1a_ladders z_l1a_minutes z_l1a_echoFrom z_l1a_echoTo z_l1a_homes z_l1a_talls z_l1a_known z_v0f_deeds z_v0a_kinds z_v0a_firsts z_v0a_seconds z_v1f_deeds z_v1a_kinds z_v1a_firsts z_v1a_seconds z_s0f_facts z_s0a_heard z_s0a_huts z_s0a_minutes z_s1f_facts z_s1a_heard z_s1a_huts z_s1a_minutes z_c0f_voices z_c0f_step z_c0a_parts z_c0a_heights z_c1f_voices z_c1f_step z_c1a_parts z_c1a_heights => (show tG na_tape nf_length nf_fault nf_place na_counts nl0f_huts nl0f_singers nl0f_villages nl0f_dams nl0f_echoes nl0f_deep nl0f_slide nl0a_heights nl0a_ladders nl0a_minutes nl0a_echoFrom nl0a_echoTo nl0a_homes nl0a_talls nl0a_known nl1f_huts nl1f_singers nl1f_villages nl1f_dams nl1f_echoes nl1f_deep nl1f_slide nl1a_heights nl1a_ladders nl1a_minutes nl1a_echoFrom nl1a_echoTo nl1a_homes nl1a_talls nl1a_known nv0f_deeds nv0a_kinds nv0a_firsts nv0a_seconds nv1f_deeds nv1a_kinds nv1a_firsts nv1a_seconds ns0f_facts ns0a_heard ns0a_huts ns0a_minutes ns1f_facts ns1a_heard ns1a_huts ns1a_minutes nc0f_voices nc0f_step nc0a_parts nc0a_heights nc1f_voices nc1f_step nc1a_parts nc1a_heights from ⟨z_a_tape, z_f_length, z_f_fault, z_f_place, z_a_counts, z_l0f_huts, z_l0f_singers, z_l0f_villages, z_l0f_dams, z_l0f_echoes, z_l0f_deep, z_l0f_slide, z_l0a_heights, z_l0a_ladders, z_l0a_minutes, z_l0a_echoFrom, z_l0a_echoTo, z_l0a_homes, z_l0a_talls, z_l0a_known, z_l1f_huts, z_l1f_singers, z_l1f_villages, z_l1f_dams, z_l1f_echoes, z_l1f_deep, z_l1f_slide, z_l1a_heights, z_l1a_ladders, z_l1a_minutes, z_l1a_echoFrom, z_l1a_echoTo, z_l1a_homes, z_l1a_talls, z_l1a_known, z_v0f_deeds, z_v0a_kinds, z_v0a_firsts, z_v0a_seconds, z_v1f_deeds, z_v1a_kinds, z_v1a_firsts, z_v1a_seconds, z_s0f_facts, z_s0a_heard, z_s0a_huts, z_s0a_minutes, z_s1f_facts, z_s1a_heard, z_s1a_huts, z_s1a_minutes, z_c0f_voices, z_c0f_step, z_c0a_parts, z_c0a_heights, z_c1f_voices, z_c1f_step, z_c1a_parts, z_c1a_heights⟩))

set_option maxRecDepth 40000 in
set_option maxHeartbeats 4000000 in
theorem im_tail3 {p : Program} {l : Launch} {e : Env} {s : State} {m : MethodId} {args : Array Value} {below : List Frame} {meth : Method} {c : Code} {H : Heap} {locs : List Loc} {ls : Array Slot} {E : zE} {qx qi kc ks : Nat} {A : Nat → Prop} {x1 : Int32} {ta_tape : Nat → Int32} {tf_length : Int32} {tf_fault : Int32} {tf_place : Int32} {ta_counts : Nat → Int32} {tl0f_huts : Int32} {tl0f_singers : Int32} {tl0f_villages : Int32} {tl0f_dams : Int32} {tl0f_echoes : Int32} {tl0f_deep : Int32} {tl0f_slide : Int32} {tl0a_heights : Nat → Int32} {tl0a_ladders : Nat → Int32} {tl0a_minutes : Nat → Int32} {tl0a_echoFrom : Nat → Int32} {tl0a_echoTo : Nat → Int32} {tl0a_homes : Nat → Int32} {tl0a_talls : Nat → Int32} {tl0a_known : Nat → Int32} {tl1f_huts : Int32} {tl1f_singers : Int32} {tl1f_villages : Int32} {tl1f_dams : Int32} {tl1f_echoes : Int32} {tl1f_deep : Int32} {tl1f_slide : Int32} {tl1a_heights : Nat → Int32} {tl1a_ladders : Nat → Int32} {tl1a_minutes : Nat → Int32} {tl1a_echoFrom : Nat → Int32} {tl1a_echoTo : Nat → Int32} {tl1a_homes : Nat → Int32} {tl1a_talls : Nat → Int32} {tl1a_known : Nat → Int32} {tv0f_deeds : Int32} {tv0a_kinds : Nat → Int32} {tv0a_firsts : Nat → Int32} {tv0a_seconds : Nat → Int32} {tv1f_deeds : Int32} {tv1a_kinds : Nat → Int32} {tv1a_firsts : Nat → Int32} {tv1a_seconds : Nat → Int32} {ts0f_facts : Int32} {ts0a_heard : Nat → Int32} {ts0a_huts : Nat → Int32} {ts0a_minutes : Nat → Int32} {ts1f_facts : Int32} {ts1a_heard : Nat → Int32} {ts1a_huts : Nat → Int32} {ts1a_minutes : Nat → Int32} {tc0f_voices : Int32} {tc0f_step : Int32} {tc0a_parts : Nat → Int32} {tc0a_heights : Nat → Int32} {tc1f_voices : Int32} {tc1f_step : Int32} {tc1a_parts : Nat → Int32} {tc1a_heights : Nat → Int32} {m_images : Nat → Option Nat} {rlf_huts : Int32} {rlf_singers : Int32} {rlf_villages : Int32} {rlf_dams : Int32} {rlf_echoes : Int32} {rlf_deep : Int32} {rlf_slide : Int32} {rla_heights : Nat → Int32} {rla_ladders : Nat → Int32} {rla_minutes : Nat → Int32} {rla_echoFrom : Nat → Int32} {rla_echoTo : Nat → Int32} {rla_homes : Nat → Int32} {rla_talls : Nat → Int32} {rla_known : Nat → Int32} {rvf_deeds : Int32} {rva_kinds : Nat → Int32} {rva_firsts : Nat → Int32} {rva_seconds : Nat → Int32} {rsf_facts : Int32} {rsa_heard : Nat → Int32} {rsa_huts : Nat → Int32} {rsa_minutes : Nat → Int32} {rcf_voices : Int32} {rcf_step : Int32} {rca_parts : Nat → Int32} {rca_heights : Nat → Int32} {rf_fault : Int32} {rf_faultPlace : Int32} {ra_numbers : Nat → Int32} {ra_tape : Nat → Int32} {rf_length : Int32} {rf_behind : Int32} {rf_kind : Int32} {rf_first : Int32} {rf_value : Int32} {rf_hutsToldOf : Int32} {rf_singersToldOf : Int32} {nf_minute : Int32} {nf_avalanches : Int32} {nf_begun : Int32} {nf_climbed : Int32} {nf_seed : Int32} {na_huts : Nat → Int32} {na_known : Nat → Int32} {na_levels : Nat → Int32} {na_snow : Nat → Int32} {na_open : Nat → Int32} {pa_heard : Nat → Int32} {pa_walked : Nat → Int32} {pa_total : Nat → Int32} {pa_longest : Nat → Int32} {pa_next : Nat → Int32} {pa_cover : Nat → Int32} {pa_now : Nat → Int32} {pa_then : Nat → Int32} {ko_stands : Option Nat} {ka_gaps : Nat → Int32} {ka_behind : Nat → Int32} {ba_less : Nat → Int32} {ba_full : Nat → Int32} {ia_tape : Nat → Int32} {if_length : Int32} {if_fault : Int32} {if_place : Int32} {ia_counts : Nat → Int32} {il0f_huts : Int32} {il0f_singers : Int32} {il0f_villages : Int32} {il0f_dams : Int32} {il0f_echoes : Int32} {il0f_deep : Int32} {il0f_slide : Int32} {il0a_heights : Nat → Int32} {il0a_ladders : Nat → Int32} {il0a_minutes : Nat → Int32} {il0a_echoFrom : Nat → Int32} {il0a_echoTo : Nat → Int32} {il0a_homes : Nat → Int32} {il0a_talls : Nat → Int32} {il0a_known : Nat → Int32} {il1f_huts : Int32} {il1f_singers : Int32} {il1f_villages : Int32} {il1f_dams : Int32} {il1f_echoes : Int32} {il1f_deep : Int32} {il1f_slide : Int32} {il1a_heights : Nat → Int32} {il1a_ladders : Nat → Int32} {il1a_minutes : Nat → Int32} {il1a_echoFrom : Nat → Int32} {il1a_echoTo : Nat → Int32} {il1a_homes : Nat → Int32} {il1a_talls : Nat → Int32} {il1a_known : Nat → Int32} {iv0f_deeds : Int32} {iv0a_kinds : Nat → Int32} {iv0a_firsts : Nat → Int32} {iv0a_seconds : Nat → Int32} {iv1f_deeds : Int32} {iv1a_kinds : Nat → Int32} {iv1a_firsts : Nat → Int32} {iv1a_seconds : Nat → Int32} {is0f_facts : Int32} {is0a_heard : Nat → Int32} {is0a_huts : Nat → Int32} {is0a_minutes : Nat → Int32} {is1f_facts : Int32} {is1a_heard : Nat → Int32} {is1a_huts : Nat → Int32} {is1a_minutes : Nat → Int32} {ic0f_voices : Int32} {ic0f_step : Int32} {ic0a_parts : Nat → Int32} {ic0a_heights : Nat → Int32} {ic1f_voices : Int32} {ic1f_step : Int32} {ic1a_parts : Nat → Int32} {ic1a_heights : Nat → Int32} (zc : zC p s m args meth c cX10_image 2 RX10 (some .boolean)) (hK : zK E s) (hM : wxiW E qx qi ta_tape tf_length tf_fault tf_place ta_counts tl0f_huts tl0f_singers tl0f_villages tl0f_dams tl0f_echoes tl0f_deep tl0f_slide tl0a_heights tl0a_ladders tl0a_minutes tl0a_echoFrom tl0a_echoTo tl0a_homes tl0a_talls tl0a_known tl1f_huts tl1f_singers tl1f_villages tl1f_dams tl1f_echoes tl1f_deep tl1f_slide tl1a_heights tl1a_ladders tl1a_minutes tl1a_echoFrom tl1a_echoTo tl1a_homes tl1a_talls tl1a_known tv0f_deeds tv0a_kinds tv0a_firsts tv0a_seconds tv1f_deeds tv1a_kinds tv1a_firsts tv1a_seconds ts0f_facts ts0a_heard ts0a_huts ts0a_minutes ts1f_facts ts1a_heard ts1a_huts ts1a_minutes tc0f_voices tc0f_step tc0a_parts tc0a_heights tc1f_voices tc1f_step tc1a_parts tc1a_heights m_images rlf_huts rlf_singers rlf_villages rlf_dams rlf_echoes rlf_deep rlf_slide rla_heights rla_ladders rla_minutes rla_echoFrom rla_echoTo rla_homes rla_talls rla_known rvf_deeds rva_kinds rva_firsts rva_seconds rsf_facts rsa_heard rsa_huts rsa_minutes rcf_voices rcf_step rca_parts rca_heights rf_fault rf_faultPlace ra_numbers ra_tape rf_length rf_behind rf_kind rf_first rf_value rf_hutsToldOf rf_singersToldOf nf_minute nf_avalanches nf_begun nf_climbed nf_seed na_huts na_known na_levels na_snow na_open pa_heard pa_walked pa_total pa_longest pa_next pa_cover pa_now pa_then ko_stands ka_gaps ka_behind ba_less ba_full ia_tape if_length if_fault if_place ia_counts il0f_huts il0f_singers il0f_villages il0f_dams il0f_echoes il0f_deep il0f_slide il0a_heights il0a_ladders il0a_minutes il0a_echoFrom il0a_echoTo il0a_homes il0a_talls il0a_known il1f_huts il1f_singers il1f_villages il1f_dams il1f_echoes il1f_deep il1f_slide il1a_heights il1a_ladders il1a_minutes il1a_echoFrom il1a_echoTo il1a_homes il1a_talls il1a_known iv0f_deeds iv0a_kinds iv0a_firsts iv0a_seconds iv1f_deeds iv1a_kinds iv1a_firsts iv1a_seconds is0f_facts is0a_heard is0a_huts is0a_minutes is1f_facts is1a_heard is1a_huts is1a_minutes ic0f_voices ic0f_step ic0a_parts ic0a_heights ic1f_voices ic1f_step ic1a_parts ic1a_heights H) (hT : tG ta_tape tf_length tf_fault tf_place ta_counts tl0f_huts tl0f_singers tl0f_villages tl0f_dams tl0f_echoes tl0f_deep tl0f_slide tl0a_heights tl0a_ladders tl0a_minutes tl0a_echoFrom tl0a_echoTo tl0a_homes tl0a_talls tl0a_known tl1f_huts tl1f_singers tl1f_villages tl1f_dams tl1f_echoes tl1f_deep tl1f_slide tl1a_heights tl1a_ladders tl1a_minutes tl1a_echoFrom tl1a_echoTo tl1a_homes tl1a_talls tl1a_known tv0f_deeds tv0a_kinds tv0a_firsts tv0a_seconds tv1f_deeds tv1a_kinds tv1a_firsts tv1a_seconds ts0f_facts ts0a_heard ts0a_huts ts0a_minutes ts1f_facts ts1a_heard ts1a_huts ts1a_minutes tc0f_voices tc0f_step tc0a_parts tc0a_heights tc1f_voices tc1f_step tc1a_parts tc1a_heights) (hI : tG ia_tape if_length if_fault if_place ia_counts il0f_huts il0f_singers il0f_villages il0f_dams il0f_echoes il0f_deep il0f_slide il0a_heights il0a_ladders il0a_minutes il0a_echoFrom il0a_echoTo il0a_homes il0a_talls il0a_known il1f_huts il1f_singers il1f_villages il1f_dams il1f_echoes il1f_deep il1f_slide il1a_heights il1a_ladders il1a_minutes il1a_echoFrom il1a_echoTo il1a_homes il1a_talls il1a_known iv0f_deeds iv0a_kinds iv0a_firsts iv0a_seconds iv1f_deeds iv1a_kinds iv1a_firsts iv1a_seconds is0f_facts is0a_heard is0a_huts is0a_minutes is1f_facts is1a_heard is1a_huts is1a_minutes ic0f_voices ic0f_step ic0a_parts ic0a_heights ic1f_voices ic1f_step ic1a_parts ic1a_heights) (hin : vp_in x1 3) (hm : m_images (Int32.toNatClampNeg x1) = some qi) (hS : va_S A s.heap H locs) (hsub : ∀ q, wttA qi (qx + 1) q → A q) (hl : lv_has ls 2 [(0, .ref qx), (1, .int x1)]) :
    W p l e (rmI kc ks) s m args below meth c H locs kc ks (MQ below (zQi (S := Unit) (fun r _ => r = 1) (fun _ H => ∃ na_tape nf_length nf_fault nf_place na_counts nl0f_huts nl0f_singers nl0f_villages nl0f_dams nl0f_echoes nl0f_deep nl0f_slide nl0a_heights nl0a_ladders nl0a_minutes nl0a_echoFrom nl0a_echoTo nl0a_homes nl0a_talls nl0a_known nl1f_huts nl1f_singers nl1f_villages nl1f_dams nl1f_echoes nl1f_deep nl1f_slide nl1a_heights nl1a_ladders nl1a_minutes nl1a_echoFrom nl1a_echoTo nl1a_homes nl1a_talls nl1a_known nv0f_deeds nv0a_kinds nv0a_firsts nv0a_seconds nv1f_deeds nv1a_kinds nv1a_firsts nv1a_seconds ns0f_facts ns0a_heard ns0a_huts ns0a_minutes ns1f_facts ns1a_heard ns1a_huts ns1a_minutes nc0f_voices nc0f_step nc0a_parts nc0a_heights nc1f_voices nc1f_step nc1a_parts nc1a_heights, tG na_tape nf_length nf_fault nf_place na_counts nl0f_huts nl0f_singers nl0f_villages nl0f_dams nl0f_echoes nl0f_deep nl0f_slide nl0a_heights nl0a_ladders nl0a_minutes nl0a_echoFrom nl0a_echoTo nl0a_homes nl0a_talls nl0a_known nl1f_huts nl1f_singers nl1f_villages nl1f_dams nl1f_echoes nl1f_deep nl1f_slide nl1a_heights nl1a_ladders nl1a_minutes nl1a_echoFrom nl1a_echoTo nl1a_homes nl1a_talls nl1a_known nv0f_deeds nv0a_kinds nv0a_firsts nv0a_seconds nv1f_deeds nv1a_kinds nv1a_firsts nv1a_seconds ns0f_facts ns0a_heard ns0a_huts ns0a_minutes ns1f_facts ns1a_heard ns1a_huts ns1a_minutes nc0f_voices nc0f_step nc0a_parts nc0a_heights nc1f_voices nc1f_step nc1a_parts nc1a_heights ∧ tCP (tmk na_tape nf_length nf_fault nf_place na_counts nl0f_huts nl0f_singers nl0f_villages nl0f_dams nl0f_echoes nl0f_deep nl0f_slide nl0a_heights nl0a_ladders nl0a_minutes nl0a_echoFrom nl0a_echoTo nl0a_homes nl0a_talls nl0a_known nl1f_huts nl1f_singers nl1f_villages nl1f_dams nl1f_echoes nl1f_deep nl1f_slide nl1a_heights nl1a_ladders nl1a_minutes nl1a_echoFrom nl1a_echoTo nl1a_homes nl1a_talls nl1a_known nv0f_deeds nv0a_kinds nv0a_firsts nv0a_seconds nv1f_deeds nv1a_kinds nv1a_firsts nv1a_seconds ns0f_facts ns0a_heard ns0a_huts ns0a_minutes ns1f_facts ns1a_heard ns1a_huts ns1a_minutes nc0f_voices nc0f_step nc0a_parts nc0a_heights nc1f_voices nc1f_step nc1a_parts nc1a_heights) (tmk ta_tape tf_length tf_fault tf_place ta_counts tl0f_huts tl0f_singers tl0f_villages tl0f_dams tl0f_echoes tl0f_deep tl0f_slide tl0a_heights tl0a_ladders tl0a_minutes tl0a_echoFrom tl0a_echoTo tl0a_homes tl0a_talls tl0a_known tl1f_huts tl1f_singers tl1f_villages tl1f_dams tl1f_echoes tl1f_deep tl1f_slide tl1a_heights tl1a_ladders tl1a_minutes tl1a_echoFrom tl1a_echoTo tl1a_homes tl1a_talls tl1a_known tv0f_deeds tv0a_kinds tv0a_firsts tv0a_seconds tv1f_deeds tv1a_kinds tv1a_firsts tv1a_seconds ts0f_facts ts0a_heard ts0a_huts ts0a_minutes ts1f_facts ts1a_heard ts1a_huts ts1a_minutes tc0f_voices tc0f_step tc0a_parts tc0a_heights tc1f_voices tc1f_step tc1a_parts tc1a_heights) ∧ wxiW E qx qi ta_tape tf_length tf_fault tf_place ta_counts tl0f_huts tl0f_singers tl0f_villages tl0f_dams tl0f_echoes tl0f_deep tl0f_slide tl0a_heights tl0a_ladders tl0a_minutes tl0a_echoFrom tl0a_echoTo tl0a_homes tl0a_talls tl0a_known tl1f_huts tl1f_singers tl1f_villages tl1f_dams tl1f_echoes tl1f_deep tl1f_slide tl1a_heights tl1a_ladders tl1a_minutes tl1a_echoFrom tl1a_echoTo tl1a_homes tl1a_talls tl1a_known tv0f_deeds tv0a_kinds tv0a_firsts tv0a_seconds tv1f_deeds tv1a_kinds tv1a_firsts tv1a_seconds ts0f_facts ts0a_heard ts0a_huts ts0a_minutes ts1f_facts ts1a_heard ts1a_huts ts1a_minutes tc0f_voices tc0f_step tc0a_parts tc0a_heights tc1f_voices tc1f_step tc1a_parts tc1a_heights m_images rlf_huts rlf_singers rlf_villages rlf_dams rlf_echoes rlf_deep rlf_slide rla_heights rla_ladders rla_minutes rla_echoFrom rla_echoTo rla_homes rla_talls rla_known rvf_deeds rva_kinds rva_firsts rva_seconds rsf_facts rsa_heard rsa_huts rsa_minutes rcf_voices rcf_step rca_parts rca_heights rf_fault rf_faultPlace ra_numbers ra_tape rf_length rf_behind rf_kind rf_first rf_value rf_hutsToldOf rf_singersToldOf nf_minute nf_avalanches nf_begun nf_climbed nf_seed na_huts na_known na_levels na_snow na_open pa_heard pa_walked pa_total pa_longest pa_next pa_cover pa_now pa_then ko_stands ka_gaps ka_behind ba_less ba_full na_tape nf_length nf_fault nf_place na_counts nl0f_huts nl0f_singers nl0f_villages nl0f_dams nl0f_echoes nl0f_deep nl0f_slide nl0a_heights nl0a_ladders nl0a_minutes nl0a_echoFrom nl0a_echoTo nl0a_homes nl0a_talls nl0a_known nl1f_huts nl1f_singers nl1f_villages nl1f_dams nl1f_echoes nl1f_deep nl1f_slide nl1a_heights nl1a_ladders nl1a_minutes nl1a_echoFrom nl1a_echoTo nl1a_homes nl1a_talls nl1a_known nv0f_deeds nv0a_kinds nv0a_firsts nv0a_seconds nv1f_deeds nv1a_kinds nv1a_firsts nv1a_seconds ns0f_facts ns0a_heard ns0a_huts ns0a_minutes ns1f_facts ns1a_heard ns1a_huts ns1a_minutes nc0f_voices nc0f_step nc0a_parts nc0a_heights nc1f_voices nc1f_step nc1a_parts nc1a_heights H) A) args s kc ks A) (F0 m 33 ls []) := by
  have hx := zc.1
  have hb := zc.2.1
  have hMx := xi_x hM
  refine lv_aload_n hx hb dX10_image_33 rfl (lv_at hl 0 rfl) ?_
  refine va_get (D := E.1) (ci := 10) (v := .ref (qx + 48)) (C := RX10) (T := TX10) (N := 7) hx hb zc.2.2.2.2.1 uw10 zc.2.2.2.1 hK.1 hMx 0 rfl rfl 1 (by decide) (zc.2.2.2.2.1 _ kf_10_16) (fun _ h9 => h9) rfl dX10_image_34 ?_
  refine lv_iload_n hx hb dX10_image_37 rfl (lv_at hl 1 rfl) ?_
  refine va_aldq hx hb hK.1 hMx 48 8 rfl rfl hin dX10_image_38 ?_
  rw [hm]
  refine W.eq (g2 := F0 m 39 ls (.ref qi :: [])) rfl ?_
  refine lv_aload_n hx hb dX10_image_39 rfl (lv_at hl 0 rfl) ?_
  refine va_get (D := E.1) (ci := 10) (v := .ref (qx + 1)) (C := RX10) (T := TX10) (N := 7) hx hb zc.2.2.2.2.1 uw10 zc.2.2.2.1 hK.1 hMx 0 rfl rfl 0 (by decide) (zc.2.2.2.2.1 _ kf_10_10) (fun _ h9 => h9) rfl dX10_image_40 ?_
  refine zVa_v [.ref (qx + 1)] [] zc ky_X9_copyFrom kz_X9_copyFrom km_10_323 (c_wtt_X9_copyFrom_47 l (post := fun na_tape nf_length nf_fault nf_place na_counts nl0f_huts nl0f_singers nl0f_villages nl0f_dams nl0f_echoes nl0f_deep nl0f_slide nl0a_heights nl0a_ladders nl0a_minutes nl0a_echoFrom nl0a_echoTo nl0a_homes nl0a_talls nl0a_known nl1f_huts nl1f_singers nl1f_villages nl1f_dams nl1f_echoes nl1f_deep nl1f_slide nl1a_heights nl1a_ladders nl1a_minutes nl1a_echoFrom nl1a_echoTo nl1a_homes nl1a_talls nl1a_known nv0f_deeds nv0a_kinds nv0a_firsts nv0a_seconds nv1f_deeds nv1a_kinds nv1a_firsts nv1a_seconds ns0f_facts ns0a_heard ns0a_huts ns0a_minutes ns1f_facts ns1a_heard ns1a_huts ns1a_minutes nc0f_voices nc0f_step nc0a_parts nc0a_heights nc1f_voices nc1f_step nc1a_parts nc1a_heights => tG na_tape nf_length nf_fault nf_place na_counts nl0f_huts nl0f_singers nl0f_villages nl0f_dams nl0f_echoes nl0f_deep nl0f_slide nl0a_heights nl0a_ladders nl0a_minutes nl0a_echoFrom nl0a_echoTo nl0a_homes nl0a_talls nl0a_known nl1f_huts nl1f_singers nl1f_villages nl1f_dams nl1f_echoes nl1f_deep nl1f_slide nl1a_heights nl1a_ladders nl1a_minutes nl1a_echoFrom nl1a_echoTo nl1a_homes nl1a_talls nl1a_known nv0f_deeds nv0a_kinds nv0a_firsts nv0a_seconds nv1f_deeds nv1a_kinds nv1a_firsts nv1a_seconds ns0f_facts ns0a_heard ns0a_huts ns0a_minutes ns1f_facts ns1a_heard ns1a_huts ns1a_minutes nc0f_voices nc0f_step nc0a_parts nc0a_heights nc1f_voices nc1f_step nc1a_parts nc1a_heights ∧ tCP (tmk na_tape nf_length nf_fault nf_place na_counts nl0f_huts nl0f_singers nl0f_villages nl0f_dams nl0f_echoes nl0f_deep nl0f_slide nl0a_heights nl0a_ladders nl0a_minutes nl0a_echoFrom nl0a_echoTo nl0a_homes nl0a_talls nl0a_known nl1f_huts nl1f_singers nl1f_villages nl1f_dams nl1f_echoes nl1f_deep nl1f_slide nl1a_heights nl1a_ladders nl1a_minutes nl1a_echoFrom nl1a_echoTo nl1a_homes nl1a_talls nl1a_known nv0f_deeds nv0a_kinds nv0a_firsts nv0a_seconds nv1f_deeds nv1a_kinds nv1a_firsts nv1a_seconds ns0f_facts ns0a_heard ns0a_huts ns0a_minutes ns1f_facts ns1a_heard ns1a_huts ns1a_minutes nc0f_voices nc0f_step nc0a_parts nc0a_heights nc1f_voices nc1f_step nc1a_parts nc1a_heights) (tmk ta_tape tf_length tf_fault tf_place ta_counts tl0f_huts tl0f_singers tl0f_villages tl0f_dams tl0f_echoes tl0f_deep tl0f_slide tl0a_heights tl0a_ladders tl0a_minutes tl0a_echoFrom tl0a_echoTo tl0a_homes tl0a_talls tl0a_known tl1f_huts tl1f_singers tl1f_villages tl1f_dams tl1f_echoes tl1f_deep tl1f_slide tl1a_heights tl1a_ladders tl1a_minutes tl1a_echoFrom tl1a_echoTo tl1a_homes tl1a_talls tl1a_known tv0f_deeds tv0a_kinds tv0a_firsts tv0a_seconds tv1f_deeds tv1a_kinds tv1a_firsts tv1a_seconds ts0f_facts ts0a_heard ts0a_huts ts0a_minutes ts1f_facts ts1a_heard ts1a_huts ts1a_minutes tc0f_voices tc0f_step tc0a_parts tc0a_heights tc1f_voices tc1f_step tc1a_parts tc1a_heights)) (tG_copy3 hI hT (fun _ _ _ _ _ _ _ _ _ _ _ _ _ _ _ _ _ _ _ _ _ _ _ _ _ _ _ _ _ _ _ _ _ _ _ _ _ _ _ _ _ _ _ _ _ _ _ _ _ _ _ _ _ _ _ _ _ _ _ h1 h2 => ⟨h1, h2⟩))) (wttPreV0 hK (pj_wxi_wtt_93_1 hM)) hS hsub rfl rfl hl.1 (Nat.le_of_ble_eq_true rfl) ⟨rfl, rfl⟩ ⟨(Nat.le_of_ble_eq_true rfl), (Nat.le_of_ble_eq_true rfl)⟩ ⟨Nat.le_refl _, Nat.le_refl _⟩ dX10_image_43 (fun u H4 locs hw hB hsz hk hS => ?_)
  have hM := jn_wxi_wtt_93_1 hM hB hk
  refine lv_iconst (v := (1 : Int32)) hx hb dX10_image_46 (by decide) ?_
  exact zret_zw () zc hS rfl rfl ⟨_, _, _, _, _, _, _, _, _, _, _, _, _, _, _, _, _, _, _, _, _, _, _, _, _, _, _, _, _, _, _, _, _, _, _, _, _, _, _, _, _, _, _, _, _, _, _, _, _, _, _, _, _, _, _, _, _, _, _, hw.1, hw.2, hM⟩ dX10_image_47

set_option maxRecDepth 40000 in
set_option maxHeartbeats 4000000 in
theorem c3_image_old (l : Launch) {E : zE} {qx qi : Nat} {ta_tape : Nat → Int32} {tf_length : Int32} {tf_fault : Int32} {tf_place : Int32} {ta_counts : Nat → Int32} {tl0f_huts : Int32} {tl0f_singers : Int32} {tl0f_villages : Int32} {tl0f_dams : Int32} {tl0f_echoes : Int32} {tl0f_deep : Int32} {tl0f_slide : Int32} {tl0a_heights : Nat → Int32} {tl0a_ladders : Nat → Int32} {tl0a_minutes : Nat → Int32} {tl0a_echoFrom : Nat → Int32} {tl0a_echoTo : Nat → Int32} {tl0a_homes : Nat → Int32} {tl0a_talls : Nat → Int32} {tl0a_known : Nat → Int32} {tl1f_huts : Int32} {tl1f_singers : Int32} {tl1f_villages : Int32} {tl1f_dams : Int32} {tl1f_echoes : Int32} {tl1f_deep : Int32} {tl1f_slide : Int32} {tl1a_heights : Nat → Int32} {tl1a_ladders : Nat → Int32} {tl1a_minutes : Nat → Int32} {tl1a_echoFrom : Nat → Int32} {tl1a_echoTo : Nat → Int32} {tl1a_homes : Nat → Int32} {tl1a_talls : Nat → Int32} {tl1a_known : Nat → Int32} {tv0f_deeds : Int32} {tv0a_kinds : Nat → Int32} {tv0a_firsts : Nat → Int32} {tv0a_seconds : Nat → Int32} {tv1f_deeds : Int32} {tv1a_kinds : Nat → Int32} {tv1a_firsts : Nat → Int32} {tv1a_seconds : Nat → Int32} {ts0f_facts : Int32} {ts0a_heard : Nat → Int32} {ts0a_huts : Nat → Int32} {ts0a_minutes : Nat → Int32} {ts1f_facts : Int32} {ts1a_heard : Nat → Int32} {ts1a_huts : Nat → Int32} {ts1a_minutes : Nat → Int32} {tc0f_voices : Int32} {tc0f_step : Int32} {tc0a_parts : Nat → Int32} {tc0a_heights : Nat → Int32} {tc1f_voices : Int32} {tc1f_step : Int32} {tc1a_parts : Nat → Int32} {tc1a_heights : Nat → Int32} {m_images : Nat → Option Nat} {rlf_huts : Int32} {rlf_singers : Int32} {rlf_villages : Int32} {rlf_dams : Int32} {rlf_echoes : Int32} {rlf_deep : Int32} {rlf_slide : Int32} {rla_heights : Nat → Int32} {rla_ladders : Nat → Int32} {rla_minutes : Nat → Int32} {rla_echoFrom : Nat → Int32} {rla_echoTo : Nat → Int32} {rla_homes : Nat → Int32} {rla_talls : Nat → Int32} {rla_known : Nat → Int32} {rvf_deeds : Int32} {rva_kinds : Nat → Int32} {rva_firsts : Nat → Int32} {rva_seconds : Nat → Int32} {rsf_facts : Int32} {rsa_heard : Nat → Int32} {rsa_huts : Nat → Int32} {rsa_minutes : Nat → Int32} {rcf_voices : Int32} {rcf_step : Int32} {rca_parts : Nat → Int32} {rca_heights : Nat → Int32} {rf_fault : Int32} {rf_faultPlace : Int32} {ra_numbers : Nat → Int32} {ra_tape : Nat → Int32} {rf_length : Int32} {rf_behind : Int32} {rf_kind : Int32} {rf_first : Int32} {rf_value : Int32} {rf_hutsToldOf : Int32} {rf_singersToldOf : Int32} {nf_minute : Int32} {nf_avalanches : Int32} {nf_begun : Int32} {nf_climbed : Int32} {nf_seed : Int32} {na_huts : Nat → Int32} {na_known : Nat → Int32} {na_levels : Nat → Int32} {na_snow : Nat → Int32} {na_open : Nat → Int32} {pa_heard : Nat → Int32} {pa_walked : Nat → Int32} {pa_total : Nat → Int32} {pa_longest : Nat → Int32} {pa_next : Nat → Int32} {pa_cover : Nat → Int32} {pa_now : Nat → Int32} {pa_then : Nat → Int32} {ko_stands : Option Nat} {ka_gaps : Nat → Int32} {ka_behind : Nat → Int32} {ba_less : Nat → Int32} {ba_full : Nat → Int32} {ia_tape : Nat → Int32} {if_length : Int32} {if_fault : Int32} {if_place : Int32} {ia_counts : Nat → Int32} {il0f_huts : Int32} {il0f_singers : Int32} {il0f_villages : Int32} {il0f_dams : Int32} {il0f_echoes : Int32} {il0f_deep : Int32} {il0f_slide : Int32} {il0a_heights : Nat → Int32} {il0a_ladders : Nat → Int32} {il0a_minutes : Nat → Int32} {il0a_echoFrom : Nat → Int32} {il0a_echoTo : Nat → Int32} {il0a_homes : Nat → Int32} {il0a_talls : Nat → Int32} {il0a_known : Nat → Int32} {il1f_huts : Int32} {il1f_singers : Int32} {il1f_villages : Int32} {il1f_dams : Int32} {il1f_echoes : Int32} {il1f_deep : Int32} {il1f_slide : Int32} {il1a_heights : Nat → Int32} {il1a_ladders : Nat → Int32} {il1a_minutes : Nat → Int32} {il1a_echoFrom : Nat → Int32} {il1a_echoTo : Nat → Int32} {il1a_homes : Nat → Int32} {il1a_talls : Nat → Int32} {il1a_known : Nat → Int32} {iv0f_deeds : Int32} {iv0a_kinds : Nat → Int32} {iv0a_firsts : Nat → Int32} {iv0a_seconds : Nat → Int32} {iv1f_deeds : Int32} {iv1a_kinds : Nat → Int32} {iv1a_firsts : Nat → Int32} {iv1a_seconds : Nat → Int32} {is0f_facts : Int32} {is0a_heard : Nat → Int32} {is0a_huts : Nat → Int32} {is0a_minutes : Nat → Int32} {is1f_facts : Int32} {is1a_heard : Nat → Int32} {is1a_huts : Nat → Int32} {is1a_minutes : Nat → Int32} {ic0f_voices : Int32} {ic0f_step : Int32} {ic0a_parts : Nat → Int32} {ic0a_heights : Nat → Int32} {ic1f_voices : Int32} {ic1f_step : Int32} {ic1a_parts : Nat → Int32} {ic1a_heights : Nat → Int32} {x1 : Int32} (hr : ¬ x1 < 0 ∧ x1 < 3) (hm : m_images (Int32.toNatClampNeg x1) = some qi) (hT : tG ta_tape tf_length tf_fault tf_place ta_counts tl0f_huts tl0f_singers tl0f_villages tl0f_dams tl0f_echoes tl0f_deep tl0f_slide tl0a_heights tl0a_ladders tl0a_minutes tl0a_echoFrom tl0a_echoTo tl0a_homes tl0a_talls tl0a_known tl1f_huts tl1f_singers tl1f_villages tl1f_dams tl1f_echoes tl1f_deep tl1f_slide tl1a_heights tl1a_ladders tl1a_minutes tl1a_echoFrom tl1a_echoTo tl1a_homes tl1a_talls tl1a_known tv0f_deeds tv0a_kinds tv0a_firsts tv0a_seconds tv1f_deeds tv1a_kinds tv1a_firsts tv1a_seconds ts0f_facts ts0a_heard ts0a_huts ts0a_minutes ts1f_facts ts1a_heard ts1a_huts ts1a_minutes tc0f_voices tc0f_step tc0a_parts tc0a_heights tc1f_voices tc1f_step tc1a_parts tc1a_heights) (hI : tG ia_tape if_length if_fault if_place ia_counts il0f_huts il0f_singers il0f_villages il0f_dams il0f_echoes il0f_deep il0f_slide il0a_heights il0a_ladders il0a_minutes il0a_echoFrom il0a_echoTo il0a_homes il0a_talls il0a_known il1f_huts il1f_singers il1f_villages il1f_dams il1f_echoes il1f_deep il1f_slide il1a_heights il1a_ladders il1a_minutes il1a_echoFrom il1a_echoTo il1a_homes il1a_talls il1a_known iv0f_deeds iv0a_kinds iv0a_firsts iv0a_seconds iv1f_deeds iv1a_kinds iv1a_firsts iv1a_seconds is0f_facts is0a_heard is0a_huts is0a_minutes is1f_facts is1a_heard is1a_huts is1a_minutes ic0f_voices ic0f_step ic0a_parts ic0a_heights ic1f_voices ic1f_step ic1a_parts ic1a_heights) : Met l yX10_image (Cond.code yX10_image cX10_image 2 (some .boolean) :: zb) (rmI 0 0) (va_Pc [.ref qx, .int x1] (fun U => wxiW E qx qi ta_tape tf_length tf_fault tf_place ta_counts tl0f_huts tl0f_singers tl0f_villages tl0f_dams tl0f_echoes tl0f_deep tl0f_slide tl0a_heights tl0a_ladders tl0a_minutes tl0a_echoFrom tl0a_echoTo tl0a_homes tl0a_talls tl0a_known tl1f_huts tl1f_singers tl1f_villages tl1f_dams tl1f_echoes tl1f_deep tl1f_slide tl1a_heights tl1a_ladders tl1a_minutes tl1a_echoFrom tl1a_echoTo tl1a_homes tl1a_talls tl1a_known tv0f_deeds tv0a_kinds tv0a_firsts tv0a_seconds tv1f_deeds tv1a_kinds tv1a_firsts tv1a_seconds ts0f_facts ts0a_heard ts0a_huts ts0a_minutes ts1f_facts ts1a_heard ts1a_huts ts1a_minutes tc0f_voices tc0f_step tc0a_parts tc0a_heights tc1f_voices tc1f_step tc1a_parts tc1a_heights m_images rlf_huts rlf_singers rlf_villages rlf_dams rlf_echoes rlf_deep rlf_slide rla_heights rla_ladders rla_minutes rla_echoFrom rla_echoTo rla_homes rla_talls rla_known rvf_deeds rva_kinds rva_firsts rva_seconds rsf_facts rsa_heard rsa_huts rsa_minutes rcf_voices rcf_step rca_parts rca_heights rf_fault rf_faultPlace ra_numbers ra_tape rf_length rf_behind rf_kind rf_first rf_value rf_hutsToldOf rf_singersToldOf nf_minute nf_avalanches nf_begun nf_climbed nf_seed na_huts na_known na_levels na_snow na_open pa_heard pa_walked pa_total pa_longest pa_next pa_cover pa_now pa_then ko_stands ka_gaps ka_behind ba_less ba_full ia_tape if_length if_fault if_place ia_counts il0f_huts il0f_singers il0f_villages il0f_dams il0f_echoes il0f_deep il0f_slide il0a_heights il0a_ladders il0a_minutes il0a_echoFrom il0a_echoTo il0a_homes il0a_talls il0a_known il1f_huts il1f_singers il1f_villages il1f_dams il1f_echoes il1f_deep il1f_slide il1a_heights il1a_ladders il1a_minutes il1a_echoFrom il1a_echoTo il1a_homes il1a_talls il1a_known iv0f_deeds iv0a_kinds iv0a_firsts iv0a_seconds iv1f_deeds iv1a_kinds iv1a_firsts iv1a_seconds is0f_facts is0a_heard is0a_huts is0a_minutes is1f_facts is1a_heard is1a_huts is1a_minutes ic0f_voices ic0f_step ic0a_parts ic0a_heights ic1f_voices ic1f_step ic1a_parts ic1a_heights U.heap ∧ zK E U)) (zQi (S := Unit) (fun r _ => r = 1) (fun _ H => ∃ na_tape nf_length nf_fault nf_place na_counts nl0f_huts nl0f_singers nl0f_villages nl0f_dams nl0f_echoes nl0f_deep nl0f_slide nl0a_heights nl0a_ladders nl0a_minutes nl0a_echoFrom nl0a_echoTo nl0a_homes nl0a_talls nl0a_known nl1f_huts nl1f_singers nl1f_villages nl1f_dams nl1f_echoes nl1f_deep nl1f_slide nl1a_heights nl1a_ladders nl1a_minutes nl1a_echoFrom nl1a_echoTo nl1a_homes nl1a_talls nl1a_known nv0f_deeds nv0a_kinds nv0a_firsts nv0a_seconds nv1f_deeds nv1a_kinds nv1a_firsts nv1a_seconds ns0f_facts ns0a_heard ns0a_huts ns0a_minutes ns1f_facts ns1a_heard ns1a_huts ns1a_minutes nc0f_voices nc0f_step nc0a_parts nc0a_heights nc1f_voices nc1f_step nc1a_parts nc1a_heights, tG na_tape nf_length nf_fault nf_place na_counts nl0f_huts nl0f_singers nl0f_villages nl0f_dams nl0f_echoes nl0f_deep nl0f_slide nl0a_heights nl0a_ladders nl0a_minutes nl0a_echoFrom nl0a_echoTo nl0a_homes nl0a_talls nl0a_known nl1f_huts nl1f_singers nl1f_villages nl1f_dams nl1f_echoes nl1f_deep nl1f_slide nl1a_heights nl1a_ladders nl1a_minutes nl1a_echoFrom nl1a_echoTo nl1a_homes nl1a_talls nl1a_known nv0f_deeds nv0a_kinds nv0a_firsts nv0a_seconds nv1f_deeds nv1a_kinds nv1a_firsts nv1a_seconds ns0f_facts ns0a_heard ns0a_huts ns0a_minutes ns1f_facts ns1a_heard ns1a_huts ns1a_minutes nc0f_voices nc0f_step nc0a_parts nc0a_heights nc1f_voices nc1f_step nc1a_parts nc1a_heights ∧ tCP (tmk na_tape nf_length nf_fault nf_place na_counts nl0f_huts nl0f_singers nl0f_villages nl0f_dams nl0f_echoes nl0f_deep nl0f_slide nl0a_heights nl0a_ladders nl0a_minutes nl0a_echoFrom nl0a_echoTo nl0a_homes nl0a_talls nl0a_known nl1f_huts nl1f_singers nl1f_villages nl1f_dams nl1f_echoes nl1f_deep nl1f_slide nl1a_heights nl1a_ladders nl1a_minutes nl1a_echoFrom nl1a_echoTo nl1a_homes nl1a_talls nl1a_known nv0f_deeds nv0a_kinds nv0a_firsts nv0a_seconds nv1f_deeds nv1a_kinds nv1a_firsts nv1a_seconds ns0f_facts ns0a_heard ns0a_huts ns0a_minutes ns1f_facts ns1a_heard ns1a_huts ns1a_minutes nc0f_voices nc0f_step nc0a_parts nc0a_heights nc1f_voices nc1f_step nc1a_parts nc1a_heights) (tmk ta_tape tf_length tf_fault tf_place ta_counts tl0f_huts tl0f_singers tl0f_villages tl0f_dams tl0f_echoes tl0f_deep tl0f_slide tl0a_heights tl0a_ladders tl0a_minutes tl0a_echoFrom tl0a_echoTo tl0a_homes tl0a_talls tl0a_known tl1f_huts tl1f_singers tl1f_villages tl1f_dams tl1f_echoes tl1f_deep tl1f_slide tl1a_heights tl1a_ladders tl1a_minutes tl1a_echoFrom tl1a_echoTo tl1a_homes tl1a_talls tl1a_known tv0f_deeds tv0a_kinds tv0a_firsts tv0a_seconds tv1f_deeds tv1a_kinds tv1a_firsts tv1a_seconds ts0f_facts ts0a_heard ts0a_huts ts0a_minutes ts1f_facts ts1a_heard ts1a_huts ts1a_minutes tc0f_voices tc0f_step tc0a_parts tc0a_heights tc1f_voices tc1f_step tc1a_parts tc1a_heights) ∧ wxiW E qx qi ta_tape tf_length tf_fault tf_place ta_counts tl0f_huts tl0f_singers tl0f_villages tl0f_dams tl0f_echoes tl0f_deep tl0f_slide tl0a_heights tl0a_ladders tl0a_minutes tl0a_echoFrom tl0a_echoTo tl0a_homes tl0a_talls tl0a_known tl1f_huts tl1f_singers tl1f_villages tl1f_dams tl1f_echoes tl1f_deep tl1f_slide tl1a_heights tl1a_ladders tl1a_minutes tl1a_echoFrom tl1a_echoTo tl1a_homes tl1a_talls tl1a_known tv0f_deeds tv0a_kinds tv0a_firsts tv0a_seconds tv1f_deeds tv1a_kinds tv1a_firsts tv1a_seconds ts0f_facts ts0a_heard ts0a_huts ts0a_minutes ts1f_facts ts1a_heard ts1a_huts ts1a_minutes tc0f_voices tc0f_step tc0a_parts tc0a_heights tc1f_voices tc1f_step tc1a_parts tc1a_heights m_images rlf_huts rlf_singers rlf_villages rlf_dams rlf_echoes rlf_deep rlf_slide rla_heights rla_ladders rla_minutes rla_echoFrom rla_echoTo rla_homes rla_talls rla_known rvf_deeds rva_kinds rva_firsts rva_seconds rsf_facts rsa_heard rsa_huts rsa_minutes rcf_voices rcf_step rca_parts rca_heights rf_fault rf_faultPlace ra_numbers ra_tape rf_length rf_behind rf_kind rf_first rf_value rf_hutsToldOf rf_singersToldOf nf_minute nf_avalanches nf_begun nf_climbed nf_seed na_huts na_known na_levels na_snow na_open pa_heard pa_walked pa_total pa_longest pa_next pa_cover pa_now pa_then ko_stands ka_gaps ka_behind ba_less ba_full na_tape nf_length nf_fault nf_place na_counts nl0f_huts nl0f_singers nl0f_villages nl0f_dams nl0f_echoes nl0f_deep nl0f_slide nl0a_heights nl0a_ladders nl0a_minutes nl0a_echoFrom nl0a_echoTo nl0a_homes nl0a_talls nl0a_known nl1f_huts nl1f_singers nl1f_villages nl1f_dams nl1f_echoes nl1f_deep nl1f_slide nl1a_heights nl1a_ladders nl1a_minutes nl1a_echoFrom nl1a_echoTo nl1a_homes nl1a_talls nl1a_known nv0f_deeds nv0a_kinds nv0a_firsts nv0a_seconds nv1f_deeds nv1a_kinds nv1a_firsts nv1a_seconds ns0f_facts ns0a_heard ns0a_huts ns0a_minutes ns1f_facts ns1a_heard ns1a_huts ns1a_minutes nc0f_voices nc0f_step nc0a_parts nc0a_heights nc1f_voices nc1f_step nc1a_parts nc1a_heights H) (wttA qi (qx + 1))) 0 0 (wttA qi (qx + 1)) := by
  refine Met.ofW (cc := cX10_image) (maxL := 2) (ret := (some .boolean)) (by decide) rfl ?_
  intro p e s m args below meth c s₁ B hml hv
  obtain ⟨rfl, hM, hK⟩ := hv
  have zc := zc_of B hml
  have hx := zc.1
  have hb := zc.2.1
  have hl := lv_entry ([.ref qx, .int x1]) (n := 2) (Nat.le_of_ble_eq_true rfl)
  rw [lg_entry_eq]
  generalize (lg_sl ([.ref qx, .int x1]) ++ List.replicate (2 - (lg_sl ([.ref qx, .int x1])).length) Slot.unset).toArray = ls at hl ⊢
  have hl : lv_has ls 2 [(0, .ref qx), (1, .int x1)] := hl
  have hMx := xi_x hM
  have hin : vp_in x1 3 := iv_in (iv_lta (l := 0) (h := 2) (r_lt hr.2) (iv_leb (l := 0) (h := 2147483647) (r_nlt hr.1) (iv_lit (x := 0) (l := 0) (h := 0) (by decide)) (iv_top x1) (by decide)) (iv_lit (x := 3) (l := 3) (h := 3) (by decide)) (by decide)) (by decide)
  refine lv_iload_n hx hb dX10_image_0 rfl (lv_at hl 1 rfl) ?_
  refine lv_if_lt (tgt := 9) hx hb dX10_image_1 (by decide) (fun hc => absurd hc hr.1) (fun hc => ?_)
  refine lv_iload_n hx hb dX10_image_4 rfl (lv_at hl 1 rfl) ?_
  refine lv_iconst (v := (3 : Int32)) hx hb dX10_image_5 (by decide) ?_
  refine lv_icmp_lt (tgt := 11) hx hb dX10_image_6 (by decide) (fun hd => ?_) (fun hd => absurd hr.2 hd)
  refine lv_aload_n hx hb dX10_image_11 rfl (lv_at hl 0 rfl) ?_
  refine va_get (D := E.1) (ci := 10) (v := .ref (qx + 48)) (C := RX10) (T := TX10) (N := 7) hx hb zc.2.2.2.2.1 uw10 zc.2.2.2.1 hK.1 hMx 0 rfl rfl 1 (by decide) (zc.2.2.2.2.1 _ kf_10_16) (fun _ h9 => h9) rfl dX10_image_12 ?_
  refine lv_iload_n hx hb dX10_image_15 rfl (lv_at hl 1 rfl) ?_
  refine va_aldq hx hb hK.1 hMx 48 8 rfl rfl hin dX10_image_16 ?_
  rw [hm]
  refine W.eq (g2 := F0 m 17 ls (.ref qi :: [])) rfl ?_
  refine lv_ifnonnull (tgt := 33) hx hb dX10_image_17 (by decide) ?_
  exact im_tail3 zc hK hM hT hI hin hm va_S.rf (fun _ h => h) hl

set_option maxRecDepth 40000 in
set_option maxHeartbeats 4000000 in
theorem c3_image_new (l : Launch) {E : zE} {qx h : Nat} {ta_tape : Nat → Int32} {tf_length : Int32} {tf_fault : Int32} {tf_place : Int32} {ta_counts : Nat → Int32} {tl0f_huts : Int32} {tl0f_singers : Int32} {tl0f_villages : Int32} {tl0f_dams : Int32} {tl0f_echoes : Int32} {tl0f_deep : Int32} {tl0f_slide : Int32} {tl0a_heights : Nat → Int32} {tl0a_ladders : Nat → Int32} {tl0a_minutes : Nat → Int32} {tl0a_echoFrom : Nat → Int32} {tl0a_echoTo : Nat → Int32} {tl0a_homes : Nat → Int32} {tl0a_talls : Nat → Int32} {tl0a_known : Nat → Int32} {tl1f_huts : Int32} {tl1f_singers : Int32} {tl1f_villages : Int32} {tl1f_dams : Int32} {tl1f_echoes : Int32} {tl1f_deep : Int32} {tl1f_slide : Int32} {tl1a_heights : Nat → Int32} {tl1a_ladders : Nat → Int32} {tl1a_minutes : Nat → Int32} {tl1a_echoFrom : Nat → Int32} {tl1a_echoTo : Nat → Int32} {tl1a_homes : Nat → Int32} {tl1a_talls : Nat → Int32} {tl1a_known : Nat → Int32} {tv0f_deeds : Int32} {tv0a_kinds : Nat → Int32} {tv0a_firsts : Nat → Int32} {tv0a_seconds : Nat → Int32} {tv1f_deeds : Int32} {tv1a_kinds : Nat → Int32} {tv1a_firsts : Nat → Int32} {tv1a_seconds : Nat → Int32} {ts0f_facts : Int32} {ts0a_heard : Nat → Int32} {ts0a_huts : Nat → Int32} {ts0a_minutes : Nat → Int32} {ts1f_facts : Int32} {ts1a_heard : Nat → Int32} {ts1a_huts : Nat → Int32} {ts1a_minutes : Nat → Int32} {tc0f_voices : Int32} {tc0f_step : Int32} {tc0a_parts : Nat → Int32} {tc0a_heights : Nat → Int32} {tc1f_voices : Int32} {tc1f_step : Int32} {tc1a_parts : Nat → Int32} {tc1a_heights : Nat → Int32} {m_images : Nat → Option Nat} {rlf_huts : Int32} {rlf_singers : Int32} {rlf_villages : Int32} {rlf_dams : Int32} {rlf_echoes : Int32} {rlf_deep : Int32} {rlf_slide : Int32} {rla_heights : Nat → Int32} {rla_ladders : Nat → Int32} {rla_minutes : Nat → Int32} {rla_echoFrom : Nat → Int32} {rla_echoTo : Nat → Int32} {rla_homes : Nat → Int32} {rla_talls : Nat → Int32} {rla_known : Nat → Int32} {rvf_deeds : Int32} {rva_kinds : Nat → Int32} {rva_firsts : Nat → Int32} {rva_seconds : Nat → Int32} {rsf_facts : Int32} {rsa_heard : Nat → Int32} {rsa_huts : Nat → Int32} {rsa_minutes : Nat → Int32} {rcf_voices : Int32} {rcf_step : Int32} {rca_parts : Nat → Int32} {rca_heights : Nat → Int32} {rf_fault : Int32} {rf_faultPlace : Int32} {ra_numbers : Nat → Int32} {ra_tape : Nat → Int32} {rf_length : Int32} {rf_behind : Int32} {rf_kind : Int32} {rf_first : Int32} {rf_value : Int32} {rf_hutsToldOf : Int32} {rf_singersToldOf : Int32} {nf_minute : Int32} {nf_avalanches : Int32} {nf_begun : Int32} {nf_climbed : Int32} {nf_seed : Int32} {na_huts : Nat → Int32} {na_known : Nat → Int32} {na_levels : Nat → Int32} {na_snow : Nat → Int32} {na_open : Nat → Int32} {pa_heard : Nat → Int32} {pa_walked : Nat → Int32} {pa_total : Nat → Int32} {pa_longest : Nat → Int32} {pa_next : Nat → Int32} {pa_cover : Nat → Int32} {pa_now : Nat → Int32} {pa_then : Nat → Int32} {ko_stands : Option Nat} {ka_gaps : Nat → Int32} {ka_behind : Nat → Int32} {ba_less : Nat → Int32} {ba_full : Nat → Int32} {x1 : Int32} (hr : ¬ x1 < 0 ∧ x1 < 3) (hm : m_images (Int32.toNatClampNeg x1) = none) (hT : tG ta_tape tf_length tf_fault tf_place ta_counts tl0f_huts tl0f_singers tl0f_villages tl0f_dams tl0f_echoes tl0f_deep tl0f_slide tl0a_heights tl0a_ladders tl0a_minutes tl0a_echoFrom tl0a_echoTo tl0a_homes tl0a_talls tl0a_known tl1f_huts tl1f_singers tl1f_villages tl1f_dams tl1f_echoes tl1f_deep tl1f_slide tl1a_heights tl1a_ladders tl1a_minutes tl1a_echoFrom tl1a_echoTo tl1a_homes tl1a_talls tl1a_known tv0f_deeds tv0a_kinds tv0a_firsts tv0a_seconds tv1f_deeds tv1a_kinds tv1a_firsts tv1a_seconds ts0f_facts ts0a_heard ts0a_huts ts0a_minutes ts1f_facts ts1a_heard ts1a_huts ts1a_minutes tc0f_voices tc0f_step tc0a_parts tc0a_heights tc1f_voices tc1f_step tc1a_parts tc1a_heights) : Met l yX10_image (Cond.code yX10_image cX10_image 2 (some .boolean) :: zb) (rmI 47 1261) (va_Pc [.ref qx, .int x1] (fun U => (U.heap.size = h ∧ qx + 93 ≤ h) ∧ wxW E qx ta_tape tf_length tf_fault tf_place ta_counts tl0f_huts tl0f_singers tl0f_villages tl0f_dams tl0f_echoes tl0f_deep tl0f_slide tl0a_heights tl0a_ladders tl0a_minutes tl0a_echoFrom tl0a_echoTo tl0a_homes tl0a_talls tl0a_known tl1f_huts tl1f_singers tl1f_villages tl1f_dams tl1f_echoes tl1f_deep tl1f_slide tl1a_heights tl1a_ladders tl1a_minutes tl1a_echoFrom tl1a_echoTo tl1a_homes tl1a_talls tl1a_known tv0f_deeds tv0a_kinds tv0a_firsts tv0a_seconds tv1f_deeds tv1a_kinds tv1a_firsts tv1a_seconds ts0f_facts ts0a_heard ts0a_huts ts0a_minutes ts1f_facts ts1a_heard ts1a_huts ts1a_minutes tc0f_voices tc0f_step tc0a_parts tc0a_heights tc1f_voices tc1f_step tc1a_parts tc1a_heights m_images rlf_huts rlf_singers rlf_villages rlf_dams rlf_echoes rlf_deep rlf_slide rla_heights rla_ladders rla_minutes rla_echoFrom rla_echoTo rla_homes rla_talls rla_known rvf_deeds rva_kinds rva_firsts rva_seconds rsf_facts rsa_heard rsa_huts rsa_minutes rcf_voices rcf_step rca_parts rca_heights rf_fault rf_faultPlace ra_numbers ra_tape rf_length rf_behind rf_kind rf_first rf_value rf_hutsToldOf rf_singersToldOf nf_minute nf_avalanches nf_begun nf_climbed nf_seed na_huts na_known na_levels na_snow na_open pa_heard pa_walked pa_total pa_longest pa_next pa_cover pa_now pa_then ko_stands ka_gaps ka_behind ba_less ba_full U.heap ∧ zK E U ∧ zO U)) (zQi (S := Unit) (fun r _ => r = 1) (fun _ H => ∃ na_tape nf_length nf_fault nf_place na_counts nl0f_huts nl0f_singers nl0f_villages nl0f_dams nl0f_echoes nl0f_deep nl0f_slide nl0a_heights nl0a_ladders nl0a_minutes nl0a_echoFrom nl0a_echoTo nl0a_homes nl0a_talls nl0a_known nl1f_huts nl1f_singers nl1f_villages nl1f_dams nl1f_echoes nl1f_deep nl1f_slide nl1a_heights nl1a_ladders nl1a_minutes nl1a_echoFrom nl1a_echoTo nl1a_homes nl1a_talls nl1a_known nv0f_deeds nv0a_kinds nv0a_firsts nv0a_seconds nv1f_deeds nv1a_kinds nv1a_firsts nv1a_seconds ns0f_facts ns0a_heard ns0a_huts ns0a_minutes ns1f_facts ns1a_heard ns1a_huts ns1a_minutes nc0f_voices nc0f_step nc0a_parts nc0a_heights nc1f_voices nc1f_step nc1a_parts nc1a_heights, tG na_tape nf_length nf_fault nf_place na_counts nl0f_huts nl0f_singers nl0f_villages nl0f_dams nl0f_echoes nl0f_deep nl0f_slide nl0a_heights nl0a_ladders nl0a_minutes nl0a_echoFrom nl0a_echoTo nl0a_homes nl0a_talls nl0a_known nl1f_huts nl1f_singers nl1f_villages nl1f_dams nl1f_echoes nl1f_deep nl1f_slide nl1a_heights nl1a_ladders nl1a_minutes nl1a_echoFrom nl1a_echoTo nl1a_homes nl1a_talls nl1a_known nv0f_deeds nv0a_kinds nv0a_firsts nv0a_seconds nv1f_deeds nv1a_kinds nv1a_firsts nv1a_seconds ns0f_facts ns0a_heard ns0a_huts ns0a_minutes ns1f_facts ns1a_heard ns1a_huts ns1a_minutes nc0f_voices nc0f_step nc0a_parts nc0a_heights nc1f_voices nc1f_step nc1a_parts nc1a_heights ∧ tCP (tmk na_tape nf_length nf_fault nf_place na_counts nl0f_huts nl0f_singers nl0f_villages nl0f_dams nl0f_echoes nl0f_deep nl0f_slide nl0a_heights nl0a_ladders nl0a_minutes nl0a_echoFrom nl0a_echoTo nl0a_homes nl0a_talls nl0a_known nl1f_huts nl1f_singers nl1f_villages nl1f_dams nl1f_echoes nl1f_deep nl1f_slide nl1a_heights nl1a_ladders nl1a_minutes nl1a_echoFrom nl1a_echoTo nl1a_homes nl1a_talls nl1a_known nv0f_deeds nv0a_kinds nv0a_firsts nv0a_seconds nv1f_deeds nv1a_kinds nv1a_firsts nv1a_seconds ns0f_facts ns0a_heard ns0a_huts ns0a_minutes ns1f_facts ns1a_heard ns1a_huts ns1a_minutes nc0f_voices nc0f_step nc0a_parts nc0a_heights nc1f_voices nc1f_step nc1a_parts nc1a_heights) (tmk ta_tape tf_length tf_fault tf_place ta_counts tl0f_huts tl0f_singers tl0f_villages tl0f_dams tl0f_echoes tl0f_deep tl0f_slide tl0a_heights tl0a_ladders tl0a_minutes tl0a_echoFrom tl0a_echoTo tl0a_homes tl0a_talls tl0a_known tl1f_huts tl1f_singers tl1f_villages tl1f_dams tl1f_echoes tl1f_deep tl1f_slide tl1a_heights tl1a_ladders tl1a_minutes tl1a_echoFrom tl1a_echoTo tl1a_homes tl1a_talls tl1a_known tv0f_deeds tv0a_kinds tv0a_firsts tv0a_seconds tv1f_deeds tv1a_kinds tv1a_firsts tv1a_seconds ts0f_facts ts0a_heard ts0a_huts ts0a_minutes ts1f_facts ts1a_heard ts1a_huts ts1a_minutes tc0f_voices tc0f_step tc0a_parts tc0a_heights tc1f_voices tc1f_step tc1a_parts tc1a_heights) ∧ wxiW E qx h ta_tape tf_length tf_fault tf_place ta_counts tl0f_huts tl0f_singers tl0f_villages tl0f_dams tl0f_echoes tl0f_deep tl0f_slide tl0a_heights tl0a_ladders tl0a_minutes tl0a_echoFrom tl0a_echoTo tl0a_homes tl0a_talls tl0a_known tl1f_huts tl1f_singers tl1f_villages tl1f_dams tl1f_echoes tl1f_deep tl1f_slide tl1a_heights tl1a_ladders tl1a_minutes tl1a_echoFrom tl1a_echoTo tl1a_homes tl1a_talls tl1a_known tv0f_deeds tv0a_kinds tv0a_firsts tv0a_seconds tv1f_deeds tv1a_kinds tv1a_firsts tv1a_seconds ts0f_facts ts0a_heard ts0a_huts ts0a_minutes ts1f_facts ts1a_heard ts1a_huts ts1a_minutes tc0f_voices tc0f_step tc0a_parts tc0a_heights tc1f_voices tc1f_step tc1a_parts tc1a_heights (va_up m_images (Int32.toNatClampNeg x1) (some h)) rlf_huts rlf_singers rlf_villages rlf_dams rlf_echoes rlf_deep rlf_slide rla_heights rla_ladders rla_minutes rla_echoFrom rla_echoTo rla_homes rla_talls rla_known rvf_deeds rva_kinds rva_firsts rva_seconds rsf_facts rsa_heard rsa_huts rsa_minutes rcf_voices rcf_step rca_parts rca_heights rf_fault rf_faultPlace ra_numbers ra_tape rf_length rf_behind rf_kind rf_first rf_value rf_hutsToldOf rf_singersToldOf nf_minute nf_avalanches nf_begun nf_climbed nf_seed na_huts na_known na_levels na_snow na_open pa_heard pa_walked pa_total pa_longest pa_next pa_cover pa_now pa_then ko_stands ka_gaps ka_behind ba_less ba_full na_tape nf_length nf_fault nf_place na_counts nl0f_huts nl0f_singers nl0f_villages nl0f_dams nl0f_echoes nl0f_deep nl0f_slide nl0a_heights nl0a_ladders nl0a_minutes nl0a_echoFrom nl0a_echoTo nl0a_homes nl0a_talls nl0a_known nl1f_huts nl1f_singers nl1f_villages nl1f_dams nl1f_echoes nl1f_deep nl1f_slide nl1a_heights nl1a_ladders nl1a_minutes nl1a_echoFrom nl1a_echoTo nl1a_homes nl1a_talls nl1a_known nv0f_deeds nv0a_kinds nv0a_firsts nv0a_seconds nv1f_deeds nv1a_kinds nv1a_firsts nv1a_seconds ns0f_facts ns0a_heard ns0a_huts ns0a_minutes ns1f_facts ns1a_heard ns1a_huts ns1a_minutes nc0f_voices nc0f_step nc0a_parts nc0a_heights nc1f_voices nc1f_step nc1a_parts nc1a_heights H) (zImA qx h)) 47 1261 (zImA qx h) := by
  refine Met.ofW (cc := cX10_image) (maxL := 2) (ret := (some .boolean)) (by decide) rfl ?_
  intro p e s m args below meth c s₁ B hml hv
  obtain ⟨rfl, ⟨hsz, hqh⟩, hMx, hK, hO⟩ := hv
  have zc := zc_of B hml
  have hx := zc.1
  have hb := zc.2.1
  have hl := lv_entry ([.ref qx, .int x1]) (n := 2) (Nat.le_of_ble_eq_true rfl)
  rw [lg_entry_eq]
  generalize (lg_sl ([.ref qx, .int x1]) ++ List.replicate (2 - (lg_sl ([.ref qx, .int x1])).length) Slot.unset).toArray = ls at hl ⊢
  have hl : lv_has ls 2 [(0, .ref qx), (1, .int x1)] := hl
  have hS : va_S (zImA qx h) s.heap s.heap [] := va_S.rf
  have hin : vp_in x1 3 := iv_in (iv_lta (l := 0) (h := 2) (r_lt hr.2) (iv_leb (l := 0) (h := 2147483647) (r_nlt hr.1) (iv_lit (x := 0) (l := 0) (h := 0) (by decide)) (iv_top x1) (by decide)) (iv_lit (x := 3) (l := 3) (h := 3) (by decide)) (by decide)) (by decide)
  refine lv_iload_n hx hb dX10_image_0 rfl (lv_at hl 1 rfl) ?_
  refine lv_if_lt (tgt := 9) hx hb dX10_image_1 (by decide) (fun hc => absurd hc hr.1) (fun hc => ?_)
  refine lv_iload_n hx hb dX10_image_4 rfl (lv_at hl 1 rfl) ?_
  refine lv_iconst (v := (3 : Int32)) hx hb dX10_image_5 (by decide) ?_
  refine lv_icmp_lt (tgt := 11) hx hb dX10_image_6 (by decide) (fun hd => ?_) (fun hd => absurd hr.2 hd)
  refine lv_aload_n hx hb dX10_image_11 rfl (lv_at hl 0 rfl) ?_
  refine va_get (D := E.1) (ci := 10) (v := .ref (qx + 48)) (C := RX10) (T := TX10) (N := 7) hx hb zc.2.2.2.2.1 uw10 zc.2.2.2.1 hK.1 hMx 0 rfl rfl 1 (by decide) (zc.2.2.2.2.1 _ kf_10_16) (fun _ h9 => h9) rfl dX10_image_12 ?_
  refine lv_iload_n hx hb dX10_image_15 rfl (lv_at hl 1 rfl) ?_
  refine va_aldq hx hb hK.1 hMx 48 8 rfl rfl hin dX10_image_16 ?_
  rw [hm]
  refine W.eq (g2 := F0 m 17 ls (.null :: [])) rfl ?_
  refine lv_ifnonnullN hx hb dX10_image_17 ?_
  refine lv_aload_n hx hb dX10_image_20 rfl (lv_at hl 0 rfl) ?_
  refine va_get (D := E.1) (ci := 10) (v := .ref (qx + 48)) (C := RX10) (T := TX10) (N := 7) hx hb zc.2.2.2.2.1 uw10 zc.2.2.2.1 hK.1 hMx 0 rfl rfl 1 (by decide) (zc.2.2.2.2.1 _ kf_10_16) (fun _ h9 => h9) rfl dX10_image_21 ?_
  refine lv_iload_n hx hb dX10_image_24 rfl (lv_at hl 1 rfl) ?_
  refine zNew (ws := []) (C := RX9) (T := TX9) (N := 9) (ci := 9) zc hK (fun k q h => by simp at h) hS hsz uw9 tyX9 tyX9_ok kcl_10_7 kins_9 kinit_9 rfl [.null, .int 0, .int 0, .int 0, .null, .null, .null, .null, .null] (fun j hj => match j, hj with | 0, _ => rfl | 1, _ => rfl | 2, _ => rfl | 3, _ => rfl | 4, _ => rfl | 5, _ => rfl | 6, _ => rfl | 7, _ => rfl | 8, _ => rfl | j + 9, hj => absurd hj (by omega)) (Nat.le_of_ble_eq_true rfl) (Nat.le_of_ble_eq_true rfl) dX10_image_25 (fun H1 hN o1 hz1 hS => ?_)
  have hMx := wx_kp hMx (fun z _ _ h3 => o1 z (Nat.lt_of_lt_of_le h3 hqh))
  have g9 : va_P E.1 zcl [(h, .inr (9, [.null, .int 0, .int 0, .int 0, .null, .null, .null, .null, .null]))] H1 := hN
  refine W.cs (cells' := 1) (slots' := 9) rfl rfl ?_
  refine lv_dup hx hb dX10_image_28 rfl ?_
  refine zIc zc ky_X9_init kz_X9_init rfl km_10_9 (ci_X9_init l) (zIpre hK hO g9 hz1) hS (fun q (hq : h ≤ q) => Or.inr hq) hl.1 (Nat.le_of_ble_eq_true rfl) ⟨rfl, rfl⟩ ⟨(Nat.le_of_ble_eq_true rfl), (Nat.le_of_ble_eq_true rfl)⟩ ⟨(Nat.le_of_ble_eq_true rfl), (Nat.le_of_ble_eq_true rfl)⟩ dX10_image_29 (fun _ H2 locs _ hJ hk hS => ?_)
  have hMx := wx_kp hMx (fun z h1 _ h3 => hk z h1 (fun (hq : h ≤ z) => absurd (Nat.lt_of_lt_of_le h3 hqh) (Nat.not_lt.mpr hq)))
  have g9 := hJ.1
  refine W.cs (cells' := 47) (slots' := 1261) rfl rfl ?_
  refine zAast (t := 8) (r := (RX9, TX9, 9)) zc hK hMx ((wxD E qx ta_tape tf_length tf_fault tf_place ta_counts tl0f_huts tl0f_singers tl0f_villages tl0f_dams tl0f_echoes tl0f_deep tl0f_slide tl0a_heights tl0a_ladders tl0a_minutes tl0a_echoFrom tl0a_echoTo tl0a_homes tl0a_talls tl0a_known tl1f_huts tl1f_singers tl1f_villages tl1f_dams tl1f_echoes tl1f_deep tl1f_slide tl1a_heights tl1a_ladders tl1a_minutes tl1a_echoFrom tl1a_echoTo tl1a_homes tl1a_talls tl1a_known tv0f_deeds tv0a_kinds tv0a_firsts tv0a_seconds tv1f_deeds tv1a_kinds tv1a_firsts tv1a_seconds ts0f_facts ts0a_heard ts0a_huts ts0a_minutes ts1f_facts ts1a_heard ts1a_huts ts1a_minutes tc0f_voices tc0f_step tc0a_parts tc0a_heights tc1f_voices tc1f_step tc1a_parts tc1a_heights m_images rlf_huts rlf_singers rlf_villages rlf_dams rlf_echoes rlf_deep rlf_slide rla_heights rla_ladders rla_minutes rla_echoFrom rla_echoTo rla_homes rla_talls rla_known rvf_deeds rva_kinds rva_firsts rva_seconds rsf_facts rsa_heard rsa_huts rsa_minutes rcf_voices rcf_step rca_parts rca_heights rf_fault rf_faultPlace ra_numbers ra_tape rf_length rf_behind rf_kind rf_first rf_value rf_hutsToldOf rf_singersToldOf nf_minute nf_avalanches nf_begun nf_climbed nf_seed na_huts na_known na_levels na_snow na_open pa_heard pa_walked pa_total pa_longest pa_next pa_cover pa_now pa_then ko_stands ka_gaps ka_behind ba_less ba_full).weaken (fun _ _ _ h => Or.inl h)) hS 48 0 rfl rfl g9 rfl rfl hin dX10_image_32 (fun H3 locs hN oq hz3 hS => ?_)
  have hMx : wxW E qx ta_tape tf_length tf_fault tf_place ta_counts tl0f_huts tl0f_singers tl0f_villages tl0f_dams tl0f_echoes tl0f_deep tl0f_slide tl0a_heights tl0a_ladders tl0a_minutes tl0a_echoFrom tl0a_echoTo tl0a_homes tl0a_talls tl0a_known tl1f_huts tl1f_singers tl1f_villages tl1f_dams tl1f_echoes tl1f_deep tl1f_slide tl1a_heights tl1a_ladders tl1a_minutes tl1a_echoFrom tl1a_echoTo tl1a_homes tl1a_talls tl1a_known tv0f_deeds tv0a_kinds tv0a_firsts tv0a_seconds tv1f_deeds tv1a_kinds tv1a_firsts tv1a_seconds ts0f_facts ts0a_heard ts0a_huts ts0a_minutes ts1f_facts ts1a_heard ts1a_huts ts1a_minutes tc0f_voices tc0f_step tc0a_parts tc0a_heights tc1f_voices tc1f_step tc1a_parts tc1a_heights (va_up m_images (Int32.toNatClampNeg x1) (some h)) rlf_huts rlf_singers rlf_villages rlf_dams rlf_echoes rlf_deep rlf_slide rla_heights rla_ladders rla_minutes rla_echoFrom rla_echoTo rla_homes rla_talls rla_known rvf_deeds rva_kinds rva_firsts rva_seconds rsf_facts rsa_heard rsa_huts rsa_minutes rcf_voices rcf_step rca_parts rca_heights rf_fault rf_faultPlace ra_numbers ra_tape rf_length rf_behind rf_kind rf_first rf_value rf_hutsToldOf rf_singersToldOf nf_minute nf_avalanches nf_begun nf_climbed nf_seed na_huts na_known na_levels na_snow na_open pa_heard pa_walked pa_total pa_longest pa_next pa_cover pa_now pa_then ko_stands ka_gaps ka_behind ba_less ba_full H3 := hN
  have g9 := zkp g9 zrg_X9_init (fun q _ h2 _ => oq q (by omega))
  exact im_tail3 zc hK (xi_of hMx (wt_0 g9) hqh) hT tG_0 hin (va_up_self _ _ _) hS (fun q hq => by unfold wttA at hq; unfold zImA zR; omega) hl

set_option maxRecDepth 40000 in
set_option maxHeartbeats 4000000 in
theorem c3_again_yes (l : Launch) {E : zE} {qx qi : Nat} {ta_tape : Nat → Int32} {tf_length : Int32} {tf_fault : Int32} {tf_place : Int32} {ta_counts : Nat → Int32} {tl0f_huts : Int32} {tl0f_singers : Int32} {tl0f_villages : Int32} {tl0f_dams : Int32} {tl0f_echoes : Int32} {tl0f_deep : Int32} {tl0f_slide : Int32} {tl0a_heights : Nat → Int32} {tl0a_ladders : Nat → Int32} {tl0a_minutes : Nat → Int32} {tl0a_echoFrom : Nat → Int32} {tl0a_echoTo : Nat → Int32} {tl0a_homes : Nat → Int32} {tl0a_talls : Nat → Int32} {tl0a_known : Nat → Int32} {tl1f_huts : Int32} {tl1f_singers : Int32} {tl1f_villages : Int32} {tl1f_dams : Int32} {tl1f_echoes : Int32} {tl1f_deep : Int32} {tl1f_slide : Int32} {tl1a_heights : Nat → Int32} {tl1a_ladders : Nat → Int32} {tl1a_minutes : Nat → Int32} {tl1a_echoFrom : Nat → Int32} {tl1a_echoTo : Nat → Int32} {tl1a_homes : Nat → Int32} {tl1a_talls : Nat → Int32} {tl1a_known : Nat → Int32} {tv0f_deeds : Int32} {tv0a_kinds : Nat → Int32} {tv0a_firsts : Nat → Int32} {tv0a_seconds : Nat → Int32} {tv1f_deeds : Int32} {tv1a_kinds : Nat → Int32} {tv1a_firsts : Nat → Int32} {tv1a_seconds : Nat → Int32} {ts0f_facts : Int32} {ts0a_heard : Nat → Int32} {ts0a_huts : Nat → Int32} {ts0a_minutes : Nat → Int32} {ts1f_facts : Int32} {ts1a_heard : Nat → Int32} {ts1a_huts : Nat → Int32} {ts1a_minutes : Nat → Int32} {tc0f_voices : Int32} {tc0f_step : Int32} {tc0a_parts : Nat → Int32} {tc0a_heights : Nat → Int32} {tc1f_voices : Int32} {tc1f_step : Int32} {tc1a_parts : Nat → Int32} {tc1a_heights : Nat → Int32} {m_images : Nat → Option Nat} {rlf_huts : Int32} {rlf_singers : Int32} {rlf_villages : Int32} {rlf_dams : Int32} {rlf_echoes : Int32} {rlf_deep : Int32} {rlf_slide : Int32} {rla_heights : Nat → Int32} {rla_ladders : Nat → Int32} {rla_minutes : Nat → Int32} {rla_echoFrom : Nat → Int32} {rla_echoTo : Nat → Int32} {rla_homes : Nat → Int32} {rla_talls : Nat → Int32} {rla_known : Nat → Int32} {rvf_deeds : Int32} {rva_kinds : Nat → Int32} {rva_firsts : Nat → Int32} {rva_seconds : Nat → Int32} {rsf_facts : Int32} {rsa_heard : Nat → Int32} {rsa_huts : Nat → Int32} {rsa_minutes : Nat → Int32} {rcf_voices : Int32} {rcf_step : Int32} {rca_parts : Nat → Int32} {rca_heights : Nat → Int32} {rf_fault : Int32} {rf_faultPlace : Int32} {ra_numbers : Nat → Int32} {ra_tape : Nat → Int32} {rf_length : Int32} {rf_behind : Int32} {rf_kind : Int32} {rf_first : Int32} {rf_value : Int32} {rf_hutsToldOf : Int32} {rf_singersToldOf : Int32} {nf_minute : Int32} {nf_avalanches : Int32} {nf_begun : Int32} {nf_climbed : Int32} {nf_seed : Int32} {na_huts : Nat → Int32} {na_known : Nat → Int32} {na_levels : Nat → Int32} {na_snow : Nat → Int32} {na_open : Nat → Int32} {pa_heard : Nat → Int32} {pa_walked : Nat → Int32} {pa_total : Nat → Int32} {pa_longest : Nat → Int32} {pa_next : Nat → Int32} {pa_cover : Nat → Int32} {pa_now : Nat → Int32} {pa_then : Nat → Int32} {ko_stands : Option Nat} {ka_gaps : Nat → Int32} {ka_behind : Nat → Int32} {ba_less : Nat → Int32} {ba_full : Nat → Int32} {ia_tape : Nat → Int32} {if_length : Int32} {if_fault : Int32} {if_place : Int32} {ia_counts : Nat → Int32} {il0f_huts : Int32} {il0f_singers : Int32} {il0f_villages : Int32} {il0f_dams : Int32} {il0f_echoes : Int32} {il0f_deep : Int32} {il0f_slide : Int32} {il0a_heights : Nat → Int32} {il0a_ladders : Nat → Int32} {il0a_minutes : Nat → Int32} {il0a_echoFrom : Nat → Int32} {il0a_echoTo : Nat → Int32} {il0a_homes : Nat → Int32} {il0a_talls : Nat → Int32} {il0a_known : Nat → Int32} {il1f_huts : Int32} {il1f_singers : Int32} {il1f_villages : Int32} {il1f_dams : Int32} {il1f_echoes : Int32} {il1f_deep : Int32} {il1f_slide : Int32} {il1a_heights : Nat → Int32} {il1a_ladders : Nat → Int32} {il1a_minutes : Nat → Int32} {il1a_echoFrom : Nat → Int32} {il1a_echoTo : Nat → Int32} {il1a_homes : Nat → Int32} {il1a_talls : Nat → Int32} {il1a_known : Nat → Int32} {iv0f_deeds : Int32} {iv0a_kinds : Nat → Int32} {iv0a_firsts : Nat → Int32} {iv0a_seconds : Nat → Int32} {iv1f_deeds : Int32} {iv1a_kinds : Nat → Int32} {iv1a_firsts : Nat → Int32} {iv1a_seconds : Nat → Int32} {is0f_facts : Int32} {is0a_heard : Nat → Int32} {is0a_huts : Nat → Int32} {is0a_minutes : Nat → Int32} {is1f_facts : Int32} {is1a_heard : Nat → Int32} {is1a_huts : Nat → Int32} {is1a_minutes : Nat → Int32} {ic0f_voices : Int32} {ic0f_step : Int32} {ic0a_parts : Nat → Int32} {ic0a_heights : Nat → Int32} {ic1f_voices : Int32} {ic1f_step : Int32} {ic1a_parts : Nat → Int32} {ic1a_heights : Nat → Int32} {x1 : Int32} (hr : ¬ x1 < 0 ∧ x1 < 3) (hm : m_images (Int32.toNatClampNeg x1) = some qi) (hT : tG ta_tape tf_length tf_fault tf_place ta_counts tl0f_huts tl0f_singers tl0f_villages tl0f_dams tl0f_echoes tl0f_deep tl0f_slide tl0a_heights tl0a_ladders tl0a_minutes tl0a_echoFrom tl0a_echoTo tl0a_homes tl0a_talls tl0a_known tl1f_huts tl1f_singers tl1f_villages tl1f_dams tl1f_echoes tl1f_deep tl1f_slide tl1a_heights tl1a_ladders tl1a_minutes tl1a_echoFrom tl1a_echoTo tl1a_homes tl1a_talls tl1a_known tv0f_deeds tv0a_kinds tv0a_firsts tv0a_seconds tv1f_deeds tv1a_kinds tv1a_firsts tv1a_seconds ts0f_facts ts0a_heard ts0a_huts ts0a_minutes ts1f_facts ts1a_heard ts1a_huts ts1a_minutes tc0f_voices tc0f_step tc0a_parts tc0a_heights tc1f_voices tc1f_step tc1a_parts tc1a_heights) (hI : tG ia_tape if_length if_fault if_place ia_counts il0f_huts il0f_singers il0f_villages il0f_dams il0f_echoes il0f_deep il0f_slide il0a_heights il0a_ladders il0a_minutes il0a_echoFrom il0a_echoTo il0a_homes il0a_talls il0a_known il1f_huts il1f_singers il1f_villages il1f_dams il1f_echoes il1f_deep il1f_slide il1a_heights il1a_ladders il1a_minutes il1a_echoFrom il1a_echoTo il1a_homes il1a_talls il1a_known iv0f_deeds iv0a_kinds iv0a_firsts iv0a_seconds iv1f_deeds iv1a_kinds iv1a_firsts iv1a_seconds is0f_facts is0a_heard is0a_huts is0a_minutes is1f_facts is1a_heard is1a_huts is1a_minutes ic0f_voices ic0f_step ic0a_parts ic0a_heights ic1f_voices ic1f_step ic1a_parts ic1a_heights) : Met l yX10_again (Cond.code yX10_again cX10_again 2 (some .boolean) :: zb) (rmI 0 0) (va_Pc [.ref qx, .int x1] (fun U => wxiW E qx qi ta_tape tf_length tf_fault tf_place ta_counts tl0f_huts tl0f_singers tl0f_villages tl0f_dams tl0f_echoes tl0f_deep tl0f_slide tl0a_heights tl0a_ladders tl0a_minutes tl0a_echoFrom tl0a_echoTo tl0a_homes tl0a_talls tl0a_known tl1f_huts tl1f_singers tl1f_villages tl1f_dams tl1f_echoes tl1f_deep tl1f_slide tl1a_heights tl1a_ladders tl1a_minutes tl1a_echoFrom tl1a_echoTo tl1a_homes tl1a_talls tl1a_known tv0f_deeds tv0a_kinds tv0a_firsts tv0a_seconds tv1f_deeds tv1a_kinds tv1a_firsts tv1a_seconds ts0f_facts ts0a_heard ts0a_huts ts0a_minutes ts1f_facts ts1a_heard ts1a_huts ts1a_minutes tc0f_voices tc0f_step tc0a_parts tc0a_heights tc1f_voices tc1f_step tc1a_parts tc1a_heights m_images rlf_huts rlf_singers rlf_villages rlf_dams rlf_echoes rlf_deep rlf_slide rla_heights rla_ladders rla_minutes rla_echoFrom rla_echoTo rla_homes rla_talls rla_known rvf_deeds rva_kinds rva_firsts rva_seconds rsf_facts rsa_heard rsa_huts rsa_minutes rcf_voices rcf_step rca_parts rca_heights rf_fault rf_faultPlace ra_numbers ra_tape rf_length rf_behind rf_kind rf_first rf_value rf_hutsToldOf rf_singersToldOf nf_minute nf_avalanches nf_begun nf_climbed nf_seed na_huts na_known na_levels na_snow na_open pa_heard pa_walked pa_total pa_longest pa_next pa_cover pa_now pa_then ko_stands ka_gaps ka_behind ba_less ba_full ia_tape if_length if_fault if_place ia_counts il0f_huts il0f_singers il0f_villages il0f_dams il0f_echoes il0f_deep il0f_slide il0a_heights il0a_ladders il0a_minutes il0a_echoFrom il0a_echoTo il0a_homes il0a_talls il0a_known il1f_huts il1f_singers il1f_villages il1f_dams il1f_echoes il1f_deep il1f_slide il1a_heights il1a_ladders il1a_minutes il1a_echoFrom il1a_echoTo il1a_homes il1a_talls il1a_known iv0f_deeds iv0a_kinds iv0a_firsts iv0a_seconds iv1f_deeds iv1a_kinds iv1a_firsts iv1a_seconds is0f_facts is0a_heard is0a_huts is0a_minutes is1f_facts is1a_heard is1a_huts is1a_minutes ic0f_voices ic0f_step ic0a_parts ic0a_heights ic1f_voices ic1f_step ic1a_parts ic1a_heights U.heap ∧ zK E U)) (zQi (S := Unit) (fun r _ => r = 1) (fun _ H => ∃ na_tape nf_length nf_fault nf_place na_counts nl0f_huts nl0f_singers nl0f_villages nl0f_dams nl0f_echoes nl0f_deep nl0f_slide nl0a_heights nl0a_ladders nl0a_minutes nl0a_echoFrom nl0a_echoTo nl0a_homes nl0a_talls nl0a_known nl1f_huts nl1f_singers nl1f_villages nl1f_dams nl1f_echoes nl1f_deep nl1f_slide nl1a_heights nl1a_ladders nl1a_minutes nl1a_echoFrom nl1a_echoTo nl1a_homes nl1a_talls nl1a_known nv0f_deeds nv0a_kinds nv0a_firsts nv0a_seconds nv1f_deeds nv1a_kinds nv1a_firsts nv1a_seconds ns0f_facts ns0a_heard ns0a_huts ns0a_minutes ns1f_facts ns1a_heard ns1a_huts ns1a_minutes nc0f_voices nc0f_step nc0a_parts nc0a_heights nc1f_voices nc1f_step nc1a_parts nc1a_heights, tG na_tape nf_length nf_fault nf_place na_counts nl0f_huts nl0f_singers nl0f_villages nl0f_dams nl0f_echoes nl0f_deep nl0f_slide nl0a_heights nl0a_ladders nl0a_minutes nl0a_echoFrom nl0a_echoTo nl0a_homes nl0a_talls nl0a_known nl1f_huts nl1f_singers nl1f_villages nl1f_dams nl1f_echoes nl1f_deep nl1f_slide nl1a_heights nl1a_ladders nl1a_minutes nl1a_echoFrom nl1a_echoTo nl1a_homes nl1a_talls nl1a_known nv0f_deeds nv0a_kinds nv0a_firsts nv0a_seconds nv1f_deeds nv1a_kinds nv1a_firsts nv1a_seconds ns0f_facts ns0a_heard ns0a_huts ns0a_minutes ns1f_facts ns1a_heard ns1a_huts ns1a_minutes nc0f_voices nc0f_step nc0a_parts nc0a_heights nc1f_voices nc1f_step nc1a_parts nc1a_heights ∧ tCP (tmk na_tape nf_length nf_fault nf_place na_counts nl0f_huts nl0f_singers nl0f_villages nl0f_dams nl0f_echoes nl0f_deep nl0f_slide nl0a_heights nl0a_ladders nl0a_minutes nl0a_echoFrom nl0a_echoTo nl0a_homes nl0a_talls nl0a_known nl1f_huts nl1f_singers nl1f_villages nl1f_dams nl1f_echoes nl1f_deep nl1f_slide nl1a_heights nl1a_ladders nl1a_minutes nl1a_echoFrom nl1a_echoTo nl1a_homes nl1a_talls nl1a_known nv0f_deeds nv0a_kinds nv0a_firsts nv0a_seconds nv1f_deeds nv1a_kinds nv1a_firsts nv1a_seconds ns0f_facts ns0a_heard ns0a_huts ns0a_minutes ns1f_facts ns1a_heard ns1a_huts ns1a_minutes nc0f_voices nc0f_step nc0a_parts nc0a_heights nc1f_voices nc1f_step nc1a_parts nc1a_heights) (tmk ia_tape if_length if_fault if_place ia_counts il0f_huts il0f_singers il0f_villages il0f_dams il0f_echoes il0f_deep il0f_slide il0a_heights il0a_ladders il0a_minutes il0a_echoFrom il0a_echoTo il0a_homes il0a_talls il0a_known il1f_huts il1f_singers il1f_villages il1f_dams il1f_echoes il1f_deep il1f_slide il1a_heights il1a_ladders il1a_minutes il1a_echoFrom il1a_echoTo il1a_homes il1a_talls il1a_known iv0f_deeds iv0a_kinds iv0a_firsts iv0a_seconds iv1f_deeds iv1a_kinds iv1a_firsts iv1a_seconds is0f_facts is0a_heard is0a_huts is0a_minutes is1f_facts is1a_heard is1a_huts is1a_minutes ic0f_voices ic0f_step ic0a_parts ic0a_heights ic1f_voices ic1f_step ic1a_parts ic1a_heights) ∧ wxiW E qx qi na_tape nf_length nf_fault nf_place na_counts nl0f_huts nl0f_singers nl0f_villages nl0f_dams nl0f_echoes nl0f_deep nl0f_slide nl0a_heights nl0a_ladders nl0a_minutes nl0a_echoFrom nl0a_echoTo nl0a_homes nl0a_talls nl0a_known nl1f_huts nl1f_singers nl1f_villages nl1f_dams nl1f_echoes nl1f_deep nl1f_slide nl1a_heights nl1a_ladders nl1a_minutes nl1a_echoFrom nl1a_echoTo nl1a_homes nl1a_talls nl1a_known nv0f_deeds nv0a_kinds nv0a_firsts nv0a_seconds nv1f_deeds nv1a_kinds nv1a_firsts nv1a_seconds ns0f_facts ns0a_heard ns0a_huts ns0a_minutes ns1f_facts ns1a_heard ns1a_huts ns1a_minutes nc0f_voices nc0f_step nc0a_parts nc0a_heights nc1f_voices nc1f_step nc1a_parts nc1a_heights m_images rlf_huts rlf_singers rlf_villages rlf_dams rlf_echoes rlf_deep rlf_slide rla_heights rla_ladders rla_minutes rla_echoFrom rla_echoTo rla_homes rla_talls rla_known rvf_deeds rva_kinds rva_firsts rva_seconds rsf_facts rsa_heard rsa_huts rsa_minutes rcf_voices rcf_step rca_parts rca_heights rf_fault rf_faultPlace ra_numbers ra_tape rf_length rf_behind rf_kind rf_first rf_value rf_hutsToldOf rf_singersToldOf nf_minute nf_avalanches nf_begun nf_climbed nf_seed na_huts na_known na_levels na_snow na_open pa_heard pa_walked pa_total pa_longest pa_next pa_cover pa_now pa_then ko_stands ka_gaps ka_behind ba_less ba_full ia_tape if_length if_fault if_place ia_counts il0f_huts il0f_singers il0f_villages il0f_dams il0f_echoes il0f_deep il0f_slide il0a_heights il0a_ladders il0a_minutes il0a_echoFrom il0a_echoTo il0a_homes il0a_talls il0a_known il1f_huts il1f_singers il1f_villages il1f_dams il1f_echoes il1f_deep il1f_slide il1a_heights il1a_ladders il1a_minutes il1a_echoFrom il1a_echoTo il1a_homes il1a_talls il1a_known iv0f_deeds iv0a_kinds iv0a_firsts iv0a_seconds iv1f_deeds iv1a_kinds iv1a_firsts iv1a_seconds is0f_facts is0a_heard is0a_huts is0a_minutes is1f_facts is1a_heard is1a_huts is1a_minutes ic0f_voices ic0f_step ic0a_parts ic0a_heights ic1f_voices ic1f_step ic1a_parts ic1a_heights H) (wttA (qx + 1) qi)) 0 0 (wttA (qx + 1) qi) := by
  refine Met.ofW (cc := cX10_again) (maxL := 2) (ret := (some .boolean)) (by decide) rfl ?_
  intro p e s m args below meth c s₁ B hml hv
  obtain ⟨rfl, hM, hK⟩ := hv
  have zc := zc_of B hml
  have hx := zc.1
  have hb := zc.2.1
  have hl := lv_entry ([.ref qx, .int x1]) (n := 2) (Nat.le_of_ble_eq_true rfl)
  rw [lg_entry_eq]
  generalize (lg_sl ([.ref qx, .int x1]) ++ List.replicate (2 - (lg_sl ([.ref qx, .int x1])).length) Slot.unset).toArray = ls at hl ⊢
  have hl : lv_has ls 2 [(0, .ref qx), (1, .int x1)] := hl
  have hMx := xi_x hM
  have hS : va_S (wttA (qx + 1) qi) s.heap s.heap [] := va_S.rf
  have hsub : ∀ q, wttA (qx + 1) qi q → wttA (qx + 1) qi q := fun _ h => h
  have hin : vp_in x1 3 := iv_in (iv_lta (l := 0) (h := 2) (r_lt hr.2) (iv_leb (l := 0) (h := 2147483647) (r_nlt hr.1) (iv_lit (x := 0) (l := 0) (h := 0) (by decide)) (iv_top x1) (by decide)) (iv_lit (x := 3) (l := 3) (h := 3) (by decide)) (by decide)) (by decide)
  refine lv_iload_n hx hb dX10_again_0 rfl (lv_at hl 1 rfl) ?_
  refine lv_if_lt (tgt := 18) hx hb dX10_again_1 (by decide) (fun hc => absurd hc hr.1) (fun hc => ?_)
  refine lv_iload_n hx hb dX10_again_4 rfl (lv_at hl 1 rfl) ?_
  refine lv_iconst (v := (3 : Int32)) hx hb dX10_again_5 (by decide) ?_
  refine lv_icmp_ge (tgt := 18) hx hb dX10_again_6 (by decide) (fun hd => absurd hr.2 (Int32.not_lt.mpr hd)) (fun hd => ?_)
  refine lv_aload_n hx hb dX10_again_9 rfl (lv_at hl 0 rfl) ?_
  refine va_get (D := E.1) (ci := 10) (v := .ref (qx + 48)) (C := RX10) (T := TX10) (N := 7) hx hb zc.2.2.2.2.1 uw10 zc.2.2.2.1 hK.1 hMx 0 rfl rfl 1 (by decide) (zc.2.2.2.2.1 _ kf_10_16) (fun _ h9 => h9) rfl dX10_again_10 ?_
  refine lv_iload_n hx hb dX10_again_13 rfl (lv_at hl 1 rfl) ?_
  refine va_aldq hx hb hK.1 hMx 48 8 rfl rfl hin dX10_again_14 ?_
  rw [hm]
  refine W.eq (g2 := F0 m 15 ls (.ref qi :: [])) rfl ?_
  refine lv_ifnonnull (tgt := 20) hx hb dX10_again_15 (by decide) ?_
  refine lv_aload_n hx hb dX10_again_20 rfl (lv_at hl 0 rfl) ?_
  refine va_get (D := E.1) (ci := 10) (v := .ref (qx + 1)) (C := RX10) (T := TX10) (N := 7) hx hb zc.2.2.2.2.1 uw10 zc.2.2.2.1 hK.1 hMx 0 rfl rfl 0 (by decide) (zc.2.2.2.2.1 _ kf_10_10) (fun _ h9 => h9) rfl dX10_again_21 ?_
  refine lv_aload_n hx hb dX10_again_24 rfl (lv_at hl 0 rfl) ?_
  refine va_get (D := E.1) (ci := 10) (v := .ref (qx + 48)) (C := RX10) (T := TX10) (N := 7) hx hb zc.2.2.2.2.1 uw10 zc.2.2.2.1 hK.1 hMx 0 rfl rfl 1 (by decide) (zc.2.2.2.2.1 _ kf_10_16) (fun _ h9 => h9) rfl dX10_again_25 ?_
  refine lv_iload_n hx hb dX10_again_28 rfl (lv_at hl 1 rfl) ?_
  refine va_aldq hx hb hK.1 hMx 48 8 rfl rfl hin dX10_again_29 ?_
  rw [hm]
  refine W.eq (g2 := F0 m 30 ls (.ref qi :: .ref (qx + 1) :: [])) rfl ?_
  refine zVa_v [.ref qi] [] zc ky_X9_copyFrom kz_X9_copyFrom km_10_323 (c_wtt_X9_copyFrom_47 l (post := fun na_tape nf_length nf_fault nf_place na_counts nl0f_huts nl0f_singers nl0f_villages nl0f_dams nl0f_echoes nl0f_deep nl0f_slide nl0a_heights nl0a_ladders nl0a_minutes nl0a_echoFrom nl0a_echoTo nl0a_homes nl0a_talls nl0a_known nl1f_huts nl1f_singers nl1f_villages nl1f_dams nl1f_echoes nl1f_deep nl1f_slide nl1a_heights nl1a_ladders nl1a_minutes nl1a_echoFrom nl1a_echoTo nl1a_homes nl1a_talls nl1a_known nv0f_deeds nv0a_kinds nv0a_firsts nv0a_seconds nv1f_deeds nv1a_kinds nv1a_firsts nv1a_seconds ns0f_facts ns0a_heard ns0a_huts ns0a_minutes ns1f_facts ns1a_heard ns1a_huts ns1a_minutes nc0f_voices nc0f_step nc0a_parts nc0a_heights nc1f_voices nc1f_step nc1a_parts nc1a_heights => tG na_tape nf_length nf_fault nf_place na_counts nl0f_huts nl0f_singers nl0f_villages nl0f_dams nl0f_echoes nl0f_deep nl0f_slide nl0a_heights nl0a_ladders nl0a_minutes nl0a_echoFrom nl0a_echoTo nl0a_homes nl0a_talls nl0a_known nl1f_huts nl1f_singers nl1f_villages nl1f_dams nl1f_echoes nl1f_deep nl1f_slide nl1a_heights nl1a_ladders nl1a_minutes nl1a_echoFrom nl1a_echoTo nl1a_homes nl1a_talls nl1a_known nv0f_deeds nv0a_kinds nv0a_firsts nv0a_seconds nv1f_deeds nv1a_kinds nv1a_firsts nv1a_seconds ns0f_facts ns0a_heard ns0a_huts ns0a_minutes ns1f_facts ns1a_heard ns1a_huts ns1a_minutes nc0f_voices nc0f_step nc0a_parts nc0a_heights nc1f_voices nc1f_step nc1a_parts nc1a_heights ∧ tCP (tmk na_tape nf_length nf_fault nf_place na_counts nl0f_huts nl0f_singers nl0f_villages nl0f_dams nl0f_echoes nl0f_deep nl0f_slide nl0a_heights nl0a_ladders nl0a_minutes nl0a_echoFrom nl0a_echoTo nl0a_homes nl0a_talls nl0a_known nl1f_huts nl1f_singers nl1f_villages nl1f_dams nl1f_echoes nl1f_deep nl1f_slide nl1a_heights nl1a_ladders nl1a_minutes nl1a_echoFrom nl1a_echoTo nl1a_homes nl1a_talls nl1a_known nv0f_deeds nv0a_kinds nv0a_firsts nv0a_seconds nv1f_deeds nv1a_kinds nv1a_firsts nv1a_seconds ns0f_facts ns0a_heard ns0a_huts ns0a_minutes ns1f_facts ns1a_heard ns1a_huts ns1a_minutes nc0f_voices nc0f_step nc0a_parts nc0a_heights nc1f_voices nc1f_step nc1a_parts nc1a_heights) (tmk ia_tape if_length if_fault if_place ia_counts il0f_huts il0f_singers il0f_villages il0f_dams il0f_echoes il0f_deep il0f_slide il0a_heights il0a_ladders il0a_minutes il0a_echoFrom il0a_echoTo il0a_homes il0a_talls il0a_known il1f_huts il1f_singers il1f_villages il1f_dams il1f_echoes il1f_deep il1f_slide il1a_heights il1a_ladders il1a_minutes il1a_echoFrom il1a_echoTo il1a_homes il1a_talls il1a_known iv0f_deeds iv0a_kinds iv0a_firsts iv0a_seconds iv1f_deeds iv1a_kinds iv1a_firsts iv1a_seconds is0f_facts is0a_heard is0a_huts is0a_minutes is1f_facts is1a_heard is1a_huts is1a_minutes ic0f_voices ic0f_step ic0a_parts ic0a_heights ic1f_voices ic1f_step ic1a_parts ic1a_heights)) (tG_copy3 hT hI (fun _ _ _ _ _ _ _ _ _ _ _ _ _ _ _ _ _ _ _ _ _ _ _ _ _ _ _ _ _ _ _ _ _ _ _ _ _ _ _ _ _ _ _ _ _ _ _ _ _ _ _ _ _ _ _ _ _ _ _ h1 h2 => ⟨h1, h2⟩))) (wttPreV0 hK (pj_wxi_wtt_1_93 hM)) hS hsub rfl rfl hl.1 (Nat.le_of_ble_eq_true rfl) ⟨rfl, rfl⟩ ⟨(Nat.le_of_ble_eq_true rfl), (Nat.le_of_ble_eq_true rfl)⟩ ⟨Nat.le_refl _, Nat.le_refl _⟩ dX10_again_30 (fun u H4 locs hw hB hsz hk hS => ?_)
  have hM := jn_wxi_wtt_1_93 hM hB hk
  refine lv_iconst (v := (1 : Int32)) hx hb dX10_again_33 (by decide) ?_
  exact zret_zw () zc hS rfl rfl ⟨_, _, _, _, _, _, _, _, _, _, _, _, _, _, _, _, _, _, _, _, _, _, _, _, _, _, _, _, _, _, _, _, _, _, _, _, _, _, _, _, _, _, _, _, _, _, _, _, _, _, _, _, _, _, _, _, _, _, _, hw.1, hw.2, hM⟩ dX10_again_34
end
section
/-- bits of a number -/
def hb (s : Int32) (k : Nat) : Bool := s.toBitVec.getLsbD k
theorem sm_tab : ∀ k, k < 31 → ((nI k).toBitVec.smod 32).toNat = k := by decide +kernel
theorem hb_sh {s : Int32} {k : Nat} (hk : k < 31) : (s >>> (nI k &&& 31)) &&& 1 = if hb s k = true then 1 else 0 := by
  have e : (nI k &&& 31 : Int32) = nI k := by
    rw [pk_andN (n := k) (by omega) (m := 31) 5 (by decide), Nat.mod_eq_of_lt (by omega)]
  have sh : (s >>> nI k).toBitVec = s.toBitVec.sshiftRight k := by
    have h3 : (s >>> nI k).toBitVec = s.toBitVec.sshiftRight' ((nI k).toBitVec.smod 32) := rfl
    rw [h3, BitVec.sshiftRight_eq', sm_tab k hk]
  have g0 : (s >>> nI k).toBitVec.getLsbD 0 = hb s k := by
    unfold hb
    rw [sh, BitVec.getLsbD_sshiftRight]
    simp [show k < 32 by omega]
  have t0 : (s >>> nI k).toBitVec.getLsbD 0 = decide ((s >>> nI k).toBitVec.toNat % 2 = 1) := by
    rw [BitVec.getLsbD, Nat.testBit_zero]
  rw [e, pk_and (s >>> nI k) (m := 1) 1 (by decide), ← g0, t0]
  by_cases h : (s >>> nI k).toBitVec.toNat % 2 = 1
  · rw [decide_eq_true h, if_pos rfl, show (2 : Nat) ^ 1 = 2 from rfl, h]; rfl
  · have h2 : (s >>> nI k).toBitVec.toNat % 2 = 0 := by omega
    rw [decide_eq_false h, if_neg (by decide), show (2 : Nat) ^ 1 = 2 from rfl, h2]; rfl
theorem e_hasX {s : Int32} {k : Nat} {post : Int32 → Prop} (hk : k < 31) (h0 : hb s k = false → post 0) (h1 : hb s k = true → post 1) : q_z_X10_has_0 s (nI k) post := by
  unfold q_z_X10_has_0
  rw [hb_sh hk]
  cases h : hb s k with
  | true => rw [if_pos rfl]; exact ⟨fun h9 => absurd h9 (by decide), fun _ => h1 h⟩
  | false => rw [if_neg (by decide)]; exact ⟨fun _ => h0 h, fun h9 => absurd rfl h9⟩
theorem e_damX {s : Int32} {k : Nat} {post : Int32 → Prop} (hk : k < 31) (h0 : hb s k = false → post 0) (h1 : hb s k = true → post 1) : q_wl_X2_isDam_0 s (nI k) post := by
  unfold q_wl_X2_isDam_0
  rw [hb_sh hk]
  cases h : hb s k with
  | true => rw [if_pos rfl]; exact ⟨fun h9 => absurd h9 (by decide), fun _ => h1 h⟩
  | false => rw [if_neg (by decide)]; exact ⟨fun _ => h0 h, fun h9 => absurd rfl h9⟩
theorem e_hasM {s : Int32} {k : Nat} {post : Int32 → Prop} (hk : k < 31) (h0 : hb s k = false → post 0) (h1 : hb s k = true → post 1) : q_m_has_0 s (nI k) post := by
  unfold q_m_has_0
  rw [hb_sh hk]
  cases h : hb s k with
  | true =>
    rw [if_pos rfl]
    first | exact ⟨fun h9 => absurd rfl h9, fun _ => h1 h⟩ | exact ⟨fun _ => h1 h, fun h9 => absurd rfl h9⟩
  | false =>
    rw [if_neg (by decide)]
    first | exact ⟨fun _ => h0 h, fun h9 => absurd h9 (by decide)⟩ | exact ⟨fun h9 => absurd h9 (by decide), fun _ => h0 h⟩
theorem hb_0 (k : Nat) : hb 0 k = false := by
  unfold hb
  rw [show (0 : Int32).toBitVec = 0#32 from rfl, BitVec.getLsbD_zero]
theorem hb_or (s t : Int32) (k : Nat) : hb (s ||| t) k = (hb s k || hb t k) := by
  unfold hb
  rw [Int32.toBitVec_or, BitVec.getLsbD_or]
theorem hb_and (s t : Int32) (k : Nat) : hb (s &&& t) k = (hb s k && hb t k) := by
  unfold hb
  rw [Int32.toBitVec_and, BitVec.getLsbD_and]
theorem hb_not (t : Int32) {k : Nat} (hk : k < 32) : hb (t ^^^ (-1)) k = !hb t k := by
  unfold hb
  rw [Int32.toBitVec_xor, BitVec.getLsbD_xor, show (-1 : Int32).toBitVec = BitVec.allOnes 32 from by decide, BitVec.getLsbD_allOnes]
  simp [hk]
theorem hb_bit_tab : ((List.range 31).all fun i => (List.range 31).all fun k => hb ((1 : Int32) <<< (nI i &&& 31)) k == decide (i = k)) = true := by decide +kernel
theorem hb_bit {i k : Nat} (hi : i < 31) (hk : k < 31) : hb ((1 : Int32) <<< (nI i &&& 31)) k = decide (i = k) := by
  have h := List.all_eq_true.mp (List.all_eq_true.mp hb_bit_tab i (List.mem_range.mpr hi)) k (List.mem_range.mpr hk)
  exact eq_of_beq h
/-- a set of bits below n -/
theorem hb_ext {s t : Int32} {n : Nat} (hs : iv 0 (2 ^ n - 1 : Nat) s) (ht : iv 0 (2 ^ n - 1 : Nat) t) (hn : n ≤ 30) (h : ∀ k, k < n → hb s k = hb t k) : s = t := by
  obtain ⟨a, rfl, -, ha, -⟩ := iv_nI hs (by decide)
  obtain ⟨b, rfl, -, hb', -⟩ := iv_nI ht (by decide)
  have h2 : 2 ^ n ≤ 2 ^ 30 := Nat.pow_le_pow_right (by decide) hn
  have h0 : 0 < 2 ^ n := Nat.two_pow_pos n
  have tb : ∀ (m k : Nat), m < 2 ^ 31 → hb (nI m) k = m.testBit k := by
    intro m k hm
    unfold hb
    rw [BitVec.getLsbD, iv_tn hm]
  have e : a = b := by
    apply Nat.eq_of_testBit_eq
    intro k
    by_cases hk : k < n
    · rw [← tb a k (by omega), ← tb b k (by omega)]
      exact h k hk
    · have ha2 : a < 2 ^ k := Nat.lt_of_lt_of_le (by omega) (Nat.pow_le_pow_right (by decide) (Nat.le_of_not_lt hk))
      have hb2 : b < 2 ^ k := Nat.lt_of_lt_of_le (by omega) (Nat.pow_le_pow_right (by decide) (Nat.le_of_not_lt hk))
      rw [Nat.testBit_lt_two_pow ha2, Nat.testBit_lt_two_pow hb2]
  rw [e]
end
section
/-- a state of an evening: rows 0 at, 1 knows, 2 climbed, 3 snow, 4 level, 5 (begun, minute, avalanches) -/
def smk (at_ kn cl sn lv : Nat → Int32) (be mi av : Int32) : Nat → Nat → Int32 := fun r => match r with | 0 => at_ | 1 => kn | 2 => cl | 3 => sn | 4 => lv | 5 => (fun j => if j = 0 then be else if j = 1 then mi else av) | _ => fun _ => 0
def bitI (k : Nat) : Int32 := (1 : Int32) <<< (nI k &&& 31)
def cN (x : Int32) : Nat := x.toNatClampNeg
/-- how high a singer is -/
def hgh (td : Nat → Int32) (at_ cl : Nat → Int32) (s : Nat) : Int32 := (td (7 + cN (at_ s)) - td (31 + s)) + cl s * td (16 + cN (at_ s))
def dam (td : Nat → Int32) (h : Nat) : Bool := hb (td 3) h
def ech (td : Nat → Int32) (h x : Nat) : Nat → Bool
  | 0 => false
  | k + 1 => ech td h x k || (decide (td (43 + 2 * k) = nI h) && decide (td (44 + 2 * k) = nI x))
/-- whether a song that sounds in h is heard in x -/
def hear (td : Nat → Int32) (h x : Nat) : Bool := !dam td x && (decide (x = h) || ech td h x (cN (td 4)))
def knS (td at_ kn : Nat → Int32) (s t : Nat) : Nat → Int32 := fun o => if o < cN (td 1) ∧ hear td (cN (at_ s)) (cN (at_ o)) = true then kn o ||| bitI t else kn o
/-- begin, sing, whistle: who may -/
def mayR (td at_ kn : Nat → Int32) (be : Int32) (s : Nat) (x : Int32) (b : Bool) : Bool := decide (0 ≤ x ∧ x < 5) && hb (kn s) (cN x) && (hb be (cN x) == b) && !dam td (cN (at_ s))
def wrongR (td at_ cl lv : Nat → Int32) (s t : Nat) (whi : Bool) : Bool := decide (lv t < hgh td at_ cl s) || (!whi && decide (hgh td at_ cl s = lv t))
def rais (td at_ kn cl sn lv : Nat → Int32) (be mi av : Int32) (s t : Nat) (w : Bool) : Nat → Nat → Int32 :=
  smk at_ (knS td at_ kn s t) cl (upd sn (cN (at_ s)) (sn (cN (at_ s)) + (if w = true then 1 else 0))) (upd lv t (hgh td at_ cl s)) (be ||| bitI t) mi (av + (if w = true then 1 else 0))
def mayW (td at_ cl sn : Nat → Int32) (s : Nat) (x : Int32) : Bool := decide (0 ≤ x ∧ x < td 0) && !decide (td (51 + 9 * cN (at_ s) + cN x) = 0) && !decide (cl s = 1) && decide (sn (cN (at_ s)) < td 5) && decide (sn (cN x) < td 5)
/-- a deed: whether it can be, and the state behind it -/
def act (td : Nat → Int32) (k s x : Int32) (at_ kn cl sn lv : Nat → Int32) (be mi av : Int32) : Bool × (Nat → Nat → Int32) :=
  if ¬ (0 ≤ s ∧ s < td 1) then (false, smk at_ kn cl sn lv be mi av)
  else if k = 0 then (if mayR td at_ kn be (cN s) x false = true then (true, smk at_ (knS td at_ kn (cN s) (cN x)) cl sn (upd lv (cN x) (hgh td at_ cl (cN s))) (be ||| bitI (cN x)) mi av) else (false, smk at_ kn cl sn lv be mi av))
  else if k = 1 ∨ k = 2 then (if mayR td at_ kn be (cN s) x true = true then (true, rais td at_ kn cl sn lv be mi av (cN s) (cN x) (wrongR td at_ cl lv (cN s) (cN x) (decide (k = 2)))) else (false, smk at_ kn cl sn lv be mi av))
  else if k = 3 then (if mayW td at_ cl sn (cN s) x = true then (true, smk (upd at_ (cN s) x) kn cl sn lv be (mi + td (51 + 9 * cN (at_ (cN s)) + cN x)) av) else (false, smk at_ kn cl sn lv be mi av))
  else if k = 4 then (if ¬ td (16 + cN (at_ (cN s))) = 0 ∧ ¬ cl (cN s) = 1 then (true, smk at_ kn (upd cl (cN s) 1) sn lv be mi av) else (false, smk at_ kn cl sn lv be mi av))
  else (if ¬ cl (cN s) = 0 then (true, smk at_ kn (upd cl (cN s) 0) sn lv be mi av) else (false, smk at_ kn cl sn lv be mi av))
end
section
/-- the land's row of the reference -/
abbrev tdM (M : Nat → Nat → Int32) (k : Nat) : Nat → Int32 := rowM M 0 (nI k)
theorem cN_nI {n : Nat} (h : n < 2 ^ 31) : cN (nI n) = n := nI_clamp h
theorem e_highM {M : Nat → Nat → Int32} {at_ cl : Nat → Int32} {k s : Nat} {post : Int32 → Prop} (hk : k < 2) (hs : s < 6) (ha : iv 0 8 (at_ s)) (hp : post (hgh (tdM M k) at_ cl s)) : q_m_high_0 (M 5) (nI k) at_ cl (nI s) post := by
  have hin : vp_in (nI s) 6 := vp_in_nI hs (by omega)
  obtain ⟨a, ea, -, ha8, -⟩ := iv_nI ha (by decide)
  unfold hgh at hp
  rw [ea, cN_nI (by omega)] at hp
  refine ⟨hin, ?_⟩
  rw [nI_clamp (by omega), ea]
  refine e_of (i := 7 + a) hk (by omega) (jx 7 a) ?_
  refine e_of (i := 31 + s) hk (by omega) (jx 31 s) ⟨hin, hin, ?_⟩
  exact e_of (i := 16 + a) hk (by omega) (jx 16 a) hp
theorem e_damM {M : Nat → Nat → Int32} {k h : Nat} {post : Int32 → Prop} (hk : k < 2) (hh : h < 31) (h0 : dam (tdM M k) h = false → post 0) (h1 : dam (tdM M k) h = true → post 1) : q_m_isDam_0 (M 5) (nI k) (nI h) post :=
  e_of (i := 3) hk (by omega) rfl (e_hasM hh (fun e => ⟨rfl, h0 e⟩) (fun e => ⟨rfl, h1 e⟩))
theorem e_cutM {M : Nat → Nat → Int32} {sn : Nat → Int32} {k h : Nat} {post : Int32 → Prop} (hk : k < 2) (hh : h < 9) (h0 : sn h < tdM M k 5 → post 0) (h1 : ¬ sn h < tdM M k 5 → post 1) : q_m_isCut_0 (M 5) (nI k) sn (nI h) post := by
  refine ⟨vp_in_nI hh (by omega), e_of (i := 5) hk (by omega) rfl ?_⟩
  rw [nI_clamp (by omega)]
  exact ⟨h0, h1⟩
theorem e_hearM {M : Nat → Nat → Int32} {k h : Nat} {post : Int32 → Prop} (hk : k < 2) (hh : h < 9) (hL : mLand (M 5)) (hp : ∀ set, (∀ x, x < 31 → hb set x = hear (tdM M k) h x) → post set) : q_m_hearing_0 (M 5) (nI k) (nI h) post := by
  have h4 : iv 0 4 (tdM M k 4) := row_iv hL hk (by omega)
  obtain ⟨c, hc, -, hc4, -⟩ := iv_nI h4 (by decide)
  intro v ev P hP
  have loop : ∀ m j (x2 : Int32), m + j = c → (∀ x, x < 31 → hb x2 x = (decide (x = h) || ech (tdM M k) h x j)) → P x2 (nI j) := by
    intro m
    induction m with
    | zero =>
      intro j x2 hj hx
      apply hP
      refine e_of (i := 4) hk (by omega) rfl ?_
      rw [show rowM M 0 (nI k) 4 = nI c from hc]
      refine pk_le c j (fun _ => e_of (i := 3) hk (by omega) rfl (hp _ (fun x hx9 => ?_))) (fun h9 => absurd h9 (by omega))
      rw [hb_and, hb_not _ (by omega), hx x hx9]
      unfold hear
      rw [hc, cN_nI (by omega), show c = j by omega, Bool.and_comm]
      rfl
    | succ m ih =>
      intro j x2 hj hx
      apply hP
      refine e_of (i := 4) hk (by omega) rfl ?_
      rw [show rowM M 0 (nI k) 4 = nI c from hc]
      refine pk_le c j (fun h9 => absurd h9 (by omega)) (fun _ => ?_)
      have hi : (43 : Int32) + 2 * nI j = nI (43 + 2 * j) := by rw [show (43 : Int32) = nI 43 from rfl, show (2 : Int32) = nI 2 from rfl, pk_mul, nI_add]
      have st : ∀ y : Int32, (∀ x, x < 31 → hb y x = (decide (tdM M k (43 + 2 * j) = nI h) && decide (tdM M k (44 + 2 * j) = nI x))) → q_m_hearing_48 P (M 5) (nI k) (nI h) (nI j) x2 y post := by
        intro y hy v1 e1 v2 e2
        rw [e1, e2, nI_1]
        refine ih (j + 1) _ (by omega) (fun x hx9 => ?_)
        rw [hb_or, hx x hx9, hy x hx9]
        show _ = (decide (x = h) || (ech (tdM M k) h x j || _))
        rw [Bool.or_assoc]
      refine e_of (i := 43 + 2 * j) hk (by omega) hi ⟨fun hne => st 0 (fun x hx9 => ?_), fun he => ?_⟩
      · rw [hb_0, decide_eq_false hne]; rfl
      · have hy8 : iv 0 8 (tdM M k (44 + 2 * j)) := iv_w (row_iv hL hk (by omega)) (by
          have : mRh (44 + 2 * j) = 8 := by
            have hj4 : j < 4 := by omega
            have hc : j = 0 ∨ j = 1 ∨ j = 2 ∨ j = 3 := by omega
            rcases hc with rfl | rfl | rfl | rfl <;> decide
          rw [this]; decide)
        obtain ⟨y, ey, -, hy, -⟩ := iv_nI hy8 (by decide)
        refine e_of (i := 44 + 2 * j) hk (by omega) (by rw [hi, nI_1, show 43 + 2 * j + 1 = 44 + 2 * j by omega]) (st _ (fun x hx9 => ?_))
        rw [show rowM M 0 (nI k) (44 + 2 * j) = nI y from ey, ey, hb_bit (by omega) hx9, decide_eq_true (show tdM M k (43 + 2 * j) = nI h from he), Bool.true_and]
        by_cases hxy : y = x
        · subst hxy; rw [decide_eq_true rfl, decide_eq_true rfl]
        · rw [decide_eq_false hxy, decide_eq_false (fun h9 => hxy ((nI_eq (by omega) (by omega)).mp h9))]
  have h0 := loop c 0 v (by omega) (fun x hx => ?_)
  · exact h0
  · rw [ev, hb_bit (by omega) hx]
    show decide (h = x) = (decide (x = h) || false)
    rw [Bool.or_false]
    by_cases hxh : h = x
    · rw [decide_eq_true hxh, decide_eq_true hxh.symm]
    · rw [decide_eq_false hxh, decide_eq_false (fun h9 => hxh h9.symm)]
/-- the state's ranges -/
def nR (at_ kn cl sn lv : Nat → Int32) : Prop := (∀ j, j < 6 → iv 0 8 (at_ j)) ∧ (∀ j, j < 6 → cl j = 0 ∨ cl j = 1)
theorem e_soundsM {M : Nat → Nat → Int32} {at_ kn cl lv : Nat → Int32} {be : Int32} {k s t : Nat} {post : (Nat → Int32) → (Nat → Int32) → Int32 → Prop} (hk : k < 2) (hs : s < 6) (ht : t < 5) (hL : mLand (M 5)) (ha : ∀ j, j < 6 → iv 0 8 (at_ j)) (hp : post (knS (tdM M k) at_ kn s t) (upd lv t (hgh (tdM M k) at_ cl s)) (be ||| bitI t)) : q_m_sounds_0 (M 5) (nI k) (tdM M k 1) at_ kn cl lv be (nI s) (nI t) post := by
  have h1 : iv 0 6 (tdM M k 1) := row_iv hL hk (by omega)
  obtain ⟨c, hc, -, hc6, -⟩ := iv_nI h1 (by decide)
  obtain ⟨a, ea, -, ha8, -⟩ := iv_nI (ha s hs) (by decide)
  refine ⟨vp_in_nI hs (by omega), ?_⟩
  rw [nI_clamp (by omega), ea]
  refine e_hearM hk (by omega) hL (fun set hset => e_highM hk hs (ha s hs) ⟨vp_in_nI ht (by omega), fun lv1 e1 v e2 => ?_⟩)
  rw [nI_clamp (by omega)] at e1
  subst e1
  have e3 : v = be ||| bitI t := e2
  subst e3
  intro P hP
  have loop : ∀ m o (kn1 : Nat → Int32), m + o = c → (∀ j, kn1 j = if j < o ∧ hear (tdM M k) a (cN (at_ j)) = true then kn j ||| bitI t else kn j) → P (nI o) kn1 := by
    intro m
    induction m with
    | zero =>
      intro o kn1 ho hq
      apply hP
      rw [hc]
      refine pk_le c o (fun _ => ?_) (fun h9 => absurd h9 (by omega))
      have e : kn1 = knS (tdM M k) at_ kn s t := by
        funext j
        rw [hq j]
        unfold knS
        rw [hc, cN_nI (by omega), ea, cN_nI (by omega), show c = o by omega]
      rw [e]
      exact hp
    | succ m ih =>
      intro o kn1 ho hq
      apply hP
      have hin : vp_in (nI o) 6 := vp_in_nI (by omega) (by omega)
      rw [hc]
      refine pk_le c o (fun h9 => absurd h9 (by omega)) (fun _ => ⟨hin, hin, ?_⟩)
      rw [nI_clamp (by omega)]
      obtain ⟨b, eb, -, hb8, -⟩ := iv_nI (ha o (by omega)) (by decide)
      have hko : kn1 o = kn o := by rw [hq o, if_neg (fun h9 => by omega)]
      have st : ∀ y : Int32, (kn1 o ||| y) = (if hear (tdM M k) a b = true then kn o ||| bitI t else kn o) → q_m_sounds_75 P (M 5) (nI k) (nI c) at_ kn1 cl (upd lv t (hgh (tdM M k) at_ cl s)) (be ||| bitI t) (nI t) set (nI o) (nI o) (kn1 o) y post := by
        intro y hy v1 e1
        refine ⟨hin, fun k1 e2 v2 e3 => ?_⟩
        rw [nI_clamp (by omega), e1, hy] at e2
        rw [e3, nI_1, e2]
        refine ih (o + 1) _ (by omega) (fun j => ?_)
        by_cases hjo : j = o
        · subst hjo
          rw [up_s, eb, cN_nI (by omega)]
          by_cases hh : hear (tdM M k) a b = true
          · rw [if_pos hh, if_pos ⟨by omega, hh⟩]
          · rw [if_neg hh, if_neg (fun h9 => hh h9.2)]
        · rw [up_n hjo, hq j]
          by_cases hh : hear (tdM M k) a (cN (at_ j)) = true
          · by_cases hlt : j < o
            · rw [if_pos ⟨hlt, hh⟩, if_pos ⟨by omega, hh⟩]
            · rw [if_neg (fun h9 => hlt h9.1), if_neg (fun h9 => by omega)]
          · rw [if_neg (fun h9 => hh h9.2), if_neg (fun h9 => hh h9.2)]
      rw [eb]
      refine e_hasM (by omega) (fun h9 => iz (st 0 ?_)) (fun h9 => oi (st _ ?_))
      · rw [hset b (by omega)] at h9
        rw [if_neg (by rw [h9]; decide), hko]
        simp
      · rw [hset b (by omega)] at h9
        rw [if_pos h9, hko]
        rfl
  exact loop c 0 kn (by omega) (fun j => by rw [if_neg (fun h9 => by omega)])
theorem kn_hi : ((List.range 32).all fun m => (List.range 31).all fun x => decide (x < 5) || !hb (nI m) x) = true := by decide +kernel
theorem kn_m1 : ∀ m, m < 32 → ((nI m >>> ((-1 : Int32) &&& 31)) &&& 1) = 0 := by decide +kernel
theorem e_hasK {kn x : Int32} {post : Int32 → Prop} (hkn : iv 0 31 kn) (hx : iv (-1) 8 x) (h0 : (decide (0 ≤ x ∧ x < 5) && hb kn (cN x)) = false → post 0) (h1 : ∀ t, t < 5 → x = nI t → hb kn t = true → post 1) : q_m_has_0 kn x post := by
  obtain ⟨m, rfl, -, hm, -⟩ := iv_nI hkn (by decide)
  by_cases hneg : x < 0
  · have e : x = -1 := by
      apply Int32.toInt_inj.mp
      have := r_lt hneg
      have e0 : (0 : Int32).toInt = 0 := rfl
      have em : (-1 : Int32).toInt = -1 := rfl
      have := hx.1
      omega
    have hf := h0 (by rw [decide_eq_false (fun h9 => absurd hneg (Int32.not_lt.mpr h9.1))]; rfl)
    subst e
    unfold q_m_has_0
    rw [kn_m1 m (by omega)]
    exact ⟨fun _ => hf, fun h9 => absurd h9 (by decide)⟩
  · obtain ⟨t, ht, rfl⟩ := nI_of hneg
    have ht8 : t ≤ 8 := by
      have := hx.2
      rw [nI_toInt ht] at this
      omega
    rw [cN_nI ht] at h0
    refine e_hasM (by omega) (fun h9 => h0 (by rw [h9, Bool.and_false])) (fun h9 => ?_)
    have h5 : t < 5 := by
      have g := List.all_eq_true.mp (List.all_eq_true.mp kn_hi m (List.mem_range.mpr (by omega))) t (List.mem_range.mpr (by omega))
      rw [h9] at g
      simpa using g
    exact h1 t h5 rfl h9
theorem e_mayBeginM {M : Nat → Nat → Int32} {at_ kn : Nat → Int32} {be x : Int32} {k s : Nat} {post : Int32 → Prop} (hk : k < 2) (hs : s < 6) (ha : iv 0 8 (at_ s)) (hkn : iv 0 31 (kn s)) (hx : iv (-1) 8 x) (h0 : mayR (tdM M k) at_ kn be s x false = false → post 0) (h1 : mayR (tdM M k) at_ kn be s x false = true → post 1) : q_m_mayBegin_0 (M 5) (nI k) at_ kn be (nI s) x post := by
  have hin : vp_in (nI s) 6 := vp_in_nI hs (by omega)
  obtain ⟨a, ea, -, ha8, -⟩ := iv_nI ha (by decide)
  unfold mayR at h0 h1
  refine ⟨hin, ?_⟩
  rw [nI_clamp (by omega)]
  refine e_hasK hkn hx (fun h9 => iz (h0 (by rw [h9]; rfl))) (fun t ht ex h9 => oi ?_)
  subst ex
  rw [cN_nI (by omega), h9, decide_eq_true (show 0 ≤ nI t ∧ nI t < 5 from ⟨nI_pos' (by omega), nI_lt (b := 5) ht (by omega)⟩), ea, cN_nI (by omega)] at h0 h1
  refine e_hasM (by omega) (fun hb0 => zi ⟨hin, ?_⟩) (fun hb1 => io (h0 (by rw [hb1]; rfl)))
  rw [ea]
  rw [hb0] at h0 h1
  exact e_damM hk (by omega) (fun hd => zi (h1 (by rw [hd]; rfl))) (fun hd => io (h0 (by rw [hd]; rfl)))
theorem e_maySingM {M : Nat → Nat → Int32} {at_ kn : Nat → Int32} {be x : Int32} {k s : Nat} {post : Int32 → Prop} (hk : k < 2) (hs : s < 6) (ha : iv 0 8 (at_ s)) (hkn : iv 0 31 (kn s)) (hx : iv (-1) 8 x) (h0 : mayR (tdM M k) at_ kn be s x true = false → post 0) (h1 : mayR (tdM M k) at_ kn be s x true = true → post 1) : q_m_maySing_0 (M 5) (nI k) at_ kn be (nI s) x post := by
  have hin : vp_in (nI s) 6 := vp_in_nI hs (by omega)
  obtain ⟨a, ea, -, ha8, -⟩ := iv_nI ha (by decide)
  unfold mayR at h0 h1
  refine ⟨hin, ?_⟩
  rw [nI_clamp (by omega)]
  refine e_hasK hkn hx (fun h9 => iz (h0 (by rw [h9]; rfl))) (fun t ht ex h9 => oi ?_)
  subst ex
  rw [cN_nI (by omega), h9, decide_eq_true (show 0 ≤ nI t ∧ nI t < 5 from ⟨nI_pos' (by omega), nI_lt (b := 5) ht (by omega)⟩), ea, cN_nI (by omega)] at h0 h1
  refine e_hasM (by omega) (fun hb0 => iz (h0 (by rw [hb0]; rfl))) (fun hb1 => oi ⟨hin, ?_⟩)
  rw [ea]
  rw [hb1] at h0 h1
  exact e_damM hk (by omega) (fun hd => zi (h1 (by rw [hd]; rfl))) (fun hd => io (h0 (by rw [hd]; rfl)))
theorem mayR_x {td at_ kn : Nat → Int32} {be x : Int32} {s : Nat} {b : Bool} (h : mayR td at_ kn be s x b = true) : ∃ t, t < 5 ∧ x = nI t := by
  unfold mayR at h
  simp only [Bool.and_eq_true, decide_eq_true_eq] at h
  exact lt_nI (c := 5) (m := 5) (iv_lit (by decide)) h.1.1.1
theorem e_singsM {M : Nat → Nat → Int32} {at_ kn cl sn lv : Nat → Int32} {be av : Int32} {k s t : Nat} {w : Bool} {wi : Int32} {post : (Nat → Int32) → (Nat → Int32) → (Nat → Int32) → Int32 → Int32 → Prop} (hk : k < 2) (hs : s < 6) (ht : t < 5) (hL : mLand (M 5)) (ha : ∀ j, j < 6 → iv 0 8 (at_ j)) (hw : wi = if w = true then 1 else 0)
    (hp : ∀ g, g = wrongR (tdM M k) at_ cl lv s t w → post (knS (tdM M k) at_ kn s t) (upd sn (cN (at_ s)) (sn (cN (at_ s)) + (if g = true then 1 else 0))) (upd lv t (hgh (tdM M k) at_ cl s)) (be ||| bitI t) (av + (if g = true then 1 else 0))) : q_m_sings_0 (M 5) (nI k) (tdM M k 1) at_ kn cl sn lv be av (nI s) (nI t) wi post := by
  obtain ⟨a, ea, -, ha8, -⟩ := iv_nI (ha s hs) (by decide)
  have hin : vp_in (nI s) 6 := vp_in_nI hs (by omega)
  have hin5 : vp_in (nI t) 5 := vp_in_nI ht (by omega)
  have s37 : ∀ (g : Bool) (y : Int32), y = (if g = true then 1 else 0) → g = wrongR (tdM M k) at_ cl lv s t w → q_m_sings_37 (M 5) (nI k) (tdM M k 1) at_ kn cl sn lv be av (nI s) (nI t) y post := by
    intro g y hy hg
    have hq := hp g hg
    rw [ea, cN_nI (by omega)] at hq
    have s61 : q_m_sings_61 (M 5) (nI k) (tdM M k 1) at_ kn cl sn lv be av (nI s) (nI t) y (nI a) (sn a) (if g = true then 1 else 0) post := by
      intro v1 e1
      refine ⟨vp_in_nI (by omega) (by omega), fun sn1 e2 => ?_⟩
      rw [nI_clamp (by omega), e1] at e2
      have s78 : q_m_sings_78 (M 5) (nI k) (tdM M k 1) at_ kn cl sn1 lv be av (nI s) (nI t) av (if g = true then 1 else 0) post := by
        intro v2 e3
        refine e_soundsM hk hs ht hL ha ?_
        rw [e3, e2]
        exact hq
      cases g with
      | true =>
        rw [if_pos rfl] at hy s78
        subst hy
        exact ⟨fun h9 => absurd h9 (by decide), fun _ => s78⟩
      | false =>
        rw [if_neg (by decide)] at hy s78
        subst hy
        exact ⟨fun _ => s78, fun h9 => absurd rfl h9⟩
    refine ⟨hin, ?_⟩
    rw [nI_clamp (by omega), ea]
    refine ⟨vp_in_nI (by omega) (by omega), ?_⟩
    rw [nI_clamp (by omega)]
    cases g with
    | true =>
      rw [if_pos rfl] at hy s61
      subst hy
      exact ⟨fun h9 => absurd h9 (by decide), fun _ => s61⟩
    | false =>
      rw [if_neg (by decide)] at hy s61
      subst hy
      exact ⟨fun _ => s61, fun h9 => absurd rfl h9⟩
  refine e_highM hk hs (ha s hs) ⟨hin5, ?_⟩
  rw [nI_clamp (by omega)]
  unfold wrongR at s37
  refine ⟨fun hlt => s37 true 1 rfl (by rw [decide_eq_true hlt]; rfl), fun hlt => ⟨fun hw1 => s37 false 0 rfl ?_, fun hw0 => ?_⟩⟩
  · have e : w = true := by
      cases w with
      | true => rfl
      | false => rw [if_neg (by decide)] at hw; exact absurd hw hw1
    rw [decide_eq_false hlt, e]; rfl
  · have e : w = false := by
      cases w with
      | true => rw [if_pos rfl] at hw; rw [hw] at hw0; exact absurd hw0 (by decide)
      | false => rfl
    refine e_highM hk hs (ha s hs) ⟨hin5, ?_⟩
    refine ⟨fun hne => s37 false 0 rfl (by rw [decide_eq_false hlt, decide_eq_false hne, e]; rfl), fun he => s37 true 1 rfl (by rw [decide_eq_true he, e]; simp)⟩
end
section
theorem e_walksM {M : Nat → Nat → Int32} {at_ cl sn : Nat → Int32} {mi x : Int32} {k s : Nat} {post : Int32 → (Nat → Int32) → Int32 → Prop} (hk : k < 2) (hs : s < 6) (hL : mLand (M 5)) (ha : iv 0 8 (at_ s)) (h0 : mayW (tdM M k) at_ cl sn s x = false → post 0 at_ mi) (h1 : mayW (tdM M k) at_ cl sn s x = true → post 1 (upd at_ s x) (mi + tdM M k (51 + 9 * cN (at_ s) + cN x))) : q_m_walks_0 (M 5) (nI k) (tdM M k 0) at_ cl sn mi (nI s) x post := by
  obtain ⟨a, ea, -, ha8, -⟩ := iv_nI ha (by decide)
  have hin : vp_in (nI s) 6 := vp_in_nI hs (by omega)
  have b0 : iv 0 9 (tdM M k 0) := row_iv hL hk (by omega)
  unfold mayW at h0 h1
  unfold q_m_walks_0 q_m_isHut_0
  refine sp_in (fun hn => ⟨rfl, iz ?_⟩) (fun g1 g2 => ⟨rfl, oi ⟨hin, ?_⟩⟩)
  · refine ⟨fun _ => h0 ?_, fun h9 => absurd rfl h9⟩
    rw [decide_eq_false (fun h9 => hn ((in_lt (iv_w b0 (by decide))).mpr h9))]
    simp
  · have hlt := (in_lt (iv_w b0 (by decide) : iv 0 1000 (tdM M k 0))).mp ⟨g1, g2⟩
    obtain ⟨y, hy, ex⟩ := lt_nI (m := 9) b0 hlt
    rw [decide_eq_true hlt] at h0 h1
    rw [ea, ex, cN_nI (by omega), cN_nI (by omega)] at h0 h1
    rw [nI_clamp (by omega), ea, ex]
    refine e_of (i := 51 + 9 * a + y) hk (by omega) (ix9 a y) ?_
    refine ⟨fun hz => h0 ?_, fun hz => ⟨hin, ?_⟩⟩
    · rw [decide_eq_true hz]; simp
    · rw [decide_eq_false hz] at h0 h1
      rw [nI_clamp (by omega)]
      refine ⟨fun hc => h0 (by rw [decide_eq_true hc]; simp), fun hc => ⟨hin, ?_⟩⟩
      rw [decide_eq_false hc] at h0 h1
      rw [ea]
      refine e_cutM hk (by omega) (fun hc1 => zi ?_) (fun hc1 => io (h0 (by rw [decide_eq_false hc1]; simp)))
      rw [decide_eq_true hc1] at h0 h1
      refine e_cutM hk (by omega) (fun hc2 => iz ⟨hin, fun at1 e1 v e2 => ?_⟩) (fun hc2 => oi (h0 (by rw [decide_eq_false hc2]; simp)))
      rw [decide_eq_true hc2] at h1
      rw [e1, e2]
      exact h1 (by simp)
/-- the evening's row of the reference: deed j, number i -/
theorem e_deedOfM {M : Nat → Nat → Int32} {e j i : Nat} {x : Int32} {post : Int32 → Prop} (he : e < 2) (hj : j < 40) (hi : i < 3) (hx : x = nI i) (hp : post (rowM M 1 (nI e) (1 + 3 * j + i))) : q_m_deedOf_0 (M 6) (nI e) (nI j) x post := by
  have e9 : (((121 * nI e) + 1) + (3 * nI j)) + x = nI (121 * e + 1 + 3 * j + i) := by rw [hx]; exact ix3 121
  refine ⟨by rw [e9]; exact vp_in_nI (by omega) (by omega), ?_⟩
  rw [e9, nI_clamp (by omega)]
  unfold rowM at hp
  rw [nI_clamp (by omega)] at hp
  rw [show 121 * e + 1 + 3 * j + i = wD 1 * e + (1 + 3 * j + i) from by show _ = 121 * e + (1 + 3 * j + i); omega]
  exact hp
abbrev NT : Type := Int32 → (Nat → Int32) → (Nat → Int32) → (Nat → Int32) → (Nat → Int32) → (Nat → Int32) → Int32 → Int32 → Int32 → Prop
/-- a post of a state -/
def nP (post : NT) (r : Int32) (S : Nat → Nat → Int32) : Prop := post r (S 0) (S 1) (S 2) (S 3) (S 4) (S 5 0) (S 5 1) (S 5 2)
def bI (b : Bool) : Int32 := if b = true then 1 else 0
/-- deed j of an evening's row -/
def actR (td ev : Nat → Int32) (j : Nat) (at_ kn cl sn lv : Nat → Int32) (be mi av : Int32) : Bool × (Nat → Nat → Int32) := act td (ev (1 + 3 * j)) (ev (2 + 3 * j)) (ev (3 + 3 * j)) at_ kn cl sn lv be mi av
end
section
theorem de_ne {a b : Nat} (h : ¬ b = a) : decide (a = b) = false := decide_eq_false (fun h2 => h h2.symm)
theorem eve_iv {M : Nat → Nat → Int32} {e j : Nat} (hE : mEve (M 6)) (he : e < 2) (hj : j < 40) : iv 0 5 (rowM M 1 (nI e) (1 + 3 * j)) ∧ iv 0 5 (rowM M 1 (nI e) (2 + 3 * j)) ∧ iv (-1) 8 (rowM M 1 (nI e) (3 + 3 * j)) := by
  have g := (hE e (by omega)).2 j hj
  have w : ∀ i, rowM M 1 (nI e) i = M 6 (121 * e + i) := by
    intro i
    unfold rowM
    rw [nI_clamp (by omega)]
    rfl
  rw [w, w, w]
  rw [show 121 * e + (1 + 3 * j) = 121 * e + 1 + 3 * j by omega, show 121 * e + (2 + 3 * j) = 121 * e + 1 + 3 * j + 1 by omega, show 121 * e + (3 + 3 * j) = 121 * e + 1 + 3 * j + 2 by omega]
  exact g
theorem iv_k5 {K : Int32} (hK : iv 0 5 K) (h : K.toInt < 0 ∨ 4 < K.toInt) : K = 5 := by
  apply Int32.toInt_inj.mp
  have := hK.1
  have := hK.2
  have e5 : (5 : Int32).toInt = 5 := rfl
  omega
theorem e_beginM {M : Nat → Nat → Int32} {at_ kn cl sn : Nat → Int32} {be mi av : Int32} {k : Nat} {post : (Nat → Int32) → (Nat → Int32) → (Nat → Int32) → (Nat → Int32) → Int32 → Int32 → Int32 → Prop} (hk : k < 2)
    (hp : ∀ at1 kn1 cl1 sn1, (∀ j, j < 6 → at1 j = tdM M k (25 + j) ∧ kn1 j = tdM M k (37 + j) ∧ cl1 j = 0) → (∀ j, j < 9 → sn1 j = 0) → post at1 kn1 cl1 sn1 0 0 0) : q_m_begin_0 (M 5) (nI k) at_ kn cl sn be mi av post := by
  intro P hP
  have loop : ∀ m i (at1 kn1 cl1 : Nat → Int32), m = 6 - i → i ≤ 6 → (∀ j, j < i → at1 j = tdM M k (25 + j) ∧ kn1 j = tdM M k (37 + j) ∧ cl1 j = 0) → P (nI i) at1 kn1 cl1 := by
    intro m
    induction m using Nat.strongRecOn with
    | ind m ih =>
      intro i at1 kn1 cl1 hm hi hI
      apply hP
      refine pk_le 6 i (fun h6 => ?_) (fun h6 => ?_)
      · have e6 : i = 6 := by omega
        subst e6
        intro P2 hP2
        have loop2 : ∀ m i (sn1 : Nat → Int32), m = 9 - i → i ≤ 9 → (∀ j, j < i → sn1 j = 0) → P2 (nI i) sn1 := by
          intro m
          induction m using Nat.strongRecOn with
          | ind m ih2 =>
            intro i sn1 hm hi hS
            apply hP2
            refine pk_le 9 i (fun h9 => ?_) (fun h9 => ⟨vp_in_nI h9 (by omega), fun sn2 e1 v e2 => ?_⟩)
            · exact hp at1 kn1 cl1 sn1 hI (fun j hj => hS j (by omega))
            · rw [e2, nI_1]
              refine ih2 (9 - (i + 1)) (by omega) (i + 1) sn2 rfl (by omega) (fun j hj => ?_)
              rw [e1, nI_clamp (by omega)]
              by_cases hji : j = i
              · rw [hji, up_s]
              · rw [up_n hji]; exact hS j (by omega)
        exact loop2 _ 0 sn rfl (by omega) (fun j hj => absurd hj (by omega))
      · have hin : vp_in (nI i) 6 := vp_in_nI h6 (by omega)
        refine e_of (i := 25 + i) hk (by omega) (jx 25 i) ⟨hin, fun at2 e1 => ?_⟩
        refine e_of (i := 37 + i) hk (by omega) (jx 37 i) ⟨hin, fun kn2 e2 => ⟨hin, fun cl2 e3 v e4 => ?_⟩⟩
        rw [nI_clamp (by omega)] at e1 e2 e3
        rw [e4, nI_1]
        refine ih (6 - (i + 1)) (by omega) (i + 1) at2 kn2 cl2 rfl (by omega) (fun j hj => ?_)
        by_cases hji : j = i
        · subst hji
          rw [e1, e2, e3, up_s, up_s, up_s]
          exact ⟨rfl, rfl, rfl⟩
        · rw [e1, e2, e3, up_n hji, up_n hji, up_n hji]
          exact hI j (by omega)
  exact loop _ 0 at_ kn cl rfl (by omega) (fun j hj => absurd hj (by omega))
theorem e_doesM {M : Nat → Nat → Int32} {k e j : Nat} {at_ kn cl sn lv : Nat → Int32} {be mi av : Int32} {post : NT} (hk : k < 2) (he : e < 2) (hj : j < 40) (hL : mLand (M 5)) (hE : mEve (M 6)) (ha : ∀ j, j < 6 → iv 0 8 (at_ j)) (hkn : ∀ j, j < 6 → iv 0 31 (kn j))
    (hp : nP post (bI (actR (tdM M k) (rowM M 1 (nI e)) j at_ kn cl sn lv be mi av).1) (actR (tdM M k) (rowM M 1 (nI e)) j at_ kn cl sn lv be mi av).2) : q_m_does_0 (M 5) (M 6) (nI k) (tdM M k 0) (tdM M k 1) (nI e) at_ kn cl sn lv be mi av (nI j) post := by
  have hs1 : iv 0 6 (tdM M k 1) := row_iv hL hk (by omega)
  obtain ⟨hK, hS, hX⟩ := eve_iv hE he hj
  unfold actR at hp
  generalize eK : rowM M 1 (nI e) (1 + 3 * j) = K at hp hK
  generalize eS : rowM M 1 (nI e) (2 + 3 * j) = s at hp hS
  generalize eX : rowM M 1 (nI e) (3 + 3 * j) = x at hp hX
  have dK : ∀ {post : Int32 → Prop}, post K → q_m_deedOf_0 (M 6) (nI e) (nI j) 0 post := fun h => e_deedOfM he hj (i := 0) (by omega) rfl (by rw [Nat.add_zero, eK]; exact h)
  have dS : ∀ {post : Int32 → Prop}, post s → q_m_deedOf_0 (M 6) (nI e) (nI j) 1 post := fun h => e_deedOfM he hj (i := 1) (by omega) rfl (by rw [show 1 + 3 * j + 1 = 2 + 3 * j by omega, eS]; exact h)
  have dX : ∀ {post : Int32 → Prop}, post x → q_m_deedOf_0 (M 6) (nI e) (nI j) 2 post := fun h => e_deedOfM he hj (i := 2) (by omega) rfl (by rw [show 1 + 3 * j + 2 = 3 + 3 * j by omega, eX]; exact h)
  clear eS eX
  refine dS (dX ?_)
  unfold q_m_isSinger_0
  unfold act at hp
  refine sp_in (fun hn => ⟨rfl, zi ?_⟩) (fun g1 g2 => ⟨rfl, io ?_⟩)
  · rw [if_pos (fun h9 => hn ((in_lt (iv_w hs1 (by decide))).mpr h9))] at hp
    exact hp
  · have hlt := (in_lt (iv_w hs1 (by decide))).mp ⟨g1, g2⟩
    rw [if_neg (fun h9 => h9 hlt)] at hp
    obtain ⟨s', hs', es⟩ := lt_nI (m := 6) hs1 hlt
    subst es
    rw [cN_nI (by omega)] at hp
    have hin : vp_in (nI s') 6 := vp_in_nI hs' (by omega)
    refine dK ⟨fun hd => ?_, fun h0 => ?_, fun h1 => ?_, fun h2 => ?_, fun h3 => ?_, fun h4 => ?_⟩
    · have h5 : K = 5 := iv_k5 hK hd
      subst h5
      rw [if_neg (by decide), if_neg (by decide), if_neg (by decide), if_neg (by decide)] at hp
      refine ⟨hin, ?_⟩
      rw [nI_clamp (by omega)]
      refine ⟨fun hne => ⟨hin, fun c2 e2 => ?_⟩, fun he0 => ?_⟩
      · rw [if_pos hne] at hp
        rw [e2]
        exact hp
      · rw [if_neg (fun h9 => h9 he0)] at hp
        exact hp
    · subst h0
      rw [if_pos rfl] at hp
      refine e_mayBeginM hk hs' (ha s' hs') (hkn s' hs') hX (fun hf => zi ?_) (fun ht => io ?_)
      · rw [if_neg (by rw [hf]; decide)] at hp
        exact hp
      · rw [if_pos ht] at hp
        obtain ⟨t, ht5, ex⟩ := mayR_x ht
        subst ex
        rw [cN_nI (by omega)] at hp
        exact e_soundsM hk hs' ht5 hL ha hp
    · subst h1
      rw [if_neg (by decide), if_pos (Or.inl rfl)] at hp
      refine e_maySingM hk hs' (ha s' hs') (hkn s' hs') hX (fun hf => zi ?_) (fun ht => io ?_)
      · rw [if_neg (by rw [hf]; decide)] at hp
        exact hp
      · rw [if_pos ht] at hp
        obtain ⟨t, ht5, ex⟩ := mayR_x ht
        subst ex
        rw [cN_nI (by omega)] at hp
        refine dK ⟨fun _ => ?_, fun h9 => absurd h9 (by decide)⟩
        exact e_singsM (w := false) hk hs' ht5 hL ha rfl (fun g eg => by rw [eg]; exact hp)
    · subst h2
      rw [if_neg (by decide), if_pos (Or.inr rfl)] at hp
      refine e_maySingM hk hs' (ha s' hs') (hkn s' hs') hX (fun hf => zi ?_) (fun ht => io ?_)
      · rw [if_neg (by rw [hf]; decide)] at hp
        exact hp
      · rw [if_pos ht] at hp
        obtain ⟨t, ht5, ex⟩ := mayR_x ht
        subst ex
        rw [cN_nI (by omega)] at hp
        refine dK ⟨fun h9 => absurd rfl h9, fun _ => ?_⟩
        exact e_singsM (w := true) hk hs' ht5 hL ha rfl (fun g eg => by rw [eg]; exact hp)
    · subst h3
      rw [if_neg (by decide), if_neg (by decide), if_pos rfl] at hp
      refine e_walksM hk hs' hL (ha s' hs') (fun hf => ⟨rfl, ?_⟩) (fun ht => ⟨rfl, ?_⟩)
      · rw [if_neg (by rw [hf]; decide)] at hp
        exact hp
      · rw [if_pos ht] at hp
        exact hp
    · subst h4
      rw [if_neg (by decide), if_neg (by decide), if_neg (by decide), if_pos rfl] at hp
      obtain ⟨a, ea, -, ha8, -⟩ := iv_nI (ha s' hs') (by decide)
      rw [ea, cN_nI (by omega)] at hp
      refine ⟨hin, ?_⟩
      rw [nI_clamp (by omega), ea]
      refine e_of (i := 16 + a) hk (by omega) (jx 16 a) ⟨fun hz => ?_, fun hz => ⟨hin, fun hc => ⟨hin, fun c2 e2 => ?_⟩, fun hc => ?_⟩⟩
      · rw [if_neg (fun h9 => h9.1 hz)] at hp
        exact hp
      · rw [if_pos ⟨hz, hc⟩] at hp
        rw [e2]
        exact hp
      · rw [if_neg (fun h9 => h9.2 hc)] at hp
        exact hp
/-- a state, packed -/
def actS (td : Nat → Int32) (k s x : Int32) (S : Nat → Nat → Int32) : Bool × (Nat → Nat → Int32) := act td k s x (S 0) (S 1) (S 2) (S 3) (S 4) (S 5 0) (S 5 1) (S 5 2)
/-- a land's row, as told -/
def RNG (td : Nat → Int32) : Prop := ∀ j, j < 132 → iv 0 (mRh j) (td j)
def LOK (td : Nat → Int32) : Prop := (∀ s : Nat, s < 6 → nI s < td 1 → td (25 + s) < td 0) ∧ (∀ k : Nat, k < 4 → nI k < td 4 → td (43 + 2 * k) < td 0 ∧ td (44 + 2 * k) < td 0) ∧ ∀ h : Nat, h < 32 → hb (td 2) h = true → nI h < td 0
/-- a state's ranges -/
def NOK (td : Nat → Int32) (S : Nat → Nat → Int32) : Prop := (∀ j, j < 6 → iv 0 8 (S 0 j)) ∧ (∀ j, j < 6 → iv 0 31 (S 1 j)) ∧ (∀ j, j < 6 → S 2 j = 0 ∨ S 2 j = 1) ∧ iv 0 31 (S 5 0) ∧ (∀ j, j < 6 → nI j < td 1 → S 0 j < td 0) ∧ (∀ t, t < 5 → iv (-9) 108 (S 4 t)) ∧ (∀ t, t < 5 → hb (S 5 0) t = false → S 4 t = -1)
/-- two states are alike in what they show -/
def AGs (S' S : Nat → Nat → Int32) : Prop := (∀ j, j < 6 → S' 0 j = S 0 j ∧ S' 1 j = S 1 j ∧ S' 2 j = S 2 j) ∧ (∀ j, j < 9 → S' 3 j = S 3 j) ∧ (∀ t, t < 5 → hb (S 5 0) t = true → S' 4 t = S 4 t) ∧ S' 5 0 = S 5 0 ∧ S' 5 1 = S 5 1 ∧ S' 5 2 = S 5 2
theorem bit5 : ∀ t, t < 5 → iv 0 31 (bitI t) := by
  intro t ht
  have : t = 0 ∨ t = 1 ∨ t = 2 ∨ t = 3 ∨ t = 4 := by omega
  rcases this with rfl | rfl | rfl | rfl | rfl <;> exact iv_lit (by decide)
theorem hgh_iv {td : Nat → Int32} {at_ cl : Nat → Int32} {s : Nat} (hR : RNG td) (hs : s < 6) (ha : iv 0 8 (at_ s)) (hc : cl s = 0 ∨ cl s = 1) : iv (-9) 108 (hgh td at_ cl s) := by
  obtain ⟨a, ea, -, ha8, -⟩ := iv_nI ha (by decide)
  unfold hgh
  rw [ea, cN_nI (by omega)]
  have r1 : iv 0 99 (td (7 + a)) := iv_w (hR (7 + a) (by omega)) (by
    have h2 : a = 0 ∨ a = 1 ∨ a = 2 ∨ a = 3 ∨ a = 4 ∨ a = 5 ∨ a = 6 ∨ a = 7 ∨ a = 8 := by omega
    rcases h2 with rfl | rfl | rfl | rfl | rfl | rfl | rfl | rfl | rfl <;> decide)
  have r2 : iv 0 9 (td (31 + s)) := iv_w (hR (31 + s) (by omega)) (by
    have h2 : s = 0 ∨ s = 1 ∨ s = 2 ∨ s = 3 ∨ s = 4 ∨ s = 5 := by omega
    rcases h2 with rfl | rfl | rfl | rfl | rfl | rfl <;> decide)
  have r3 : iv 0 9 (td (16 + a)) := iv_w (hR (16 + a) (by omega)) (by
    have h2 : a = 0 ∨ a = 1 ∨ a = 2 ∨ a = 3 ∨ a = 4 ∨ a = 5 ∨ a = 6 ∨ a = 7 ∨ a = 8 := by omega
    rcases h2 with rfl | rfl | rfl | rfl | rfl | rfl | rfl | rfl | rfl <;> decide)
  have r4 : iv 0 9 (cl s * td (16 + a)) := by
    rcases hc with e | e
    · rw [e, Int32.zero_mul]; exact iv_lit (by decide)
    · rw [e, Int32.one_mul]; exact r3
  exact iv_add (l := -9) (h := 108) (iv_sub (l := -9) (h := 99) r1 r2 (by decide)) r4 (by decide)
end
section
theorem hb_bitI {i k : Nat} (hi : i < 31) (hk : k < 31) : hb (bitI i) k = decide (i = k) := hb_bit hi hk
theorem NOK_snd {td : Nat → Int32} {S : Nat → Nat → Int32} {s t : Nat} {sn : Nat → Int32} {mi av : Int32} (hR : RNG td) (h : NOK td S) (hs : s < 6) (ht : t < 5) : NOK td (smk (S 0) (knS td (S 0) (S 1) s t) (S 2) sn (upd (S 4) t (hgh td (S 0) (S 2) s)) (S 5 0 ||| bitI t) mi av) := by
  refine ⟨h.1, fun j hj => ?_, h.2.2.1, ?_, h.2.2.2.2.1, fun t' ht' => ?_, fun t' ht' hf => ?_⟩
  · show iv 0 31 (knS td (S 0) (S 1) s t j)
    unfold knS
    split
    · exact iv_or 5 (h.2.1 j hj) (bit5 t ht) (by decide)
    · exact h.2.1 j hj
  · show iv 0 31 (S 5 0 ||| bitI t)
    exact iv_or 5 h.2.2.2.1 (bit5 t ht) (by decide)
  · show iv (-9) 108 (upd (S 4) t (hgh td (S 0) (S 2) s) t')
    by_cases e : t' = t
    · rw [e, up_s]
      exact hgh_iv hR hs (h.1 s hs) (h.2.2.1 s hs)
    · rw [up_n e]
      exact h.2.2.2.2.2.1 t' ht'
  · show upd (S 4) t (hgh td (S 0) (S 2) s) t' = -1
    have hf' : hb (S 5 0 ||| bitI t) t' = false := hf
    rw [hb_or, Bool.or_eq_false_iff, hb_bitI (by omega) (by omega)] at hf'
    have e : ¬ t' = t := fun e => by
      rw [e] at hf'
      simp at hf'
    rw [up_n e]
    exact h.2.2.2.2.2.2 t' ht' hf'.1
theorem act_ok {td : Nat → Int32} {S : Nat → Nat → Int32} {k s x : Int32} (hR : RNG td) (h : NOK td S) : NOK td (actS td k s x S).2 := by
  have base : NOK td (smk (S 0) (S 1) (S 2) (S 3) (S 4) (S 5 0) (S 5 1) (S 5 2)) := h
  have h1 : iv 0 6 (td 1) := hR 1 (by omega)
  have h0 : iv 0 9 (td 0) := hR 0 (by omega)
  unfold actS act
  by_cases hs : ¬ (0 ≤ s ∧ s < td 1)
  · rw [if_pos hs]; exact base
  rw [if_neg hs]
  obtain ⟨s', hs', es⟩ := lt_nI (m := 6) h1 (Decidable.not_not.mp hs)
  subst es
  rw [cN_nI (by omega)]
  by_cases k0 : k = 0
  · rw [if_pos k0]
    by_cases hm : mayR td (S 0) (S 1) (S 5 0) s' x false = true
    · rw [if_pos hm]
      obtain ⟨t, ht5, ex⟩ := mayR_x hm
      subst ex
      rw [cN_nI (by omega)]
      exact NOK_snd hR h hs' ht5
    · rw [if_neg hm]; exact base
  rw [if_neg k0]
  by_cases k1 : k = 1 ∨ k = 2
  · rw [if_pos k1]
    by_cases hm : mayR td (S 0) (S 1) (S 5 0) s' x true = true
    · rw [if_pos hm]
      obtain ⟨t, ht5, ex⟩ := mayR_x hm
      subst ex
      rw [cN_nI (by omega)]
      exact NOK_snd hR h hs' ht5
    · rw [if_neg hm]; exact base
  rw [if_neg k1]
  by_cases k3 : k = 3
  · rw [if_pos k3]
    by_cases hm : mayW td (S 0) (S 2) (S 3) s' x = true
    · rw [if_pos hm]
      unfold mayW at hm
      simp only [Bool.and_eq_true, decide_eq_true_eq] at hm
      have hx := hm.1.1.1.1
      obtain ⟨y, hy, ex⟩ := lt_nI (m := 9) h0 hx
      refine ⟨fun j hj => ?_, h.2.1, h.2.2.1, h.2.2.2.1, fun j hj hl => ?_, h.2.2.2.2.2⟩
      · show iv 0 8 (upd (S 0) s' x j)
        by_cases e : j = s'
        · rw [e, up_s, ex]; exact iv_ofN (by omega) (by omega) (by omega)
        · rw [up_n e]; exact h.1 j hj
      · show upd (S 0) s' x j < td 0
        by_cases e : j = s'
        · rw [e, up_s]; exact hx.2
        · rw [up_n e]; exact h.2.2.2.2.1 j hj hl
    · rw [if_neg hm]; exact base
  rw [if_neg k3]
  have cl : ∀ v : Int32, v = 0 ∨ v = 1 → NOK td (smk (S 0) (S 1) (upd (S 2) s' v) (S 3) (S 4) (S 5 0) (S 5 1) (S 5 2)) := by
    intro v hv
    refine ⟨h.1, h.2.1, fun j hj => ?_, h.2.2.2⟩
    show upd (S 2) s' v j = 0 ∨ upd (S 2) s' v j = 1
    by_cases e : j = s'
    · rw [e, up_s]; exact hv
    · rw [up_n e]; exact h.2.2.1 j hj
  by_cases k4 : k = 4
  · rw [if_pos k4]
    split
    · exact cl 1 (Or.inr rfl)
    · exact base
  rw [if_neg k4]
  split
  · exact cl 0 (Or.inl rfl)
  · exact base
theorem hgh_ag {td : Nat → Int32} {S' S : Nat → Nat → Int32} {s : Nat} (H : AGs S' S) (hs : s < 6) : hgh td (S' 0) (S' 2) s = hgh td (S 0) (S 2) s := by
  unfold hgh
  rw [(H.1 s hs).1, (H.1 s hs).2.2]
theorem mayR_ag {td : Nat → Int32} {S' S : Nat → Nat → Int32} {s : Nat} {x : Int32} {b : Bool} (H : AGs S' S) (hs : s < 6) : mayR td (S' 0) (S' 1) (S' 5 0) s x b = mayR td (S 0) (S 1) (S 5 0) s x b := by
  unfold mayR
  rw [(H.1 s hs).1, (H.1 s hs).2.1, H.2.2.2.1]
theorem knS_ag {td : Nat → Int32} {S' S : Nat → Nat → Int32} {s t : Nat} (H : AGs S' S) (hs : s < 6) (j : Nat) (hj : j < 6) : knS td (S' 0) (S' 1) s t j = knS td (S 0) (S 1) s t j := by
  unfold knS
  rw [(H.1 s hs).1, (H.1 j hj).1, (H.1 j hj).2.1]
theorem mayR_b {td at_ kn : Nat → Int32} {be : Int32} {s t : Nat} {b : Bool} (ht : t < 5) (h : mayR td at_ kn be s (nI t) b = true) : hb be t = b := by
  unfold mayR at h
  simp only [Bool.and_eq_true, decide_eq_true_eq, beq_iff_eq] at h
  rw [← cN_nI (n := t) (by omega)]
  exact h.1.2
theorem AG_snd {td : Nat → Int32} {S' S : Nat → Nat → Int32} {s t : Nat} {sn' sn : Nat → Int32} {av' av : Int32} (H : AGs S' S) (hs : s < 6) (ht : t < 5) (hsn : ∀ j, j < 9 → sn' j = sn j) (hav : av' = av) : AGs (smk (S' 0) (knS td (S' 0) (S' 1) s t) (S' 2) sn' (upd (S' 4) t (hgh td (S' 0) (S' 2) s)) (S' 5 0 ||| bitI t) (S' 5 1) av') (smk (S 0) (knS td (S 0) (S 1) s t) (S 2) sn (upd (S 4) t (hgh td (S 0) (S 2) s)) (S 5 0 ||| bitI t) (S 5 1) av) := by
  refine ⟨fun j hj => ⟨(H.1 j hj).1, knS_ag H hs j hj, (H.1 j hj).2.2⟩, hsn, fun t' ht' hb' => ?_, ?_, H.2.2.2.2.1, hav⟩
  · show upd (S' 4) t (hgh td (S' 0) (S' 2) s) t' = upd (S 4) t (hgh td (S 0) (S 2) s) t'
    by_cases e : t' = t
    · rw [e, up_s, up_s, hgh_ag H hs]
    · rw [up_n e, up_n e]
      have h2 : hb (S 5 0 ||| bitI t) t' = true := hb'
      rw [hb_or, hb_bitI (by omega) (by omega), de_ne e, Bool.or_false] at h2
      exact H.2.2.1 t' ht' h2
  · show S' 5 0 ||| bitI t = S 5 0 ||| bitI t
    rw [H.2.2.2.1]
theorem mayW_ag {td : Nat → Int32} {S' S : Nat → Nat → Int32} {s : Nat} {x : Int32} (hR : RNG td) (hN : NOK td S) (H : AGs S' S) (hs : s < 6) : mayW td (S' 0) (S' 2) (S' 3) s x = mayW td (S 0) (S 2) (S 3) s x := by
  unfold mayW
  by_cases hx : 0 ≤ x ∧ x < td 0
  · obtain ⟨y, hy, ex⟩ := lt_nI (m := 9) (hR 0 (by omega)) hx
    obtain ⟨a, ea, -, ha8, -⟩ := iv_nI (hN.1 s hs) (by decide)
    rw [(H.1 s hs).1, (H.1 s hs).2.2, ea, ex, cN_nI (by omega), cN_nI (by omega), H.2.1 a (by omega), H.2.1 y hy]
  · rw [decide_eq_false hx]
    simp only [Bool.false_and]
theorem actS_ag {td : Nat → Int32} {S' S : Nat → Nat → Int32} {k s x : Int32} (hR : RNG td) (hN : NOK td S) (H : AGs S' S) : (actS td k s x S').1 = (actS td k s x S).1 ∧ AGs (actS td k s x S').2 (actS td k s x S).2 := by
  have base : AGs (smk (S' 0) (S' 1) (S' 2) (S' 3) (S' 4) (S' 5 0) (S' 5 1) (S' 5 2)) (smk (S 0) (S 1) (S 2) (S 3) (S 4) (S 5 0) (S 5 1) (S 5 2)) := H
  have h1 : iv 0 6 (td 1) := hR 1 (by omega)
  unfold actS act
  by_cases hs : ¬ (0 ≤ s ∧ s < td 1)
  · rw [if_pos hs, if_pos hs]; exact ⟨rfl, base⟩
  rw [if_neg hs, if_neg hs]
  obtain ⟨s', hs', es⟩ := lt_nI (m := 6) h1 (Decidable.not_not.mp hs)
  subst es
  rw [cN_nI (by omega)]
  by_cases k0 : k = 0
  · rw [if_pos k0, if_pos k0, mayR_ag H hs']
    by_cases hm : mayR td (S 0) (S 1) (S 5 0) s' x false = true
    · rw [if_pos hm, if_pos hm]
      obtain ⟨t, ht5, ex⟩ := mayR_x hm
      subst ex
      rw [cN_nI (by omega)]
      exact ⟨rfl, AG_snd H hs' ht5 H.2.1 H.2.2.2.2.2⟩
    · rw [if_neg hm, if_neg hm]; exact ⟨rfl, base⟩
  rw [if_neg k0, if_neg k0]
  by_cases k1 : k = 1 ∨ k = 2
  · rw [if_pos k1, if_pos k1, mayR_ag H hs']
    by_cases hm : mayR td (S 0) (S 1) (S 5 0) s' x true = true
    · rw [if_pos hm, if_pos hm]
      obtain ⟨t, ht5, ex⟩ := mayR_x hm
      subst ex
      rw [cN_nI (by omega)]
      obtain ⟨a, ea, -, ha8, -⟩ := iv_nI (hN.1 s' hs') (by decide)
      have hbt : hb (S 5 0) t = true := mayR_b ht5 hm
      have ew : ∀ w, wrongR td (S' 0) (S' 2) (S' 4) s' t w = wrongR td (S 0) (S 2) (S 4) s' t w := by
        intro w
        unfold wrongR
        rw [hgh_ag H hs', H.2.2.1 t ht5 hbt]
      unfold rais
      rw [ew]
      refine ⟨rfl, AG_snd H hs' ht5 (fun j hj => ?_) (by rw [H.2.2.2.2.2])⟩
      rw [(H.1 s' hs').1, ea, cN_nI (by omega), H.2.1 a (by omega)]
      by_cases e : j = a
      · rw [e, up_s, up_s]
      · rw [up_n e, up_n e]; exact H.2.1 j hj
    · rw [if_neg hm, if_neg hm]; exact ⟨rfl, base⟩
  rw [if_neg k1, if_neg k1]
  by_cases k3 : k = 3
  · rw [if_pos k3, if_pos k3, mayW_ag hR hN H hs']
    by_cases hm : mayW td (S 0) (S 2) (S 3) s' x = true
    · rw [if_pos hm, if_pos hm]
      refine ⟨rfl, fun j hj => ⟨?_, (H.1 j hj).2⟩, H.2.1, H.2.2.1, H.2.2.2.1, ?_, H.2.2.2.2.2⟩
      · show upd (S' 0) s' x j = upd (S 0) s' x j
        by_cases e : j = s'
        · rw [e, up_s, up_s]
        · rw [up_n e, up_n e]; exact (H.1 j hj).1
      · show S' 5 1 + _ = S 5 1 + _
        rw [(H.1 s' hs').1, H.2.2.2.2.1]
    · rw [if_neg hm, if_neg hm]; exact ⟨rfl, base⟩
  rw [if_neg k3, if_neg k3]
  have cl : ∀ v : Int32, AGs (smk (S' 0) (S' 1) (upd (S' 2) s' v) (S' 3) (S' 4) (S' 5 0) (S' 5 1) (S' 5 2)) (smk (S 0) (S 1) (upd (S 2) s' v) (S 3) (S 4) (S 5 0) (S 5 1) (S 5 2)) := by
    intro v
    refine ⟨fun j hj => ⟨(H.1 j hj).1, (H.1 j hj).2.1, ?_⟩, H.2⟩
    show upd (S' 2) s' v j = upd (S 2) s' v j
    by_cases e : j = s'
    · rw [e, up_s, up_s]
    · rw [up_n e, up_n e]; exact (H.1 j hj).2.2
  rw [(H.1 s' hs').1, (H.1 s' hs').2.2]
  by_cases k4 : k = 4
  · rw [if_pos k4, if_pos k4]
    split
    · exact ⟨rfl, cl 1⟩
    · exact ⟨rfl, base⟩
  rw [if_neg k4, if_neg k4]
  split
  · exact ⟨rfl, cl 0⟩
  · exact ⟨rfl, base⟩
/-- an evening from its deed j on, at most m deeds: how many there are, the state behind them -/
def plays (td ev : Nat → Int32) : Nat → Nat → (Nat → Nat → Int32) → Nat × (Nat → Nat → Int32)
  | 0, j, S => (j, S)
  | m + 1, j, S => if (actS td (ev (1 + 3 * j)) (ev (2 + 3 * j)) (ev (3 + 3 * j)) S).1 = true then plays td ev m (j + 1) (actS td (ev (1 + 3 * j)) (ev (2 + 3 * j)) (ev (3 + 3 * j)) S).2 else (j, (actS td (ev (1 + 3 * j)) (ev (2 + 3 * j)) (ev (3 + 3 * j)) S).2)
def S0 (td : Nat → Int32) : Nat → Nat → Int32 := smk (fun j => td (25 + j)) (fun j => td (37 + j)) (fun _ => 0) (fun _ => 0) (fun _ => -1) 0 0 0
theorem S0_ok {td : Nat → Int32} (hR : RNG td) (hL : LOK td) : NOK td (S0 td) := by
  refine ⟨fun j hj => ?_, fun j hj => ?_, fun j hj => Or.inl rfl, iv_lit (l := 0) (h := 31) (x := 0) (by decide), fun j hj hl => hL.1 j hj hl, fun t ht => iv_lit (l := -9) (h := 108) (x := -1) (by decide), fun t ht _ => rfl⟩
  · refine iv_w (hR (25 + j) (by omega)) ?_
    have h2 : j = 0 ∨ j = 1 ∨ j = 2 ∨ j = 3 ∨ j = 4 ∨ j = 5 := by omega
    rcases h2 with rfl | rfl | rfl | rfl | rfl | rfl <;> decide
  · refine iv_w (hR (37 + j) (by omega)) ?_
    have h2 : j = 0 ∨ j = 1 ∨ j = 2 ∨ j = 3 ∨ j = 4 ∨ j = 5 := by omega
    rcases h2 with rfl | rfl | rfl | rfl | rfl | rfl <;> decide
theorem plays_ok {td ev : Nat → Int32} (hR : RNG td) : ∀ m j S, NOK td S → NOK td (plays td ev m j S).2 := by
  intro m
  induction m with
  | zero => intro j S h; exact h
  | succ m ih =>
    intro j S h
    unfold plays
    split
    · exact ih _ _ (act_ok hR h)
    · exact act_ok hR h
theorem plays_le {td ev : Nat → Int32} : ∀ m j S, j ≤ (plays td ev m j S).1 ∧ (plays td ev m j S).1 ≤ j + m := by
  intro m
  induction m with
  | zero => intro j S; exact ⟨Nat.le_refl _, Nat.le_refl _⟩
  | succ m ih =>
    intro j S
    unfold plays
    split
    · have := ih (j + 1) (actS td (ev (1 + 3 * j)) (ev (2 + 3 * j)) (ev (3 + 3 * j)) S).2
      omega
    · exact ⟨Nat.le_refl _, by show j ≤ _; omega⟩
theorem e_playM {M : Nat → Nat → Int32} {k e n : Nat} {at_ kn cl sn lv : Nat → Int32} {be mi av : Int32} {post : NT} (hk : k < 2) (he : e < 2) (hn : n ≤ 40) (hL : mLand (M 5)) (hE : mEve (M 6)) (hO : LOK (tdM M k))
    (hp : ∀ S', AGs S' (plays (tdM M k) (rowM M 1 (nI e)) n 0 (S0 (tdM M k))).2 → nP post (nI (plays (tdM M k) (rowM M 1 (nI e)) n 0 (S0 (tdM M k))).1) S') : q_m_play_0 (M 5) (M 6) (nI k) (tdM M k 0) (tdM M k 1) (nI e) at_ kn cl sn lv be mi av (nI n) post := by
  have hR : RNG (tdM M k) := fun j hj => row_iv hL hk hj
  refine e_beginM hk (fun at1 kn1 cl1 sn1 hI hS => ?_)
  intro P hP
  have loop : ∀ m j (S' S : Nat → Nat → Int32), m = n - j → j ≤ n → NOK (tdM M k) S → AGs S' S → (∀ S2, AGs S2 (plays (tdM M k) (rowM M 1 (nI e)) m j S).2 → nP post (nI (plays (tdM M k) (rowM M 1 (nI e)) m j S).1) S2) → P (nI j) (S' 0) (S' 1) (S' 2) (S' 3) (S' 4) (S' 5 0) (S' 5 1) (S' 5 2) := by
    intro m
    induction m with
    | zero =>
      intro j S' S hm hj hN hA hq
      apply hP
      have e1 : j = n := by omega
      subst e1
      exact pk_le j j (fun _ => hq S' hA) (fun h9 => absurd h9 (by omega))
    | succ m ih =>
      intro j S' S hm hj hN hA hq
      apply hP
      refine pk_le n j (fun h9 => absurd h9 (by omega)) (fun h9 => ?_)
      have g := actS_ag (k := rowM M 1 (nI e) (1 + 3 * j)) (s := rowM M 1 (nI e) (2 + 3 * j)) (x := rowM M 1 (nI e) (3 + 3 * j)) hR hN hA
      have ok := act_ok (k := rowM M 1 (nI e) (1 + 3 * j)) (s := rowM M 1 (nI e) (2 + 3 * j)) (x := rowM M 1 (nI e) (3 + 3 * j)) hR hN
      refine e_doesM hk he (by omega) hL hE (fun i hi => by rw [(hA.1 i hi).1]; exact hN.1 i hi) (fun i hi => by rw [(hA.1 i hi).2.1]; exact hN.2.1 i hi) ?_
      unfold plays at hq
      show nP _ (bI (actS (tdM M k) (rowM M 1 (nI e) (1 + 3 * j)) (rowM M 1 (nI e) (2 + 3 * j)) (rowM M 1 (nI e) (3 + 3 * j)) S').1) (actS (tdM M k) (rowM M 1 (nI e) (1 + 3 * j)) (rowM M 1 (nI e) (2 + 3 * j)) (rowM M 1 (nI e) (3 + 3 * j)) S').2
      rw [g.1]
      by_cases hb1 : (actS (tdM M k) (rowM M 1 (nI e) (1 + 3 * j)) (rowM M 1 (nI e) (2 + 3 * j)) (rowM M 1 (nI e) (3 + 3 * j)) S).1 = true
      · rw [hb1]
        rw [if_pos hb1] at hq
        refine ⟨fun h8 => absurd h8 (by decide), fun _ v ev => ?_⟩
        rw [ev, nI_1]
        exact ih (j + 1) _ _ (by omega) (by omega) ok g.2 hq
      · rw [Bool.not_eq_true] at hb1
        rw [hb1]
        rw [if_neg (by rw [hb1]; decide)] at hq
        exact ⟨fun _ => hq _ g.2, fun h8 => absurd rfl h8⟩
  refine loop n 0 (smk at1 kn1 cl1 sn1 lv 0 0 0) (S0 (tdM M k)) (by omega) (by omega) (S0_ok hR hO) ?_ hp
  exact ⟨hI, hS, fun t ht h9 => absurd (show hb 0 t = true from h9) (by rw [hb_0]; decide), rfl, rfl, rfl⟩
end
section
/-- the class's night is as a state -/
def XG (td : Nat → Int32) (S : Nat → Nat → Int32) (mi av be cl : Int32) (hu kn lv sn : Nat → Int32) : Prop := (∀ j, j < 6 → hb cl j = decide (S 2 j = 1)) ∧ (∀ j, j < 6 → nI j < td 1 → hu j = S 0 j) ∧ (∀ j, j < 6 → kn j = S 1 j) ∧ (∀ t, t < 5 → lv t = S 4 t) ∧ (∀ j, j < 9 → sn j = S 3 j) ∧ be = S 5 0 ∧ mi = S 5 1 ∧ av = S 5 2
/-- the class's land is as a row; its heights, homes, talls in their places -/
def LX (td : Nat → Int32) (huts singers dams echoes deep : Int32) (heights ladders minutes echoFrom echoTo talls : Nat → Int32) : Prop := huts = td 0 ∧ singers = td 1 ∧ dams = td 3 ∧ echoes = td 4 ∧ deep = td 5 ∧ (∀ j : Nat, j < 9 → nI j < td 0 → heights j = td (7 + j)) ∧ (∀ j, j < 9 → ladders j = td (16 + j)) ∧ (∀ j, j < 81 → minutes j = td (51 + j)) ∧ (∀ j : Nat, j < 4 → nI j < td 4 → echoFrom j = td (43 + 2 * j) ∧ echoTo j = td (44 + 2 * j)) ∧ (∀ j : Nat, j < 6 → nI j < td 1 → talls j = td (31 + j))
theorem lt_cln {j m : Nat} {x : Int32} (hx : iv 0 m x) (hm : m < 1000) (h : nI j < x) (hj : j < 1000) : j < x.toNatClampNeg := by
  obtain ⟨n, rfl, -, hn, hn2⟩ := iv_nI hx (by decide)
  rw [nI_clamp hn2]
  exact (nI_ltI (by omega) hn2).mp h
theorem LX_of {td : Nat → Int32} {huts singers villages dams echoes deep slide : Int32} {heights ladders minutes echoFrom echoTo homes talls known : Nat → Int32} (hR : RNG td) (h : LDR huts singers villages dams echoes deep slide heights ladders minutes echoFrom echoTo homes talls known td) : LX td huts singers dams echoes deep heights ladders minutes echoFrom echoTo talls := by
  obtain ⟨e0, e1, e2, e3, e4, e5, e6, f1, f2, f3, f4, f5, f6⟩ := h
  have b0 : iv 0 (9 : Nat) (td 0) := hR 0 (by omega)
  have b1 : iv 0 (6 : Nat) (td 1) := hR 1 (by omega)
  have b4 : iv 0 (4 : Nat) (td 4) := hR 4 (by omega)
  exact ⟨e0, e1, e3, e4, e5, fun j hj hl => f1 j (lt_cln b0 (by omega) hl (by omega)), f2, f3, fun j hj hl => f4 j (lt_cln b4 (by omega) hl (by omega)), fun j hj hl => (f5 j (lt_cln b1 (by omega) hl (by omega))).2⟩
section
variable {td : Nat → Int32} {S : Nat → Nat → Int32} {mi av be cl : Int32} {hu kn lv sn : Nat → Int32} {huts singers dams echoes deep : Int32} {heights ladders minutes echoFrom echoTo talls : Nat → Int32}
theorem e_highX {s : Nat} {post : Int32 → Prop} (hR : RNG td) (hN : NOK td S) (hG : XG td S mi av be cl hu kn lv sn) (hD : LX td huts singers dams echoes deep heights ladders minutes echoFrom echoTo talls) (hs : s < 6) (hl : nI s < td 1) (hp : post (hgh td (S 0) (S 2) s)) : q_wn_X3_high_6_0 cl hu heights ladders talls (nI s) post := by
  obtain ⟨a, ea, -, ha8, -⟩ := iv_nI (hN.1 s hs) (by decide)
  have hin : vp_in (nI s) 6 := vp_in_nI hs (by omega)
  have ha0 : nI a < td 0 := by rw [← ea]; exact hN.2.2.2.2.1 s hs hl
  unfold hgh at hp
  rw [ea, cN_nI (by omega)] at hp
  refine ⟨hin, fun v1 e1 => ?_⟩
  rw [nI_clamp (by omega), hG.2.1 s hs hl, ea] at e1
  subst e1
  have hin9 : vp_in (nI a) 9 := vp_in_nI (by omega) (by omega)
  refine ⟨hin9, hin, fun v2 e2 => ?_⟩
  rw [nI_clamp (by omega), nI_clamp (by omega), hD.2.2.2.2.2.1 a (by omega) ha0, hD.2.2.2.2.2.2.2.2.2 s hs hl] at e2
  subst e2
  refine e_hasX (by omega) (fun h0 => iz ?_) (fun h1 => oi ⟨hin9, ?_⟩)
  · rw [hG.1 s hs] at h0
    have hz : S 2 s = 0 := by
      rcases hN.2.2.1 s hs with h | h
      · exact h
      · rw [h] at h0; exact absurd h0 (by decide)
    rw [hz, Int32.zero_mul, Int32.add_zero] at hp
    exact hp
  · rw [hG.1 s hs] at h1
    rw [of_decide_eq_true h1, Int32.one_mul] at hp
    rw [nI_clamp (by omega), hD.2.2.2.2.2.2.1 a (by omega)]
    exact hp
theorem e_earX {h : Nat} {post : Int32 → Prop} (hR : RNG td) (hd : dams = td 3) (he : echoes = td 4) (hf : ∀ j : Nat, j < 4 → nI j < td 4 → echoFrom j = td (43 + 2 * j) ∧ echoTo j = td (44 + 2 * j)) (hh : h < 9) (hp : ∀ set, (∀ x, x < 31 → hb set x = hear td h x) → post set) : q_wl_X2_earshot_0 dams echoes echoFrom echoTo (nI h) post := by
  have h4 : iv 0 4 (td 4) := hR 4 (by omega)
  obtain ⟨c, hc, -, hc4, -⟩ := iv_nI h4 (by decide)
  have st : ∀ y : Int32, (∀ x, x < 31 → hb y x = (!dam td x && decide (x = h))) → q_wl_X2_earshot_15 dams echoes echoFrom echoTo (nI h) y post := by
    intro y hy P hP
    have loop : ∀ m j (x2 : Int32), m = c - j → j ≤ c → (∀ x, x < 31 → hb x2 x = (!dam td x && (decide (x = h) || ech td h x j))) → P x2 (nI j) := by
      intro m
      induction m using Nat.strongRecOn with
      | ind m ih =>
        intro j x2 hm hj hx
        apply hP
        rw [he, hc]
        refine pk_le c j (fun h9 => ?_) (fun h9 => ?_)
        · refine hp x2 (fun x hx9 => ?_)
          rw [hx x hx9]
          unfold hear
          rw [hc, cN_nI (by omega), show j = c by omega]
        · have hin : vp_in (nI j) 4 := vp_in_nI (by omega) (by omega)
          have hl4 : nI j < td 4 := by rw [hc]; exact nI_lt h9 (by omega)
          obtain ⟨f1, f2⟩ := hf j (by omega) hl4
          have nx : ∀ x2' : Int32, (∀ x, x < 31 → hb x2' x = (!dam td x && (decide (x = h) || ech td h x (j + 1)))) → q_wl_X2_earshot_60 P dams (nI c) echoFrom echoTo (nI h) x2' (nI j) post := by
            intro x2' h2 v ev
            rw [ev, nI_1]
            exact ih (c - (j + 1)) (by omega) (j + 1) x2' rfl (by omega) h2
          have st1 : ∀ x, ech td h x (j + 1) = (ech td h x j || (decide (td (43 + 2 * j) = nI h) && decide (td (44 + 2 * j) = nI x))) := fun x => rfl
          refine ⟨hin, ?_⟩
          rw [nI_clamp (by omega), f1, f2]
          refine ⟨fun hne => nx x2 (fun x hx9 => ?_), fun heq => ⟨hin, ?_⟩⟩
          · rw [hx x hx9, st1, decide_eq_false hne, Bool.false_and, Bool.or_false]
          · have hy8 : iv 0 8 (td (44 + 2 * j)) := iv_w (hR (44 + 2 * j) (by omega)) (by
              have hcs : j = 0 ∨ j = 1 ∨ j = 2 ∨ j = 3 := by omega
              rcases hcs with rfl | rfl | rfl | rfl <;> decide)
            obtain ⟨y2, ey, -, hy2, -⟩ := iv_nI hy8 (by decide)
            rw [ey]
            have ex : ∀ x, x < 31 → (decide (td (43 + 2 * j) = nI h) && decide (td (44 + 2 * j) = nI x)) = decide (y2 = x) := by
              intro x hx9
              rw [decide_eq_true heq, Bool.true_and, ey]
              by_cases e : y2 = x
              · subst e; rw [decide_eq_true rfl, decide_eq_true rfl]
              · rw [decide_eq_false e, decide_eq_false (fun h8 => e ((nI_eq (by omega) (by omega)).mp h8))]
            refine e_damX (by omega) (fun hd0 => zi ⟨hin, fun v ev => nx v (fun x hx9 => ?_)⟩) (fun hd1 => io (nx x2 (fun x hx9 => ?_)))
            · rw [ev, hb_or, hx x hx9, hb_bit (by omega) hx9, st1, ex x hx9]
              rw [hd] at hd0
              by_cases e : y2 = x
              · subst e
                unfold dam
                rw [hd0, decide_eq_true rfl]
                simp
              · rw [decide_eq_false e, Bool.or_false, Bool.or_false]
            · rw [hx x hx9, st1, ex x hx9]
              rw [hd] at hd1
              by_cases e : y2 = x
              · subst e
                unfold dam
                rw [hd1]
                rfl
              · rw [decide_eq_false e, Bool.or_false]
    exact loop _ 0 y rfl (by omega) (fun x hx9 => by rw [hy x hx9]; show _ = (!dam td x && (decide (x = h) || false)); rw [Bool.or_false])
  refine e_damX (by omega) (fun hd0 => iz (st _ (fun x hx9 => ?_))) (fun hd1 => oi (st 0 (fun x hx9 => ?_)))
  · rw [hb_bit (by omega) hx9]
    rw [hd] at hd0
    by_cases e : h = x
    · subst e
      unfold dam
      rw [hd0, decide_eq_true rfl]
      rfl
    · rw [decide_eq_false e, de_ne e, Bool.and_false]
  · rw [hb_0]
    rw [hd] at hd1
    by_cases e : h = x
    · subst e
      unfold dam
      rw [hd1]
      rfl
    · rw [de_ne e, Bool.and_false]
theorem e_singersInX {bits : Int32} {post : Int32 → Prop} (hR : RNG td) (hN : NOK td S) (hG : XG td S mi av be cl hu kn lv sn) (hd : singers = td 1) (hp : ∀ set, (∀ o, o < 31 → hb set o = (decide (nI o < td 1) && hb bits (cN (S 0 o)))) → post set) : q_wn_X3_singersIn_6_0 hu singers bits post := by
  have h1 : iv 0 6 (td 1) := hR 1 (by omega)
  obtain ⟨c, hc, -, hc6, -⟩ := iv_nI h1 (by decide)
  intro P hP
  have loop : ∀ m j (x3 : Int32), m = c - j → j ≤ c → (∀ o, o < 31 → hb x3 o = (decide (o < j) && hb bits (cN (S 0 o)))) → P x3 (nI j) := by
    intro m
    induction m using Nat.strongRecOn with
    | ind m ih =>
      intro j x3 hm hj hx
      apply hP
      rw [hd, hc]
      refine pk_le c j (fun h9 => ?_) (fun h9 => ?_)
      · refine hp x3 (fun o ho => ?_)
        rw [hx o ho, hc, show j = c by omega]
        by_cases e : o < c
        · rw [decide_eq_true e, decide_eq_true (nI_lt e (by omega))]
        · rw [decide_eq_false e, decide_eq_false (fun h8 => e ((nI_ltI (by omega) (by omega)).mp h8))]
      · have hin : vp_in (nI j) 6 := vp_in_nI (by omega) (by omega)
        have hl : nI j < td 1 := by rw [hc]; exact nI_lt h9 (by omega)
        obtain ⟨a, ea, -, ha8, -⟩ := iv_nI (hN.1 j (by omega)) (by decide)
        have nx : ∀ x3' : Int32, (∀ o, o < 31 → hb x3' o = (decide (o < j + 1) && hb bits (cN (S 0 o)))) → q_wn_X3_singersIn_6_35 P hu (nI c) bits x3' (nI j) post := by
          intro x3' h2 v ev
          rw [ev, nI_1]
          exact ih (c - (j + 1)) (by omega) (j + 1) x3' rfl (by omega) h2
        have ex : ∀ o, ¬ o = j → decide (o < j + 1) = decide (o < j) := by
          intro o ho
          by_cases e : o < j
          · rw [decide_eq_true e, decide_eq_true (by omega)]
          · rw [decide_eq_false e, decide_eq_false (by omega)]
        refine ⟨hin, ?_⟩
        rw [nI_clamp (by omega), hG.2.1 j (by omega) hl, ea]
        refine e_hasX (by omega) (fun h0 => iz (nx x3 (fun o ho => ?_))) (fun h0 => oi (fun v ev => nx v (fun o ho => ?_)))
        · rw [hx o ho]
          by_cases e : o = j
          · subst e
            rw [ea, cN_nI (by omega), h0, Bool.and_false, Bool.and_false]
          · rw [ex o e]
        · rw [ev, hb_or, hx o ho, hb_bit (by omega) ho]
          by_cases e : o = j
          · subst e
            rw [ea, cN_nI (by omega), h0, decide_eq_true rfl, decide_eq_true (show o < o + 1 by omega)]
            simp
          · rw [ex o e, de_ne e, Bool.or_false]
  exact loop _ 0 0 rfl (by omega) (fun o ho => by rw [hb_0, decide_eq_false (by omega)]; rfl)
theorem i_le {x y : Int32} : (x ≤ y) ↔ ¬ y < x := by
  rw [Int32.le_iff_toInt_le, Int32.lt_iff_toInt_lt]; omega
theorem i_eq {x y : Int32} : (x = y) ↔ (¬ y < x ∧ ¬ x < y) := by
  rw [Int32.lt_iff_toInt_lt, Int32.lt_iff_toInt_lt, ← Int32.toInt_inj]; omega
/-- whether it is wrong -/
theorem e_wrongX {K h l : Int32} {post : Int32 → Prop} (hK : K = 0 ∨ K = 1 ∨ K = 2) (hp : ∀ w : Bool, w = (!decide (K = 0) && (decide (l < h) || (!decide (K = 2) && decide (h = l)))) → post (bI w)) : q_z_X3_isWrong_0 K h l post := by
  rcases hK with rfl | rfl | rfl
  · exact ⟨fun _ => ⟨fun _ => hp false (by rfl), fun h9 => absurd h9 (by decide)⟩, fun h9 => absurd h9 (by decide)⟩
  · refine ⟨fun h9 => absurd rfl h9, fun _ => ⟨fun hlt => hp false ?_, fun hlt => hp true ?_⟩⟩
    · rw [decide_eq_false (fun h9 : l < h => by have := r_lt h9; have := r_lt hlt; omega), decide_eq_false (fun h9 : h = l => by rw [h9] at hlt; have := r_lt hlt; omega)]
      rfl
    · by_cases e : l < h
      · rw [decide_eq_true e]; rfl
      · rw [decide_eq_true (i_eq.mpr ⟨e, hlt⟩)]
        rw [decide_eq_false e]; rfl
  · refine ⟨fun _ => ⟨fun h9 => absurd rfl h9, fun _ => ⟨fun hle => hp false ?_, fun hle => hp true ?_⟩⟩, fun h9 => absurd h9 (by decide)⟩
    · rw [decide_eq_false (i_le.mp hle)]
      rfl
    · rw [decide_eq_true (Decidable.not_not.mp (fun h9 => hle (i_le.mpr h9)))]
      rfl
def wI (b : Bool) : Int32 := if b = true then 1 else 0
theorem e_raiseX {K x : Int32} {s : Nat} {b : Bool} {post : Int32 → Int32 → Int32 → (Nat → Int32) → (Nat → Int32) → (Nat → Int32) → Prop} (hR : RNG td) (hN : NOK td S) (hG : XG td S mi av be cl hu kn lv sn) (hD : LX td huts singers dams echoes deep heights ladders minutes echoFrom echoTo talls) (hs : s < 6) (hl : nI s < td 1) (hK : K = 0 ∨ K = 1 ∨ K = 2) (hb1 : b = !decide (K = 0))
    (h0 : mayR td (S 0) (S 1) (S 5 0) s x b = false → post 0 av be kn lv sn)
    (h1 : ∀ t, t < 5 → x = nI t → mayR td (S 0) (S 1) (S 5 0) s (nI t) b = true → ∀ w, w = (!decide (K = 0) && wrongR td (S 0) (S 2) (S 4) s t (decide (K = 2))) → ∀ kn' lv' sn', (∀ j, j < 6 → kn' j = knS td (S 0) (S 1) s t j) → (∀ j, j < 5 → lv' j = upd (S 4) t (hgh td (S 0) (S 2) s) j) → (∀ j, j < 9 → sn' j = upd (S 3) (cN (S 0 s)) (S 3 (cN (S 0 s)) + wI w) j) → post 1 (S 5 2 + wI w) (S 5 0 ||| bitI t) kn' lv' sn') :
    q_wn_X3_raise_6_0 av be cl hu kn lv sn singers dams echoes heights ladders echoFrom echoTo talls K (nI s) x post := by
  obtain ⟨a, ea, -, ha8, -⟩ := iv_nI (hN.1 s hs) (by decide)
  have hin : vp_in (nI s) 6 := vp_in_nI hs (by omega)
  have hin9 : vp_in (nI a) 9 := vp_in_nI (by omega) (by omega)
  refine ⟨hin, fun v1 e1 => ?_⟩
  rw [nI_clamp (by omega), hG.2.1 s hs hl, ea] at e1
  subst e1
  refine ⟨fun hneg => h0 ?_, fun hneg => ⟨fun h5 => h0 ?_, fun h5 => ⟨hin, ?_⟩⟩⟩
  · unfold mayR
    rw [decide_eq_false (fun h9 => absurd hneg (Int32.not_lt.mpr h9.1))]
    rfl
  · unfold mayR
    rw [decide_eq_false (fun h9 => absurd h9.2 (Int32.not_lt.mpr h5))]
    rfl
  obtain ⟨t, ht, rfl⟩ := lt_nI (c := 5) (m := 5) (iv_lit (by decide)) ⟨Int32.not_lt.mp hneg, Int32.not_le.mp h5⟩
  have em : ∀ b, mayR td (S 0) (S 1) (S 5 0) s (nI t) b = (hb (S 1 s) t && (hb (S 5 0) t == b) && !dam td a) := by
    intro b
    unfold mayR
    rw [decide_eq_true ⟨nI_pos' (by omega), nI_lt (b := 5) ht (by omega)⟩, cN_nI (by omega), ea, cN_nI (by omega), Bool.true_and]
  rw [em] at h0
  rw [nI_clamp (by omega), hG.2.2.1 s hs]
  refine e_hasX (by omega) (fun hk0 => iz (h0 (by rw [hk0]; rfl))) (fun hk1 => oi ?_)
  rw [hD.2.2.1]
  refine e_damX (by omega) (fun hd0 => iz ?_) (fun hd1 => oi (h0 (by unfold dam; rw [hd1, Bool.not_true, Bool.and_false])))
  rw [hG.2.2.2.2.2.1]
  have hd0' : dam td a = false := hd0
  -- the sound itself
  have go : ∀ y0 y1 : Int32, ¬ y0 = y1 → (hb (S 5 0) t == b) = true → q_wn_X3_raise_6_62 av (S 5 0) cl hu kn lv sn singers (td 3) echoes heights ladders echoFrom echoTo talls K (nI s) (nI t) (nI a) y0 y1 post := by
    intro y0 y1 hy hbb
    refine ⟨fun _ => ?_, fun h9 => absurd h9 hy⟩
    have hm : mayR td (S 0) (S 1) (S 5 0) s (nI t) b = true := by rw [em, hk1, hbb, hd0']; rfl
    refine e_highX hR hN hG hD hs hl ⟨vp_in_nI ht (by omega), ?_⟩
    rw [nI_clamp (by omega), hG.2.2.2.1 t ht]
    refine e_wrongX hK (fun w ew => ?_)
    have h1' := h1 t ht rfl hm w (by rw [ew]; rfl)
    rw [ea, cN_nI (by omega)] at h1'
    have s112 : ∀ sn' : Nat → Int32, (∀ j, j < 9 → sn' j = upd (S 3) a (S 3 a + wI w) j) → q_wn_X3_raise_6_112 (S 5 2 + wI w) (S 5 0) cl hu kn lv sn' singers (td 3) echoes heights ladders echoFrom echoTo talls (nI t) (nI a) (hgh td (S 0) (S 2) s) post := by
      intro sn' hsn v1 e1
      refine ⟨vp_in_nI ht (by omega), fun lv1 e2 => ?_⟩
      rw [nI_clamp (by omega)] at e2
      refine e_earX hR rfl hD.2.2.2.1 hD.2.2.2.2.2.2.2.2.1 (by omega) (fun set hset => ?_)
      refine e_singersInX hR hN hG hD.2.1 (fun set2 hset2 => ?_)
      have b1 : iv 0 6 (td 1) := hR 1 (by omega)
      obtain ⟨c, hc, -, hc6, -⟩ := iv_nI b1 (by decide)
      have e1' : v1 = S 5 0 ||| bitI t := e1
      have e2' : ∀ j, j < 5 → lv1 j = upd (S 4) t (hgh td (S 0) (S 2) s) j := by
        intro j hj
        rw [e2]
        by_cases e : j = t
        · rw [e, up_s, up_s]
        · rw [up_n e, up_n e]; exact hG.2.2.2.1 j hj
      intro P hP
      have loop : ∀ m j (kn1 : Nat → Int32), m = c - j → j ≤ c → (∀ o, o < 6 → kn1 o = if o < j ∧ hear td a (cN (S 0 o)) = true then S 1 o ||| bitI t else S 1 o) → P (nI j) kn1 := by
        intro m
        induction m using Nat.strongRecOn with
        | ind m ih =>
          intro j kn1 hm2 hj hx
          apply hP
          rw [hD.2.1, hc]
          refine pk_le c j (fun h9 => ?_) (fun h9 => ?_)
          · rw [e1']
            refine h1' kn1 lv1 sn' (fun o ho => ?_) e2' hsn
            rw [hx o ho]
            unfold knS
            rw [hc, cN_nI (by omega), ea, cN_nI (by omega), show j = c by omega]
          · have hinj : vp_in (nI j) 6 := vp_in_nI (by omega) (by omega)
            have hlj : nI j < td 1 := by rw [hc]; exact nI_lt h9 (by omega)
            obtain ⟨a2, ea2, -, ha28, -⟩ := iv_nI (hN.1 j (by omega)) (by decide)
            have hs2 : hb set2 j = hear td a a2 := by
              rw [hset2 j (by omega), decide_eq_true hlj, Bool.true_and, ea2, cN_nI (by omega), hset a2 (by omega)]
            have nx : ∀ kn2 : Nat → Int32, (∀ o, o < 6 → kn2 o = if o < j + 1 ∧ hear td a (cN (S 0 o)) = true then S 1 o ||| bitI t else S 1 o) → q_wn_X3_raise_6_183 P (S 5 2 + wI w) v1 cl hu kn2 lv1 sn' (nI c) (td 3) echoes heights ladders echoFrom echoTo talls (nI t) set2 (nI j) post := by
              intro kn2 h2 v ev
              rw [ev, nI_1]
              exact ih (c - (j + 1)) (by omega) (j + 1) kn2 rfl (by omega) h2
            have ot : ∀ o, o < 6 → ¬ o = j → (if o < j + 1 ∧ hear td a (cN (S 0 o)) = true then S 1 o ||| bitI t else S 1 o) = (if o < j ∧ hear td a (cN (S 0 o)) = true then S 1 o ||| bitI t else S 1 o) := by
              intro o ho hoj
              by_cases e : o < j ∧ hear td a (cN (S 0 o)) = true
              · rw [if_pos e, if_pos ⟨by omega, e.2⟩]
              · rw [if_neg e, if_neg (fun h8 => e ⟨by omega, h8.2⟩)]
            refine e_hasX (by omega) (fun hh0 => iz (nx kn1 (fun o ho => ?_))) (fun hh1 => oi ⟨hinj, fun v ev => ⟨hinj, fun kn2 ek => nx kn2 (fun o ho => ?_)⟩⟩)
            · by_cases e : o = j
              · subst e
                rw [hx o ho, if_neg (fun h8 => absurd h8.1 (by omega)), if_neg (fun h8 => ?_)]
                rw [ea2, cN_nI (by omega), ← hs2, hh0] at h8
                exact absurd h8.2 (by decide)
              · rw [hx o ho, ot o ho e]
            · rw [nI_clamp (by omega)] at ev ek
              rw [ek]
              by_cases e : o = j
              · subst e
                rw [up_s, ev, hx o ho, if_neg (fun h8 => absurd h8.1 (by omega)), if_pos ⟨by omega, by rw [ea2, cN_nI (by omega), ← hs2, hh1]⟩]
                rfl
              · rw [up_n e, hx o ho, ot o ho e]
      exact loop _ 0 kn rfl (by omega) (fun o ho => by rw [if_neg (fun h8 => absurd h8.1 (by omega))]; exact hG.2.2.1 o ho)
    cases w with
    | false =>
      refine iz ?_
      have e9 : av = S 5 2 + wI false := by rw [hG.2.2.2.2.2.2.2]; show S 5 2 = S 5 2 + 0; rw [Int32.add_zero]
      rw [e9]
      refine s112 sn (fun j hj => ?_)
      show sn j = upd (S 3) a (S 3 a + 0) j
      rw [Int32.add_zero, hG.2.2.2.2.1 j hj]
      by_cases e : j = a
      · rw [e, up_s]
      · rw [up_n e]
    | true =>
      refine oi (fun v2 e2 => ⟨hin9, fun v3 e3 => ⟨hin9, fun sn1 e4 => ?_⟩⟩)
      rw [nI_clamp (by omega)] at e3 e4
      have e9 : v2 = S 5 2 + wI true := by rw [e2, hG.2.2.2.2.2.2.2]; rfl
      rw [e9]
      refine s112 sn1 (fun j hj => ?_)
      rw [e4, e3]
      by_cases e : j = a
      · rw [e, up_s, up_s, hG.2.2.2.2.1 a (by omega)]; rfl
      · rw [up_n e, up_n e]; exact hG.2.2.2.2.1 j hj
  have no : ∀ y : Int32, (hb (S 5 0) t == b) = false → q_wn_X3_raise_6_62 av (S 5 0) cl hu kn lv sn singers (td 3) echoes heights ladders echoFrom echoTo talls K (nI s) (nI t) (nI a) y y post := by
    intro y hbb
    refine ⟨fun h9 => absurd rfl h9, fun _ => ?_⟩
    have := h0 (by rw [hbb, Bool.and_false]; rfl)
    rw [hG.2.2.2.2.2.1] at this
    exact this
  refine e_hasX (by omega) (fun hb0 => ⟨fun hk0 => no 0 ?_, fun hk0 => go 0 1 (by decide) ?_⟩) (fun hb0 => ⟨fun hk0 => go 1 0 (by decide) ?_, fun hk0 => no 1 ?_⟩)
  · rw [hb0, hb1, decide_eq_false hk0]; rfl
  · rw [hb0, hb1, decide_eq_true hk0]; rfl
  · rw [hb0, hb1, decide_eq_false hk0]; rfl
  · rw [hb0, hb1, decide_eq_true hk0]; rfl
end
end
section
theorem e_hsX {c x : Int32} {post : Int32 → Prop} (h0 : ¬ (0 ≤ x ∧ x < c) → post 0) (h1 : 0 ≤ x ∧ x < c → post 1) : q_wl_X2_hasSinger_0 c x post := ⟨fun h => h0 (fun h9 => absurd h (Int32.not_lt.mpr h9.1)), fun h => ⟨fun h9 => h0 (fun h8 => absurd h8.2 (Int32.not_lt.mpr h9)), fun h9 => h1 ⟨Int32.not_lt.mp h, Int32.not_le.mp h9⟩⟩⟩
theorem e_hhX {c x : Int32} {post : Int32 → Prop} (h0 : ¬ (0 ≤ x ∧ x < c) → post 0) (h1 : 0 ≤ x ∧ x < c → post 1) : q_wl_X2_hasHut_0 c x post := ⟨fun h => h0 (fun h9 => absurd h (Int32.not_lt.mpr h9.1)), fun h => ⟨fun h9 => h0 (fun h8 => absurd h8.2 (Int32.not_lt.mpr h9)), fun h9 => h1 ⟨Int32.not_lt.mp h, Int32.not_le.mp h9⟩⟩⟩
section
variable {td : Nat → Int32} {S : Nat → Nat → Int32} {mi av be cl : Int32} {hu kn lv sn : Nat → Int32} {huts singers dams echoes deep : Int32} {heights ladders minutes echoFrom echoTo talls : Nat → Int32}
theorem e_cutX {h : Nat} {sn' : Nat → Int32} {post : Int32 → Prop} (hd : deep = td 5) (hh : h < 9) (hs : sn h = sn' h) (h0 : decide (sn' h < td 5) = true → post 0) (h1 : decide (sn' h < td 5) = false → post 1) : q_wn_X3_isCut_6_0 sn deep (nI h) post := by
  refine ⟨vp_in_nI hh (by omega), ?_⟩
  rw [nI_clamp (by omega), hd, hs]
  exact ⟨fun h => h0 (decide_eq_true h), fun h => h1 (decide_eq_false h)⟩
theorem e_walkX {s : Nat} {x : Int32} {post : Int32 → Int32 → (Nat → Int32) → Prop} (hR : RNG td) (hN : NOK td S) (hG : XG td S mi av be cl hu kn lv sn) (hD : LX td huts singers dams echoes deep heights ladders minutes echoFrom echoTo talls) (hs : s < 6) (hl : nI s < td 1)
    (h0 : mayW td (S 0) (S 2) (S 3) s x = false → post 0 mi hu) (h1 : mayW td (S 0) (S 2) (S 3) s x = true → ∀ hu', (∀ j, j < 6 → nI j < td 1 → hu' j = upd (S 0) s x j) → post 1 (S 5 1 + td (51 + 9 * cN (S 0 s) + cN x)) hu') : q_wn_X3_walk_6_0 mi cl hu sn huts deep minutes (nI s) x post := by
  obtain ⟨a, ea, -, ha8, -⟩ := iv_nI (hN.1 s hs) (by decide)
  have hin : vp_in (nI s) 6 := vp_in_nI hs (by omega)
  unfold mayW at h0 h1
  refine ⟨hin, fun v1 e1 => ?_⟩
  rw [nI_clamp (by omega), hG.2.1 s hs hl, ea] at e1
  subst e1
  rw [hD.1]
  refine e_hhX (fun hn => iz (h0 (by rw [decide_eq_false hn]; rfl))) (fun hy => oi ?_)
  obtain ⟨y, hy9, rfl⟩ := lt_nI (m := 9) (hR 0 (by omega)) hy
  rw [decide_eq_true hy, ea, cN_nI (by omega), cN_nI (by omega)] at h0 h1
  have ec : decide (S 2 s = 1) = hb cl s := (hG.1 s hs).symm
  rw [ec] at h0 h1
  refine e_hasX (by omega) (fun hc => zi ?_) (fun hc => io (h0 (by rw [hc]; simp)))
  rw [hc] at h0 h1
  refine e_cutX hD.2.2.2.2.1 (by omega) (hG.2.2.2.2.1 a (by omega)) (fun q1 => zi ?_) (fun q1 => io (h0 (by rw [q1]; simp)))
  rw [q1] at h0 h1
  refine e_cutX hD.2.2.2.2.1 (by omega) (hG.2.2.2.2.1 y (by omega)) (fun q2 => iz ?_) (fun q2 => oi (h0 (by rw [q2]; simp)))
  rw [q2] at h0 h1
  have ei : (nI a * 9) + nI y = nI (9 * a + y) := by rw [jx9, Nat.mul_comm]
  rw [ei]
  refine ⟨vp_in_nI (by omega) (by omega), fun v2 e2 => ?_⟩
  rw [nI_clamp (by omega), hD.2.2.2.2.2.2.2.1 (9 * a + y) (by omega), show 51 + (9 * a + y) = 51 + 9 * a + y by omega] at e2
  subst e2
  refine ⟨fun hz => fun v3 e3 => ⟨hin, fun hu1 e4 => ?_⟩, fun hz => h0 (by rw [decide_eq_true hz]; rfl)⟩
  rw [decide_eq_false hz] at h1
  rw [nI_clamp (by omega)] at e4
  rw [e3, hG.2.2.2.2.2.2.1]
  refine h1 rfl hu1 (fun j hj hlj => ?_)
  rw [e4]
  by_cases e : j = s
  · rw [e, up_s, up_s]
  · rw [up_n e, up_n e]; exact hG.2.1 j hj hlj
theorem e_actX {K s x : Int32} {post : Int32 → Int32 → Int32 → Int32 → Int32 → (Nat → Int32) → (Nat → Int32) → (Nat → Int32) → (Nat → Int32) → Prop} (hR : RNG td) (hN : NOK td S) (hG : XG td S mi av be cl hu kn lv sn) (hD : LX td huts singers dams echoes deep heights ladders minutes echoFrom echoTo talls) (hK : iv 0 5 K)
    (hp : ∀ mi' av' be' cl' hu' kn' lv' sn', XG td (actS td K s x S).2 mi' av' be' cl' hu' kn' lv' sn' → post (bI (actS td K s x S).1) mi' av' be' cl' hu' kn' lv' sn') : q_wn_X3_act_6_0 mi av be cl hu kn lv sn huts singers dams echoes deep heights ladders minutes echoFrom echoTo talls K s x post := by
  have h1 : iv 0 6 (td 1) := hR 1 (by omega)
  unfold actS act at hp
  refine e_hsX (fun hn => zi ?_) (fun hy => io ?_)
  · rw [hD.2.1] at hn
    rw [if_pos hn] at hp
    exact hp mi av be cl hu kn lv sn hG
  rw [hD.2.1] at hy
  rw [if_neg (fun h9 => h9 hy)] at hp
  obtain ⟨s', hs', rfl⟩ := lt_nI (m := 6) h1 hy
  rw [cN_nI (by omega)] at hp
  have hl : nI s' < td 1 := hy.2
  have hin : vp_in (nI s') 6 := vp_in_nI hs' (by omega)
  refine ⟨fun hr => ?_, fun h3 => ?_, fun h4 => ?_, fun h5 => ?_⟩
  · have hK3 : K = 0 ∨ K = 1 ∨ K = 2 := by
      have := hK.1
      have := hK.2
      have e0 : (0 : Int32).toInt = 0 := rfl
      have e1 : (1 : Int32).toInt = 1 := rfl
      have e2 : (2 : Int32).toInt = 2 := rfl
      have hc : K.toInt = 0 ∨ K.toInt = 1 ∨ K.toInt = 2 := by omega
      rcases hc with h | h | h
      · exact Or.inl (Int32.toInt_inj.mp (h.trans e0.symm))
      · exact Or.inr (Or.inl (Int32.toInt_inj.mp (h.trans e1.symm)))
      · exact Or.inr (Or.inr (Int32.toInt_inj.mp (h.trans e2.symm)))
    refine e_raiseX hR hN hG hD hs' hl hK3 rfl (fun hf => ⟨rfl, ?_⟩) (fun t ht ex hm w ew kn' lv' sn' ekn elv esn => ⟨rfl, ?_⟩)
    · rcases hK3 with rfl | rfl | rfl
      · rw [if_pos rfl, if_neg (by rw [show mayR td (S 0) (S 1) (S 5 0) s' x false = false from hf]; decide)] at hp
        exact hp mi av be cl hu kn lv sn hG
      · rw [if_neg (by decide), if_pos (Or.inl rfl), if_neg (by rw [show mayR td (S 0) (S 1) (S 5 0) s' x true = false from hf]; decide)] at hp
        exact hp mi av be cl hu kn lv sn hG
      · rw [if_neg (by decide), if_pos (Or.inr rfl), if_neg (by rw [show mayR td (S 0) (S 1) (S 5 0) s' x true = false from hf]; decide)] at hp
        exact hp mi av be cl hu kn lv sn hG
    · subst ex
      rw [cN_nI (by omega)] at hp
      rcases hK3 with rfl | rfl | rfl
      · rw [if_pos rfl, if_pos (show mayR td (S 0) (S 1) (S 5 0) s' (nI t) false = true from hm)] at hp
        have ew' : w = false := ew
        subst ew'
        refine hp mi _ _ cl hu kn' lv' sn' ⟨hG.1, hG.2.1, ekn, elv, fun j hj => ?_, rfl, hG.2.2.2.2.2.2.1, ?_⟩
        · rw [esn j hj]
          show upd (S 3) _ (S 3 _ + 0) j = S 3 j
          rw [Int32.add_zero]
          by_cases e : j = cN (S 0 s')
          · rw [e, up_s]
          · rw [up_n e]
        · show S 5 2 + 0 = S 5 2
          rw [Int32.add_zero]
      · rw [if_neg (by decide), if_pos (Or.inl rfl), if_pos (show mayR td (S 0) (S 1) (S 5 0) s' (nI t) true = true from hm)] at hp
        have ew' : w = wrongR td (S 0) (S 2) (S 4) s' t (decide ((1 : Int32) = 2)) := ew
        subst ew'
        exact hp mi _ _ cl hu kn' lv' sn' ⟨hG.1, hG.2.1, ekn, elv, esn, rfl, hG.2.2.2.2.2.2.1, rfl⟩
      · rw [if_neg (by decide), if_pos (Or.inr rfl), if_pos (show mayR td (S 0) (S 1) (S 5 0) s' (nI t) true = true from hm)] at hp
        have ew' : w = wrongR td (S 0) (S 2) (S 4) s' t (decide ((2 : Int32) = 2)) := ew
        subst ew'
        exact hp mi _ _ cl hu kn' lv' sn' ⟨hG.1, hG.2.1, ekn, elv, esn, rfl, hG.2.2.2.2.2.2.1, rfl⟩
  · subst h3
    rw [if_neg (by decide), if_neg (by decide), if_pos rfl] at hp
    refine e_walkX hR hN hG hD hs' hl (fun hf => ⟨rfl, ?_⟩) (fun ht hu' ehu => ⟨rfl, ?_⟩)
    · rw [if_neg (by rw [hf]; decide)] at hp
      exact hp mi av be cl hu kn lv sn hG
    · rw [if_pos ht] at hp
      exact hp _ av be cl hu' kn lv sn ⟨hG.1, ehu, hG.2.2.1, hG.2.2.2.1, hG.2.2.2.2.1, hG.2.2.2.2.2.1, rfl, hG.2.2.2.2.2.2.2⟩
  · subst h4
    rw [if_neg (by decide), if_neg (by decide), if_neg (by decide), if_pos rfl] at hp
    obtain ⟨a, ea, -, ha8, -⟩ := iv_nI (hN.1 s' hs') (by decide)
    rw [ea, cN_nI (by omega)] at hp
    refine e_hasX (by omega) (fun hc => zi ⟨hin, ?_⟩) (fun hc => io ⟨rfl, ?_⟩)
    · rw [nI_clamp (by omega), hG.2.1 s' hs' hl, ea]
      refine ⟨vp_in_nI (by omega) (by omega), ?_⟩
      rw [nI_clamp (by omega), hD.2.2.2.2.2.2.1 a (by omega)]
      rw [hG.1 s' hs'] at hc
      have hc1 := of_decide_eq_false hc
      refine ⟨fun hz v ev => ⟨rfl, ?_⟩, fun hz => ⟨rfl, ?_⟩⟩
      · rw [if_pos ⟨hz, hc1⟩] at hp
        refine hp mi av be v hu kn lv sn ⟨fun j hj => ?_, hG.2⟩
        show hb v j = decide (upd (S 2) s' 1 j = 1)
        rw [ev, hb_or, hb_bit (by omega) (by omega), hG.1 j hj]
        by_cases e : j = s'
        · subst e; rw [up_s, decide_eq_true (rfl : j = j), Bool.or_true]; rfl
        · rw [up_n e, de_ne e, Bool.or_false]
      · rw [if_neg (fun h9 => h9.1 hz)] at hp
        exact hp mi av be cl hu kn lv sn hG
    · rw [hG.1 s' hs'] at hc
      rw [if_neg (fun h9 => h9.2 (of_decide_eq_true hc))] at hp
      exact hp mi av be cl hu kn lv sn hG
  · subst h5
    rw [if_neg (by decide), if_neg (by decide), if_neg (by decide), if_neg (by decide)] at hp
    have hz2 : S 2 s' = 0 ↔ hb cl s' = false := by
      rw [hG.1 s' hs']
      rcases hN.2.2.1 s' hs' with h | h
      · rw [h]; decide
      · rw [h]; decide
    refine e_hasX (by omega) (fun hc => zi ⟨rfl, ?_⟩) (fun hc => io (fun v ev => ⟨rfl, ?_⟩))
    · rw [if_neg (fun h9 => h9 (hz2.mpr hc))] at hp
      exact hp mi av be cl hu kn lv sn hG
    · rw [if_pos (fun h9 => by rw [hz2.mp h9] at hc; exact absurd hc (by decide))] at hp
      refine hp mi av be v hu kn lv sn ⟨fun j hj => ?_, hG.2⟩
      show hb v j = decide (upd (S 2) s' 0 j = 1)
      rw [ev, hb_and, hb_not _ (by omega), hb_bit (by omega) (by omega), hG.1 j hj]
      by_cases e : j = s'
      · subst e; rw [up_s, decide_eq_true (rfl : j = j), Bool.not_true, Bool.and_false]; rfl
      · rw [up_n e, de_ne e, Bool.not_false, Bool.and_true]
theorem e_startX {homes known : Nat → Int32} {post : Int32 → Int32 → Int32 → Int32 → (Nat → Int32) → (Nat → Int32) → (Nat → Int32) → (Nat → Int32) → Prop} (hh : ∀ j : Nat, j < 6 → nI j < td 1 → homes j = td (25 + j)) (hk : ∀ j, j < 6 → known j = td (37 + j)) (hp : ∀ hu' kn' lv' sn', XG td (S0 td) 0 0 0 0 hu' kn' lv' sn' → post 0 0 0 0 hu' kn' lv' sn') : q_wn_X3_start_6_0 mi av be cl hu kn lv sn homes known post := by
  intro hu1 e1 kn1 e2
  have c1 : ∀ j, j < 6 → hu1 j = homes j := cpy0 e1 rfl
  have c2 : ∀ j, j < 6 → kn1 j = known j := cpy0 e2 rfl
  intro P hP
  have loop : ∀ m i (lv1 : Nat → Int32), m = 5 - i → i ≤ 5 → (∀ j, j < i → lv1 j = -1) → P (nI i) lv1 := by
    intro m
    induction m using Nat.strongRecOn with
    | ind m ih =>
      intro i lv1 hm hi hI
      apply hP
      refine pk_le 5 i (fun h5 => ?_) (fun h5 => ⟨vp_in_nI h5 (by omega), fun lv2 e3 v e4 => ?_⟩)
      · intro P2 hP2
        have loop2 : ∀ m i (sn1 : Nat → Int32), m = 9 - i → i ≤ 9 → (∀ j, j < i → sn1 j = 0) → P2 (nI i) sn1 := by
          intro m
          induction m using Nat.strongRecOn with
          | ind m ih2 =>
            intro i sn1 hm hi hS
            apply hP2
            refine pk_le 9 i (fun h9 => ?_) (fun h9 => ⟨vp_in_nI h9 (by omega), fun sn2 e1 v e2 => ?_⟩)
            · refine hp hu1 kn1 lv1 sn1 ⟨fun j hj => by rw [hb_0]; rfl, fun j hj hl => (c1 j hj).trans (hh j hj hl), fun j hj => (c2 j hj).trans (hk j hj), fun t ht => hI t (by omega), fun j hj => hS j (by omega), rfl, rfl, rfl⟩
            · rw [e2, nI_1]
              refine ih2 (9 - (i + 1)) (by omega) (i + 1) sn2 rfl (by omega) (fun j hj => ?_)
              rw [e1, nI_clamp (by omega)]
              by_cases hji : j = i
              · rw [hji, up_s]
              · rw [up_n hji]; exact hS j (by omega)
        exact loop2 _ 0 sn rfl (by omega) (fun j hj => absurd hj (by omega))
      · rw [e4, nI_1]
        refine ih (5 - (i + 1)) (by omega) (i + 1) lv2 rfl (by omega) (fun j hj => ?_)
        rw [e3, nI_clamp (by omega)]
        by_cases hji : j = i
        · rw [hji, up_s]
        · rw [up_n hji]; exact hI j (by omega)
  exact loop _ 0 lv rfl (by omega) (fun j hj => absurd hj (by omega))
theorem e_playX {ev : Nat → Int32} {villages slide : Int32} {homes known : Nat → Int32} {deeds : Int32} {kinds firsts seconds : Nat → Int32} {n : Nat} {post : Int32 → Int32 → Int32 → Int32 → Int32 → (Nat → Int32) → (Nat → Int32) → (Nat → Int32) → (Nat → Int32) → Prop} (hR : RNG td) (hO : LOK td) (hD : LDR huts singers villages dams echoes deep slide heights ladders minutes echoFrom echoTo homes talls known td) (hE : R3 deeds kinds firsts seconds ev) (hEi : iv 0 40 (ev 0)) (hEk : ∀ j, j < 40 → iv 0 5 (ev (1 + 3 * j))) {x : Int32} (hx : x = nI n) (hn : nI n ≤ deeds) (hn40 : n ≤ 40)
    (hp : ∀ mi' av' be' cl' hu' kn' lv' sn', XG td (plays td ev n 0 (S0 td)).2 mi' av' be' cl' hu' kn' lv' sn' → post (nI (plays td ev n 0 (S0 td)).1) mi' av' be' cl' hu' kn' lv' sn') : q_wn_X3_play_6_15_0 mi av be cl hu kn lv sn huts singers dams echoes deep heights ladders minutes echoFrom echoTo homes talls known deeds kinds firsts seconds x post := by
  subst hx
  have hX := LX_of hR hD
  obtain ⟨c, hc, -, hc40, -⟩ := iv_nI hEi (by decide)
  have hdc : deeds = nI c := hE.1.trans hc
  have hnc : n ≤ c := by rw [hdc] at hn; exact (nI_leI (by omega) (by omega)).mp hn
  have b1 : iv 0 (6 : Nat) (td 1) := hR 1 (by omega)
  refine e_startX (fun j hj hl => (hD.2.2.2.2.2.2.2.2.2.2.2.1 j (lt_cln b1 (by omega) hl (by omega))).1) hD.2.2.2.2.2.2.2.2.2.2.2.2 (fun hu1 kn1 lv1 sn1 hG1 => ?_)
  intro P hP
  have loop : ∀ m j (S : Nat → Nat → Int32) mi av be cl hu kn lv sn, m = n - j → j ≤ n → NOK td S → XG td S mi av be cl hu kn lv sn → (∀ mi' av' be' cl' hu' kn' lv' sn', XG td (plays td ev m j S).2 mi' av' be' cl' hu' kn' lv' sn' → post (nI (plays td ev m j S).1) mi' av' be' cl' hu' kn' lv' sn') → P (nI j) mi av be cl hu kn lv sn := by
    intro m
    induction m with
    | zero =>
      intro j S mi av be cl hu kn lv sn hm hj hN hG hq
      apply hP
      have e1 : j = n := by omega
      subst e1
      exact pk_le j j (fun _ => hq _ _ _ _ _ _ _ _ hG) (fun h9 => absurd h9 (by omega))
    | succ m ih =>
      intro j S mi av be cl hu kn lv sn hm hj hN hG hq
      apply hP
      refine pk_le n j (fun h9 => absurd h9 (by omega)) (fun h9 => ?_)
      rw [hdc]
      refine pk_le c j (fun h8 => absurd h8 (by omega)) (fun h8 => ?_)
      have hin : vp_in (nI j) 40 := vp_in_nI (by omega) (by omega)
      refine ⟨hin, hin, hin, ?_⟩
      obtain ⟨k1, k2, k3⟩ := hE.2 j (by rw [hc, nI_clamp (by omega)]; omega)
      rw [nI_clamp (by omega), k1, k2, k3]
      unfold plays at hq
      refine e_actX hR hN hG hX (hEk j (by omega)) (fun mi' av' be' cl' hu' kn' lv' sn' hG' => ?_)
      have ok := act_ok (k := ev (1 + 3 * j)) (s := ev (2 + 3 * j)) (x := ev (3 + 3 * j)) hR hN
      by_cases hb1 : (actS td (ev (1 + 3 * j)) (ev (2 + 3 * j)) (ev (3 + 3 * j)) S).1 = true
      · rw [hb1]
        rw [if_pos hb1] at hq
        refine ⟨fun _ v ev2 => ?_, fun h7 => absurd h7 (by decide)⟩
        rw [ev2, nI_1]
        exact ih (j + 1) _ _ _ _ _ _ _ _ _ (by omega) (by omega) ok hG' hq
      · rw [Bool.not_eq_true] at hb1
        rw [hb1]
        rw [if_neg (by rw [hb1]; decide)] at hq
        exact ⟨fun h7 => absurd rfl h7, fun _ => hq _ _ _ _ _ _ _ _ hG'⟩
  exact loop n 0 (S0 td) _ _ _ _ _ _ _ _ (by omega) (by omega) (S0_ok hR hO) hG1 hp
end
end
section
theorem bit32_tab' : ((List.range 31).all fun i => (List.range 32).all fun k => hb (bitI i) k == decide (i = k)) = true := by decide +kernel
theorem hb_b32' {i k : Nat} (hi : i < 31) (hk : k < 32) : hb (bitI i) k = decide (i = k) := by
  have h := List.all_eq_true.mp (List.all_eq_true.mp bit32_tab' i (List.mem_range.mpr hi)) k (List.mem_range.mpr hk)
  exact eq_of_beq h
theorem lt_le3 {x y z : Int32} (h : x ≤ y) (h2 : y < z) : x < z := by
  rw [Int32.lt_iff_toInt_lt]
  have := r_le h
  have := r_lt h2
  omega
theorem le_tr {x y z : Int32} (h : x ≤ y) (h2 : y ≤ z) : x ≤ z := by
  rw [Int32.le_iff_toInt_le]
  have := r_le h
  have := r_le h2
  omega
theorem le_rf (x : Int32) : x ≤ x := by rw [Int32.le_iff_toInt_le]; omega
theorem gr_l (a b : Int32) : a ≤ gr a b := by
  unfold gr
  split
  · exact le_rf a
  · next h => rw [Int32.le_iff_toInt_le]; exact r_nlt h
theorem gr_r (a b : Int32) : b ≤ gr a b := by
  unfold gr
  split
  · next h => rw [Int32.le_iff_toInt_le]; have := r_lt h; omega
  · exact le_rf b
theorem lH_ge (w : Nat) (a b fh : Int32) : fh ≤ lH w a b fh := by
  unfold lH
  split
  · exact le_tr (gr_l fh a) (gr_l _ b)
  · split
    · exact gr_l fh a
    · exact le_rf fh
/-- huts told of so far are not beyond fh -/
def GO (td : Nat → Int32) (fh : Int32) : Prop := CB 0 td ∧ (∀ s : Nat, s < 6 → nI s < td 1 → td (25 + s) ≤ fh) ∧ (∀ k : Nat, k < 4 → nI k < td 4 → td (43 + 2 * k) ≤ fh ∧ td (44 + 2 * k) ≤ fh) ∧ ∀ h : Nat, h < 32 → hb (td 2) h = true → nI h ≤ fh
theorem GO_of {t td : Nat → Int32} {fh fh' : Int32} (h : GO td fh) (hC : CB 0 t) (h1 : t 1 = td 1) (h4 : t 4 = td 4) (hs : ∀ j, 25 ≤ j → j ≤ 30 → t j = td j) (hk : ∀ j, 43 ≤ j → j ≤ 50 → t j = td j) (hf : fh ≤ fh') (hv : ∀ h : Nat, h < 32 → hb (t 2) h = true → nI h ≤ fh') : GO t fh' := by
  refine ⟨hC, fun s hs6 hl => ?_, fun k hk4 hl => ?_, hv⟩
  · rw [h1] at hl
    rw [hs _ (by omega) (by omega)]
    exact le_tr (h.2.1 s hs6 hl) hf
  · rw [h4] at hl
    rw [hk _ (by omega) (by omega), hk _ (by omega) (by omega)]
    exact ⟨le_tr (h.2.2.1 k hk4 hl).1 hf, le_tr (h.2.2.1 k hk4 hl).2 hf⟩
theorem GO_ln {B : Nat → Int32} {n r w : Nat} {td : Nat → Int32} {fh : Int32} (hw : w < 10) (h : GO td fh) : GO (lD w (gd B n r w (nW w)) (tV B n (ps B n r 1)) (tV B n (ps B n r 2)) (tV B n (ps B n r 3)) td) (lH w (tV B n (ps B n r 1)) (tV B n (ps B n r 2)) fh) := by
  have hC : CB 0 (lD w (gd B n r w (nW w)) (tV B n (ps B n r 1)) (tV B n (ps B n r 2)) (tV B n (ps B n r 3)) td) := CB_ln (by omega) ⟨Nat.zero_le _, hw⟩ h.1
  have hf := lH_ge w (tV B n (ps B n r 1)) (tV B n (ps B n r 2)) fh
  have vv : ∀ {t : Nat → Int32} {fh' : Int32}, fh ≤ fh' → t 2 = td 2 → ∀ h : Nat, h < 32 → hb (t 2) h = true → nI h ≤ fh' := by
    intro t fh' hf e x hx hb1
    rw [e] at hb1
    exact le_tr (h.2.2.2 x hx hb1) hf
  have c0 : iv 0 (9 : Nat) (td 0) := h.1.1
  have c1 : iv 0 (6 : Nat) (td 1) := (h.1.2 rfl).1
  have c4 : iv 0 (4 : Nat) (td 4) := (h.1.2 rfl).2
  obtain ⟨n0, e0, -, hn0, -⟩ := iv_nI c0 (by decide)
  obtain ⟨n1, e1, -, hn1, -⟩ := iv_nI c1 (by decide)
  obtain ⟨n4, e4, -, hn4, -⟩ := iv_nI c4 (by decide)
  have hg : gd B n r w (nW w) = true → ∀ k, k < nW w → cW w k (tV B n (ps B n r 1)) (tV B n (ps B n r (k + 1))) = true := fun hg k hk => gd_c _ hg k hk
  generalize eg : gd B n r w (nW w) = g at hC hg ⊢
  generalize ea : tV B n (ps B n r 1) = a at hC hf hg ⊢
  have hg0 : g = true → cW w 0 a a = true := fun hh => by
    have h9 := hg hh 0 (by have := (nW_tb w (by omega)).2.1; omega)
    rw [show 0 + 1 = 1 from rfl, ea] at h9
    exact h9
  have hg1 : g = true → w = 5 → cW w 1 a (tV B n (ps B n r 2)) = true := fun hh h5 => by
    have h9 := hg hh 1 (by rw [h5]; decide)
    exact h9
  generalize eb : tV B n (ps B n r 2) = b at hC hf hg1 ⊢
  generalize ec : tV B n (ps B n r 3) = c at hC ⊢
  clear hg eg ea eb ec
  have hc : w = 0 ∨ w = 1 ∨ w = 2 ∨ w = 3 ∨ w = 4 ∨ w = 5 ∨ w = 6 ∨ w = 7 ∨ w = 8 ∨ w = 9 := by omega
  rcases hc with rfl | rfl | rfl | rfl | rfl | rfl | rfl | rfl | rfl | rfl
  · have e : ∀ j, ¬ j = 0 → ¬ (7 ≤ j ∧ j ≤ 15) → lD 0 g a b c td j = td j := by
      intro j hj hj2
      show (if td 0 = 9 then td else upd (upd td 0 (td 0 + 1)) (Int32.toNatClampNeg (7 + td 0)) a) j = td j
      split
      · rfl
      · next h9 =>
        have : ¬ n0 = 9 := fun e => h9 (by rw [e0, e]; rfl)
        rw [e0, show (7 : Int32) + nI n0 = nI (7 + n0) from jx 7 n0, nI_clamp (by omega), up_n (by omega), up_n hj]
    exact GO_of h hC (e 1 (by omega) (by omega)) (e 4 (by omega) (by omega)) (fun j _ _ => e j (by omega) (by omega)) (fun j _ _ => e j (by omega) (by omega)) hf (vv hf (e 2 (by omega) (by omega)))
  · have e : ∀ j, ¬ j = 2 → lD 1 g a b c td j = td j := fun j hj => up_n hj
    refine GO_of h hC (e 1 (by omega)) (e 4 (by omega)) (fun j _ _ => e j (by omega)) (fun j _ _ => e j (by omega)) hf (fun x hx hbx => ?_)
    have e2 : lD 1 g a b c td 2 = td 2 ||| (if g = true then 1 <<< (a &&& 31) else 0) := by
      show upd td 2 (td 2 ||| (if g = true then 1 <<< (a &&& 31) else 0)) 2 = _
      rw [up_s]
    rw [e2, hb_or, Bool.or_eq_true] at hbx
    rcases hbx with hbx | hbx
    · exact le_tr (h.2.2.2 x hx hbx) hf
    · by_cases hh : g = true
      · rw [if_pos hh] at hbx
        obtain ⟨p, rfl, -, hp, -⟩ := iv_nI (iv_hut (hg0 hh) (by decide +kernel)) (by decide)
        have e3 : hb (bitI p) x = true := hbx
        rw [hb_b32' (by omega) hx] at e3
        rw [← of_decide_eq_true e3]
        exact gr_r fh (nI p)
      · rw [if_neg hh, hb_0] at hbx
        exact absurd hbx (by decide)
  · have e : ∀ j, ¬ j = 3 → lD 2 g a b c td j = td j := fun j hj => up_n hj
    exact GO_of h hC (e 1 (by omega)) (e 4 (by omega)) (fun j _ _ => e j (by omega)) (fun j _ _ => e j (by omega)) hf (vv hf (e 2 (by omega)))
  · have e : ∀ j, ¬ j = 5 → lD 3 g a b c td j = td j := fun j hj => up_n hj
    exact GO_of h hC (e 1 (by omega)) (e 4 (by omega)) (fun j _ _ => e j (by omega)) (fun j _ _ => e j (by omega)) hf (vv hf (e 2 (by omega)))
  · have e : ∀ j, ¬ j = 6 → lD 4 g a b c td j = td j := fun j hj => up_n hj
    exact GO_of h hC (e 1 (by omega)) (e 4 (by omega)) (fun j _ _ => e j (by omega)) (fun j _ _ => e j (by omega)) hf (vv hf (e 2 (by omega)))
  · have e : ∀ j, j ≤ 50 → lD 5 g a b c td j = td j := by
      intro j hj
      show (if g = true then upd (upd td (Int32.toNatClampNeg ((51 + 9 * a) + b)) c) (Int32.toNatClampNeg ((51 + 9 * b) + a)) c else td) j = td j
      split
      · next hh =>
        obtain ⟨p, rfl, -, hp, -⟩ := iv_nI (iv_hut (hg0 hh) (by decide +kernel)) (by decide)
        obtain ⟨q, rfl, -, hq, -⟩ := iv_nI (iv_hut (hg1 hh rfl) (by decide +kernel)) (by decide)
        rw [ix9, ix9, nI_clamp (by omega), nI_clamp (by omega), up_n (by omega), up_n (by omega)]
      · rfl
    exact GO_of h hC (e 1 (by omega)) (e 4 (by omega)) (fun j _ _ => e j (by omega)) (fun j _ _ => e j (by omega)) hf (vv hf (e 2 (by omega)))
  · have hl1 : a ≤ lH 6 a b fh := le_tr (gr_r fh a) (gr_l _ b)
    have hl2 : b ≤ lH 6 a b fh := gr_r _ b
    have ev : lD 6 g a b c td = (if td 4 = 4 then td else upd (upd (upd td 4 (td 4 + 1)) (Int32.toNatClampNeg (43 + 2 * td 4)) a) (Int32.toNatClampNeg (43 + 2 * td 4 + 1)) b) := rfl
    by_cases h9 : td 4 = 4
    · rw [if_pos h9] at ev
      rw [ev] at hC ⊢
      exact GO_of h hC rfl rfl (fun _ _ _ => rfl) (fun _ _ _ => rfl) hf (vv hf rfl)
    · rw [if_neg h9] at ev
      have hn : ¬ n4 = 4 := fun e => h9 (by rw [e4, e]; rfl)
      have hi : (43 : Int32) + 2 * nI n4 = nI (43 + 2 * n4) := by rw [show (43 : Int32) = nI 43 from rfl, show (2 : Int32) = nI 2 from rfl, pk_mul, nI_add]
      rw [e4, hi, nI_1 n4, nI_1 (43 + 2 * n4), nI_clamp (by omega), nI_clamp (by omega)] at ev
      rw [ev] at hC ⊢
      refine ⟨hC, fun s hs6 hl => ?_, fun k hk4 hl => ?_, vv hf (by rw [up_n (by omega), up_n (by omega), up_n (by omega)])⟩
      · rw [up_n (by omega), up_n (by omega), up_n (by omega)] at hl ⊢
        exact le_tr (h.2.1 s hs6 hl) hf
      · rw [up_n (by omega), up_n (by omega), up_s] at hl
        by_cases hkn : k = n4
        · subst hkn
          rw [up_n (by omega), up_s, show 44 + 2 * k = 43 + 2 * k + 1 by omega, up_s]
          exact ⟨hl1, hl2⟩
        · have hlt : nI k < td 4 := by
            rw [e4]
            have := (nI_ltI (by omega) (by omega)).mp hl
            exact nI_lt (by omega) (by omega)
          rw [up_n (by omega), up_n (by omega), up_n (by omega), up_n (by omega), up_n (by omega), up_n (by omega)]
          exact ⟨le_tr (h.2.2.1 k hk4 hlt).1 hf, le_tr (h.2.2.1 k hk4 hlt).2 hf⟩
  · have e : ∀ j, ¬ (16 ≤ j ∧ j ≤ 24) → lD 7 g a b c td j = td j := by
      intro j hj
      show (if g = true then upd td (Int32.toNatClampNeg (16 + a)) b else td) j = td j
      split
      · next hh =>
        obtain ⟨p, rfl, -, hp, -⟩ := iv_nI (iv_hut (hg0 hh) (by decide +kernel)) (by decide)
        rw [show (16 : Int32) + nI p = nI (16 + p) from jx 16 p, nI_clamp (by omega), up_n (by omega)]
      · rfl
    exact GO_of h hC (e 1 (by omega)) (e 4 (by omega)) (fun j _ _ => e j (by omega)) (fun j _ _ => e j (by omega)) hf (vv hf (e 2 (by omega)))
  · have hl1 : a ≤ lH 8 a b fh := gr_r fh a
    have ev : lD 8 g a b c td = (if td 1 = 6 then td else upd (upd (upd td 1 (td 1 + 1)) (Int32.toNatClampNeg (25 + td 1)) a) (Int32.toNatClampNeg (31 + td 1)) b) := rfl
    by_cases h9 : td 1 = 6
    · rw [if_pos h9] at ev
      rw [ev] at hC ⊢
      exact GO_of h hC rfl rfl (fun _ _ _ => rfl) (fun _ _ _ => rfl) hf (vv hf rfl)
    · rw [if_neg h9] at ev
      have hn : ¬ n1 = 6 := fun e => h9 (by rw [e1, e]; rfl)
      rw [e1, show (25 : Int32) + nI n1 = nI (25 + n1) from jx 25 n1, show (31 : Int32) + nI n1 = nI (31 + n1) from jx 31 n1, nI_1 n1, nI_clamp (by omega), nI_clamp (by omega)] at ev
      rw [ev] at hC ⊢
      refine ⟨hC, fun s hs6 hl => ?_, fun k hk4 hl => ?_, vv hf (by rw [up_n (by omega), up_n (by omega), up_n (by omega)])⟩
      · rw [up_n (by omega), up_n (by omega), up_s] at hl
        by_cases hsn : s = n1
        · subst hsn
          rw [up_n (by omega), up_s]
          exact hl1
        · have hlt : nI s < td 1 := by
            rw [e1]
            have := (nI_ltI (by omega) (by omega)).mp hl
            exact nI_lt (by omega) (by omega)
          rw [up_n (by omega), up_n (by omega), up_n (by omega)]
          exact le_tr (h.2.1 s hs6 hlt) hf
      · rw [up_n (by omega), up_n (by omega), up_n (by omega)] at hl
        rw [up_n (by omega), up_n (by omega), up_n (by omega), up_n (by omega), up_n (by omega), up_n (by omega)]
        exact ⟨le_tr (h.2.2.1 k hk4 hl).1 hf, le_tr (h.2.2.1 k hk4 hl).2 hf⟩
  · have e : ∀ j, ¬ (37 ≤ j ∧ j ≤ 42) → lD 9 g a b c td j = td j := by
      intro j hj
      show (if g = true then upd td (Int32.toNatClampNeg (37 + a)) (td (Int32.toNatClampNeg (37 + a)) ||| 1 <<< (b &&& 31)) else td) j = td j
      split
      · next hh =>
        have h5 : iv 0 5 a := iv_w (cW_iv (hg0 hh)) (by decide +kernel)
        obtain ⟨p, rfl, -, hp, -⟩ := iv_nI h5 (by decide)
        rw [show (37 : Int32) + nI p = nI (37 + p) from jx 37 p, nI_clamp (by omega), up_n (by omega)]
      · rfl
    exact GO_of h hC (e 1 (by omega)) (e 4 (by omega)) (fun j _ _ => e j (by omega)) (fun j _ _ => e j (by omega)) hf (vv hf (e 2 (by omega)))
theorem go_LO {B : Nat → Int32} {n : Nat} : ∀ m r fa pl td fh fs, r ≤ n → n < m + r → GO td fh → (go B n 0 m r fa pl td fh fs).1 = 0 → LOK (go B n 0 m r fa pl td fh fs).2.2 := by
  intro m
  induction m with
  | zero => intro r fa pl td fh fs hr hm; omega
  | succ m ih =>
    intro r fa pl td fh fs hr hm hG h0
    unfold go at h0 ⊢
    by_cases hk : tK B n r = 0
    · rw [if_pos hk] at h0 ⊢
      unfold fin4 at h0 ⊢
      by_cases h4 : fa = 0 ∧ 0 = 0 ∧ (td 0 ≤ fh ∨ td 1 ≤ fs)
      · rw [if_pos h4] at h0
        exact absurd (show (4 : Int32) = 0 from h0) (by decide)
      · rw [if_neg h4] at h0 ⊢
        have hlt : fh < td 0 := by
          rw [← Int32.not_le]
          intro h9
          exact h4 ⟨h0, rfl, Or.inl h9⟩
        exact ⟨fun s hs hl => lt_le3 (hG.2.1 s hs hl) hlt, fun k hk4 hl => ⟨lt_le3 (hG.2.2.1 k hk4 hl).1 hlt, lt_le3 (hG.2.2.1 k hk4 hl).2 hlt⟩, fun x hx hbx => lt_le3 (hG.2.2.2 x hx hbx) hlt⟩
    · rw [if_neg hk] at h0 ⊢
      by_cases h9 : lb B n r 0 = 9
      · rw [if_pos h9] at h0 ⊢
        have hw : wOf B n r 0 < 10 := by
          rcases wd_cases (B := B) (n := n) (r := r) (o := 0) (by omega) with ⟨e, _⟩ | ⟨_, hP⟩
          · unfold lb at h9
            rw [if_pos e] at h9
            omega
          · exact hP.2.1
        have hp1 := (ps_le (B := B) hr (nW (wOf B n r 0) + 2)).2
        have hp2 := ps_lt (B := B) hr hk (nW (wOf B n r 0) + 1)
        have hp3 : r + 1 ≤ ps B n r (nW (wOf B n r 0) + 2) := hp2
        exact ih _ _ _ _ _ _ hp1 (by omega) (GO_ln hw hG) h0
      · rw [if_neg h9] at h0
        exact absurd (show (1 : Int32) = 0 from h0) (by decide)
theorem tx_LO {B : Nat → Int32} {n : Nat} (h : (tx B n 0).1 = 0) : LOK (tx B n 0).2.2 := by
  unfold tx at h ⊢
  refine go_LO _ _ _ _ _ _ _ (Nat.zero_le _) (by omega) ⟨CB_ini (by omega) (fun _ _ => rfl), fun s hs hl => ?_, fun k hk hl => ?_, fun x _ hbx => by rw [show ini 0 2 = 0 from rfl, hb_0] at hbx; exact absurd hbx (by decide)⟩ h
  · exact absurd hl (nI_pos (by omega))
  · exact absurd hl (nI_pos (by omega))
theorem LOK_ext {td td' : Nat → Int32} (h : LOK td) (e : ∀ j, j < 132 → td' j = td j) : LOK td' := by
  refine ⟨fun s hs hl => ?_, fun k hk hl => ?_, fun x hx hbx => by rw [e 0 (by omega)]; rw [e 2 (by omega)] at hbx; exact h.2.2 x hx hbx⟩
  · rw [e 1 (by omega)] at hl
    rw [e _ (by omega), e 0 (by omega)]
    exact h.1 s hs hl
  · rw [e 4 (by omega)] at hl
    rw [e (43 + 2 * k) (by omega), e (44 + 2 * k) (by omega), e 0 (by omega)]
    exact h.2.1 k hk hl
/-- the lands of a slot are as told -/
def LKs (M : Nat → Nat → Int32) (s : Nat) : Prop := ∀ k : Nat, k < 2 → nI k < M 4 (4 * s) → LOK (fun j => M 5 (264 * s + 132 * k + j))
def LK (M : Nat → Nat → Int32) : Prop := LKs M 0 ∧ ∀ j, j < 3 → ¬ M 9 j = 0 → LKs M (j + 1)
theorem LKs_mv {M M' : Nat → Nat → Int32} {s s' : Nat} (h : ∀ c, c < 9 → ∀ i, i < wR c → M' c (wR c * s' + i) = M c (wR c * s + i)) (hT : LKs M s) : LKs M' s' := by
  intro k hk hl
  have e4 : M' 4 (4 * s') = M 4 (4 * s) := h 4 (by omega) 0 (by decide)
  rw [e4] at hl
  refine LOK_ext (hT k hk hl) (fun j hj => ?_)
  have g := h 5 (by omega) (132 * k + j) (by show 132 * k + j < 264; omega)
  have w5 : wR 5 = 264 := rfl
  rw [w5] at g
  show M' 5 (264 * s' + 132 * k + j) = M 5 (264 * s + 132 * k + j)
  rw [Nat.add_assoc, Nat.add_assoc]
  exact g
theorem LK_eq {M M' : Nat → Nat → Int32} (h : ∀ i, i < 10 → 2 ≤ i → M' i = M i) (hK : LK M) : LK M' := by
  refine ⟨fun k hk hl => ?_, fun j hj hn k hk hl => ?_⟩
  · rw [h 4 (by omega) (by omega)] at hl
    rw [h 5 (by omega) (by omega)]
    exact hK.1 k hk hl
  · rw [h 9 (by omega) (by omega)] at hn
    rw [h 4 (by omega) (by omega)] at hl
    rw [h 5 (by omega) (by omega)]
    exact hK.2 j hj hn k hk hl
theorem LK_fd {M M' : Nat → Nat → Int32} {a b c d e r : Int32} (h : mFD M M' a b c d e r) (hK : LK M) : LK M' := LK_eq (fun i h1 h2 => h.1.1 i h2 h1) hK
theorem LK_en {M M' : Nat → Nat → Int32} {a r : Int32} (h : mEN M M' a r) (hK : LK M) : LK M' := LK_eq (fun i h1 h2 => h.1.1 i h2 h1) hK
theorem LK_im {M M' : Nat → Nat → Int32} {a r : Int32} (h : mIM M M' a r) (hK : LK M) : LK M' := by
  by_cases hj : imJ a
  · obtain ⟨k, hk, e⟩ := imJ_nI.mp hj
    obtain ⟨_, hc, h1, hs⟩ := h.2 k hk e
    refine ⟨LKs_mv (mCP_out hc (by omega)) hK.1, fun j hj3 hn => ?_⟩
    by_cases hjk : j = k
    · subst hjk
      exact LKs_mv (fun c hc9 i hi => (hc c hc9).1 i hi) hK.1
    · rw [hs j hjk] at hn
      exact LKs_mv (mCP_out hc (by omega)) (hK.2 j hj3 hn)
  · exact LK_eq (fun i h1 _ => (h.1 hj).2 i h1) hK
theorem LK_ag {M M' : Nat → Nat → Int32} {a r : Int32} (h : mAG M M' a r) (hK : LK M) : LK M' := by
  by_cases hx : ∃ k, k < 3 ∧ a = nI k ∧ ¬ M 9 k = 0
  · obtain ⟨k, hk, e, hn⟩ := hx
    obtain ⟨_, hc, h9⟩ := h.2 k hk e hn
    refine ⟨LKs_mv (fun c hc9 i hi => (hc c hc9).1 i hi) (hK.2 k hk hn), fun j hj3 hn2 => ?_⟩
    rw [h9] at hn2
    exact LKs_mv (mCP_out hc (by omega)) (hK.2 j hj3 hn2)
  · exact LK_eq (fun i h1 _ => (h.1 hx).2 i h1) hK
theorem LK_tx {M M' : Nat → Nat → Int32} {a1 a2 r : Int32} (h : mTX M M' a1 a2 r) (hc : ∀ o, o < 4 → iv 0 2 (M 4 o)) (hK : LK M) : LK M' := by
  obtain ⟨m0, m9, ml, ms, mn, my⟩ := h
  have stay : (∀ i, 4 ≤ i → i < 9 → M' i = M i) → LK M' := by
    intro h
    refine ⟨fun k hk hl => ?_, fun j hj hn k hk hl => ?_⟩
    · rw [h 4 (by omega) (by omega)] at hl
      rw [h 5 (by omega) (by omega)]
      exact hK.1 k hk hl
    · rw [m9] at hn
      rw [h 4 (by omega) (by omega)] at hl
      rw [h 5 (by omega) (by omega)]
      exact hK.2 j hj hn k hk hl
  by_cases hx : ∃ o k, o < 4 ∧ k < 2 ∧ a1 = nI o ∧ NUM (M 4 o) a2 k
  · obtain ⟨o, k, ho, hk, e, hN⟩ := hx
    obtain ⟨_, _, hf, hg⟩ := my o k ho hk e hN
    by_cases h0 : (MXr M o).1 = 0
    · obtain ⟨_, e4, ein, eout, eo⟩ := hg h0
      by_cases ho0 : o = 0
      · subst ho0
        have w0 : wD 0 = 132 := rfl
        rw [w0] at ein eout
        refine ⟨fun k' hk' hl => ?_, fun j hj hn k' hk' hl => ?_⟩
        · by_cases hkk : k' = k
          · subst hkk
            refine LOK_ext (tx_LO h0) (fun j hj => ?_)
            have g := ein j hj
            show M' 5 (264 * 0 + 132 * k' + j) = _
            rw [Nat.mul_zero, Nat.zero_add]
            exact g
          · have hlt : nI k' < M 4 (4 * 0) := by
              rw [e4, up_s] at hl
              unfold cmx at hl
              obtain ⟨c, ec, -, hc2, -⟩ := iv_nI (hc 0 (by omega)) (by decide)
              show nI k' < M 4 0
              rw [ec] at hl ⊢
              rcases hN with ⟨_, q⟩ | ⟨_, _, q⟩
              · rw [ec] at q
                have : c = k := (nI_eq (by omega) (by omega)).mp q
                subst this
                rw [nI_1, if_pos (nI_lt (by omega) (by omega))] at hl
                have := (nI_ltI (by omega) (by omega)).mp hl
                exact nI_lt (by omega) (by omega)
              · rw [ec] at q
                have := (nI_ltI (by omega) (by omega)).mp q
                rw [nI_1, if_neg (fun h9 => by have := (nI_ltI (by omega) (by omega)).mp h9; omega)] at hl
                exact hl
            refine LOK_ext (hK.1 k' hk' hlt) (fun j hj => ?_)
            show M' 5 (264 * 0 + 132 * k' + j) = M 5 (264 * 0 + 132 * k' + j)
            exact eout _ (by omega)
        · rw [m9] at hn
          have e44 : M' 4 (4 * (j + 1)) = M 4 (4 * (j + 1)) := by rw [e4, up_n (by omega)]
          rw [e44] at hl
          refine LOK_ext (hK.2 j hj hn k' hk' hl) (fun i hi => ?_)
          show M' 5 (264 * (j + 1) + 132 * k' + i) = M 5 (264 * (j + 1) + 132 * k' + i)
          exact eout _ (by omega)
      · have e5 : M' 5 = M 5 := eo 5 (by omega) (by omega) (by omega)
        refine ⟨fun k' hk' hl => ?_, fun j hj hn k' hk' hl => ?_⟩
        · rw [e4, up_n (by omega)] at hl
          rw [e5]
          exact hK.1 k' hk' hl
        · rw [m9] at hn
          rw [e4, up_n (by omega)] at hl
          rw [e5]
          exact hK.2 j hj hn k' hk' hl
    · exact stay (hf h0).2
  · exact stay (mn hx).2.2.2
/-- land k of the reference's rows is as told -/
theorem LK_row {M : Nat → Nat → Int32} {k : Nat} (hK : LK M) (hk : k < 2) (hl : nI k < M 4 0) : LOK (rowM M 0 (nI k)) := by
  refine LOK_ext (hK.1 k hk hl) (fun j hj => ?_)
  unfold rowM
  rw [nI_clamp (by omega)]
  show M 5 (132 * k + j) = M 5 (264 * 0 + 132 * k + j)
  rw [Nat.mul_zero, Nat.zero_add]
/-- what all calls keep: both sides are told alike, lands as told -/
def RG (T : TT) (M : Nat → Nat → Int32) (I : Nat → TT) (mi : Nat → Option Nat) : Prop := RF T M I mi ∧ LK M
theorem RG_fd {T T' : TT} {M M' : Nat → Nat → Int32} {I : Nat → TT} {mi : Nat → Option Nat} {a b c d e r1 r2 : Int32} (h : RG T M I mi) (hB : tB T) (hI : tBI I mi) (h1 : xFD T T' a b c d e r1) (h2 : mFD M M' a b c d e r2) : r1 = r2 ∧ RG T' M' I mi := ⟨(RF_fd h.1 hB hI h1 h2).1, (RF_fd h.1 hB hI h1 h2).2, LK_fd h2 h.2⟩
theorem RG_en {T T' : TT} {M M' : Nat → Nat → Int32} {I : Nat → TT} {mi : Nat → Option Nat} {a r1 r2 : Int32} (h : RG T M I mi) (hB : tB T) (hI : tBI I mi) (h1 : xEN T T' a r1) (h2 : mEN M M' a r2) : r1 = r2 ∧ RG T' M' I mi := ⟨(RF_en h.1 hB hI h1 h2).1, (RF_en h.1 hB hI h1 h2).2, LK_en h2 h.2⟩
theorem RG_im {T : TT} {M M' : Nat → Nat → Int32} {I I' : Nat → TT} {mi mi' : Nat → Option Nat} {a r1 r2 : Int32} (h : RG T M I mi) (hB : tB T) (hI : tBI I mi) (h1 : xIM mi mi' I I' T a r1) (h2 : mIM M M' a r2) : r1 = r2 ∧ RG T M' I' mi' := ⟨(RF_im h.1 hB hI h1 h2).1, (RF_im h.1 hB hI h1 h2).2, LK_im h2 h.2⟩
theorem RG_ag {T T' : TT} {M M' : Nat → Nat → Int32} {I : Nat → TT} {mi : Nat → Option Nat} {a r1 r2 : Int32} (h : RG T M I mi) (hB : tB T) (hI : tBI I mi) (h1 : xAG mi I T T' a r1) (h2 : mAG M M' a r2) : r1 = r2 ∧ RG T' M' I mi := ⟨(RF_ag h.1 hB hI h1 h2).1, (RF_ag h.1 hB hI h1 h2).2, LK_ag h2 h.2⟩
theorem RG_tx {T T' : TT} {M M' : Nat → Nat → Int32} {I : Nat → TT} {mi : Nat → Option Nat} {a1 a2 r1 r2 : Int32} (h : RG T M I mi) (hB : tB T) (hB' : tB T') (hI : tBI I mi) (h1 : xTX T T' a1 a2 r1) (h2 : mTX M M' a1 a2 r2) : r1 = r2 ∧ RG T' M' I mi := ⟨(RF_tx h.1 hB hB' hI h1 h2).1, (RF_tx h.1 hB hB' hI h1 h2).2, LK_tx h2 (fun o ho => by rw [TM_cnt h.1.1 o ho]; exact hB.2.2.1 o) h.2⟩
end
section
def ANc (M : Nat → Nat → Int32) (a b : Int32) : Prop := (0 ≤ a ∧ a < M 4 0) ∧ (0 ≤ b ∧ b < M 4 1)
def PL (M : Nat → Nat → Int32) (a b : Int32) (n : Nat) : Nat × (Nat → Nat → Int32) := plays (rowM M 0 a) (rowM M 1 b) n 0 (S0 (rowM M 0 a))
def AN_stop (M : Nat → Nat → Int32) (a b : Int32) : Int32 := if (0 ≤ a ∧ a < M 4 0) ∧ (0 ≤ b ∧ b < M 4 1) then nI (PL M a b (cN (rowM M 1 b 0))).1 else -1
theorem RNG_M {M : Nat → Nat → Int32} {k : Nat} (hL : mLand (M 5)) (hk : k < 2) : RNG (rowM M 0 (nI k)) := fun j hj => row_iv hL hk hj
theorem ev0_iv {M : Nat → Nat → Int32} {e : Nat} (hE : mEve (M 6)) (he : e < 2) : iv 0 40 (rowM M 1 (nI e) 0) := by
  have g := (hE e (by omega)).1
  unfold rowM
  rw [nI_clamp (by omega)]
  exact g
theorem e_deedsM {M : Nat → Nat → Int32} {e : Nat} {post : Int32 → Prop} (he : e < 2) (hp : post (rowM M 1 (nI e) 0)) : q_m_deeds_0 (M 6) (nI e) post := by
  have e9 : (121 : Int32) * nI e = nI (121 * e) := pk_mul 121 e
  refine ⟨by rw [e9]; exact vp_in_nI (by omega) (by omega), ?_⟩
  unfold rowM at hp
  rw [nI_clamp (by omega)] at hp
  rw [e9, nI_clamp (by omega)]
  exact hp
theorem e_layAllM {M : Nat → Nat → Int32} {ld hu si ev a b : Int32} {post : Int32 → Int32 → Int32 → Int32 → Int32 → Prop} (hc : ∀ o, iv 0 2 (M 4 o)) (h0 : ¬ ((0 ≤ a ∧ a < M 4 0) ∧ (0 ≤ b ∧ b < M 4 1)) → ∀ x y z w, post 0 x y z w) (h1 : ∀ k e, k < 2 → e < 2 → a = nI k → b = nI e → (0 ≤ a ∧ a < M 4 0) → (0 ≤ b ∧ b < M 4 1) → post 1 (nI k) (tdM M k 0) (tdM M k 1) (nI e)) : q_m_layAll_0 (M 4) (M 5) ld hu si ev a b post := by
  refine e_is (o := 1) (by omega) (hc 1) (fun hn => ⟨rfl, iz (h0 (fun h9 => hn h9.2) _ _ _ _)⟩) (fun hy => ⟨rfl, oi ?_⟩)
  refine e_hand (hc 0) (fun hn => iz (h0 (fun h9 => hn h9.1) _ _ _ _)) (fun k hk ea hy0 => oi ?_)
  obtain ⟨e, he, eb⟩ := lt_nI (m := 2) (hc 1) hy
  have h2 := h1 k e hk he ea eb hy0 hy
  rw [← eb] at h2
  exact h2

theorem e_m_stop {M : Nat → Nat → Int32} {cd ld hu si ev be mi av a b : Int32} {at_ kn cl sn lv : Nat → Int32} {post : Int32 → Int32 → Int32 → Int32 → Int32 → Int32 → (Nat → Int32) → (Nat → Int32) → (Nat → Int32) → (Nat → Int32) → (Nat → Int32) → Int32 → Int32 → Int32 → Prop} (hc : ∀ o, iv 0 2 (M 4 o)) (hL : mLand (M 5)) (hE : mEve (M 6)) (hK : LK M) (hp : ∀ x1 x2 x3 x4 x5 x6 x7 x8 x9 x10 x11 x12 x13, post (AN_stop M a b) x1 x2 x3 x4 x5 x6 x7 x8 x9 x10 x11 x12 x13) : q_m_stop_0 cd (M 4) (M 5) (M 6) ld hu si ev at_ kn cl sn lv be mi av a b post := by
  unfold AN_stop at hp
  refine e_layAllM hc (fun hn x y z w => iz ?_) (fun k e hk he ea eb h1 h2 => oi ?_)
  · rw [if_neg hn] at hp
    exact hp _ _ _ _ _ _ _ _ _ _ _ _ _
  · rw [if_pos ⟨h1, h2⟩, ea, eb] at hp
    refine e_deedsM he ?_
    obtain ⟨c, ec, -, hc40, -⟩ := iv_nI (ev0_iv hE he) (by decide)
    rw [ec] at hp ⊢
    rw [cN_nI (by omega)] at hp
    exact e_playM hk he (by omega) hL hE (LK_row hK hk (by rw [← ea]; exact h1.2)) (fun S' hS => hp _ _ _ _ _ _ _ _ _ _ _ _ _)
set_option maxRecDepth 40000 in
set_option maxHeartbeats 4000000 in
theorem e_x_stop {T : TT} {M : Nat → Nat → Int32} {nf_minute nf_avalanches nf_begun nf_climbed a b : Int32} {na_huts na_known na_levels na_snow : Nat → Int32} {post : Int32 → (Int32) → (Int32) → (Int32) → (Int32) → (Nat → Int32) → (Nat → Int32) → (Nat → Int32) → (Nat → Int32) → Prop} (h : TM T M 0) (hB : tB T) (hK : LK M) (hL : mLand (M 5)) (hE : mEve (M 6)) (hp : ∀ z0 z1 z2 z3 z4 z5 z6 z7, post (AN_stop M a b) z0 z1 z2 z3 z4 z5 z6 z7) : q_wx_X10_stop_0 (T.2 1) (T.1 3) (T.1 4) (T.1 6) (T.1 7) (T.1 8) (T.2 2) (T.2 3) (T.2 4) (T.2 5) (T.2 6) (T.2 7) (T.2 8) (T.2 9) (T.1 10) (T.1 11) (T.1 13) (T.1 14) (T.1 15) (T.2 10) (T.2 11) (T.2 12) (T.2 13) (T.2 14) (T.2 15) (T.2 16) (T.2 17) (T.1 17) (T.2 18) (T.2 19) (T.2 20) (T.1 18) (T.2 21) (T.2 22) (T.2 23) nf_minute nf_avalanches nf_begun nf_climbed na_huts na_known na_levels na_snow a b post := by
  unfold AN_stop at hp
  rw [TM_cnt h 0 (by decide), TM_cnt h 1 (by decide)] at hp
  refine e_at (hB.2.2.1 0) (fun (hn : ¬ (0 ≤ a ∧ a < T.2 1 0)) => ?_) (fun ea hla => ?_) (fun ea hla => ?_)
  · rw [if_neg (fun h9 => hn h9.1)] at hp
    refine ⟨fun _ => ?_, fun h9 => absurd h9 (by decide), fun h9 => absurd rfl h9⟩
    refine e_at (hB.2.2.1 1) (fun (hm : ¬ (0 ≤ b ∧ b < T.2 1 1)) => ?_) (fun eb hlb => ?_) (fun eb hlb => ?_)
    · exact ⟨fun _ => hp _ _ _ _ _ _ _ _, fun h9 => absurd h9 (by decide), fun h9 => absurd rfl h9⟩
    · exact ⟨fun h9 => absurd h9 (by decide), fun h9 => absurd h9 (by decide), fun _ _ => hp _ _ _ _ _ _ _ _⟩
    · exact ⟨fun h9 => absurd h9 (by decide), fun _ => hp _ _ _ _ _ _ _ _, fun _ h9 => absurd rfl h9⟩
  · refine ⟨fun h9 => absurd h9 (by decide), fun h9 => absurd h9 (by decide), fun _ _ => ?_⟩
    refine e_at (hB.2.2.1 1) (fun (hm : ¬ (0 ≤ b ∧ b < T.2 1 1)) => ?_) (fun eb hlb => ?_) (fun eb hlb => ?_)
    · rw [if_neg (fun h9 => hm h9.2)] at hp
      exact ⟨fun _ => hp _ _ _ _ _ _ _ _, fun h9 => absurd h9 (by decide), fun h9 => absurd rfl h9⟩
    · rw [if_pos (by rw [ea, eb]; exact ⟨⟨by decide, hla⟩, by decide, hlb⟩), ea, eb] at hp
      have hLD : LDR (T.1 3) (T.1 4) (T.1 5) (T.1 6) (T.1 7) (T.1 8) (T.1 9) (T.2 2) (T.2 3) (T.2 4) (T.2 5) (T.2 6) (T.2 7) (T.2 8) (T.2 9) (rowM M 0 (nI 0)) := TM_sl h 0 0 (by decide) (by decide) hla
      have hEV : R3 (T.1 17) (T.2 18) (T.2 19) (T.2 20) (rowM M 1 (nI 0)) := TM_sl h 1 0 (by decide) (by decide) hlb
      have hOK : LOK (rowM M 0 (nI 0)) := LK_row hK (by decide) (by rw [TM_cnt h 0 (by decide)]; exact hla)
      refine ⟨fun h9 => absurd h9 (by decide), fun h9 => absurd h9 (by decide), fun _ _ => ?_⟩
      obtain ⟨c, ec, -, hc40, -⟩ := iv_nI (ev0_iv hE (e := 0) (by decide)) (by decide)
      have edc : (T.1 17) = nI c := hEV.1.trans ec
      rw [ec, cN_nI (by omega)] at hp
      exact e_playX (n := c) (RNG_M hL (by decide)) hOK hLD hEV (ev0_iv hE (by decide)) (fun j hj => (eve_iv hE (by decide) hj).1) edc (by rw [edc]; exact le_rf _) (by omega) (fun _ _ _ _ _ _ _ _ _ => hp _ _ _ _ _ _ _ _)
    · rw [if_pos (by rw [ea, eb]; exact ⟨⟨by decide, hla⟩, by decide, hlb⟩), ea, eb] at hp
      have hLD : LDR (T.1 3) (T.1 4) (T.1 5) (T.1 6) (T.1 7) (T.1 8) (T.1 9) (T.2 2) (T.2 3) (T.2 4) (T.2 5) (T.2 6) (T.2 7) (T.2 8) (T.2 9) (rowM M 0 (nI 0)) := TM_sl h 0 0 (by decide) (by decide) hla
      have hEV : R3 (T.1 18) (T.2 21) (T.2 22) (T.2 23) (rowM M 1 (nI 1)) := TM_sl h 1 1 (by decide) (by decide) hlb
      have hOK : LOK (rowM M 0 (nI 0)) := LK_row hK (by decide) (by rw [TM_cnt h 0 (by decide)]; exact hla)
      refine ⟨fun h9 => absurd h9 (by decide), fun _ => ?_, fun _ h9 => absurd rfl h9⟩
      obtain ⟨c, ec, -, hc40, -⟩ := iv_nI (ev0_iv hE (e := 1) (by decide)) (by decide)
      have edc : (T.1 18) = nI c := hEV.1.trans ec
      rw [ec, cN_nI (by omega)] at hp
      exact e_playX (n := c) (RNG_M hL (by decide)) hOK hLD hEV (ev0_iv hE (by decide)) (fun j hj => (eve_iv hE (by decide) hj).1) edc (by rw [edc]; exact le_rf _) (by omega) (fun _ _ _ _ _ _ _ _ _ => hp _ _ _ _ _ _ _ _)
  · refine ⟨fun h9 => absurd h9 (by decide), fun _ => ?_, fun _ h9 => absurd rfl h9⟩
    refine e_at (hB.2.2.1 1) (fun (hm : ¬ (0 ≤ b ∧ b < T.2 1 1)) => ?_) (fun eb hlb => ?_) (fun eb hlb => ?_)
    · rw [if_neg (fun h9 => hm h9.2)] at hp
      exact ⟨fun _ => hp _ _ _ _ _ _ _ _, fun h9 => absurd h9 (by decide), fun h9 => absurd rfl h9⟩
    · rw [if_pos (by rw [ea, eb]; exact ⟨⟨by decide, hla⟩, by decide, hlb⟩), ea, eb] at hp
      have hLD : LDR (T.1 10) (T.1 11) (T.1 12) (T.1 13) (T.1 14) (T.1 15) (T.1 16) (T.2 10) (T.2 11) (T.2 12) (T.2 13) (T.2 14) (T.2 15) (T.2 16) (T.2 17) (rowM M 0 (nI 1)) := TM_sl h 0 1 (by decide) (by decide) hla
      have hEV : R3 (T.1 17) (T.2 18) (T.2 19) (T.2 20) (rowM M 1 (nI 0)) := TM_sl h 1 0 (by decide) (by decide) hlb
      have hOK : LOK (rowM M 0 (nI 1)) := LK_row hK (by decide) (by rw [TM_cnt h 0 (by decide)]; exact hla)
      refine ⟨fun h9 => absurd h9 (by decide), fun h9 => absurd h9 (by decide), fun _ _ => ?_⟩
      obtain ⟨c, ec, -, hc40, -⟩ := iv_nI (ev0_iv hE (e := 0) (by decide)) (by decide)
      have edc : (T.1 17) = nI c := hEV.1.trans ec
      rw [ec, cN_nI (by omega)] at hp
      exact e_playX (n := c) (RNG_M hL (by decide)) hOK hLD hEV (ev0_iv hE (by decide)) (fun j hj => (eve_iv hE (by decide) hj).1) edc (by rw [edc]; exact le_rf _) (by omega) (fun _ _ _ _ _ _ _ _ _ => hp _ _ _ _ _ _ _ _)
    · rw [if_pos (by rw [ea, eb]; exact ⟨⟨by decide, hla⟩, by decide, hlb⟩), ea, eb] at hp
      have hLD : LDR (T.1 10) (T.1 11) (T.1 12) (T.1 13) (T.1 14) (T.1 15) (T.1 16) (T.2 10) (T.2 11) (T.2 12) (T.2 13) (T.2 14) (T.2 15) (T.2 16) (T.2 17) (rowM M 0 (nI 1)) := TM_sl h 0 1 (by decide) (by decide) hla
      have hEV : R3 (T.1 18) (T.2 21) (T.2 22) (T.2 23) (rowM M 1 (nI 1)) := TM_sl h 1 1 (by decide) (by decide) hlb
      have hOK : LOK (rowM M 0 (nI 1)) := LK_row hK (by decide) (by rw [TM_cnt h 0 (by decide)]; exact hla)
      refine ⟨fun h9 => absurd h9 (by decide), fun _ => ?_, fun _ h9 => absurd rfl h9⟩
      obtain ⟨c, ec, -, hc40, -⟩ := iv_nI (ev0_iv hE (e := 1) (by decide)) (by decide)
      have edc : (T.1 18) = nI c := hEV.1.trans ec
      rw [ec, cN_nI (by omega)] at hp
      exact e_playX (n := c) (RNG_M hL (by decide)) hOK hLD hEV (ev0_iv hE (by decide)) (fun j hj => (eve_iv hE (by decide) hj).1) edc (by rw [edc]; exact le_rf _) (by omega) (fun _ _ _ _ _ _ _ _ _ => hp _ _ _ _ _ _ _ _)
end
section
/-- how many are below n -/
def cntB (p : Nat → Bool) : Nat → Nat
  | 0 => 0
  | n + 1 => cntB p n + (if p n = true then 1 else 0)
theorem cnt_le (p : Nat → Bool) : ∀ n, cntB p n ≤ n
  | 0 => Nat.le_refl 0
  | n + 1 => by
    have := cnt_le p n
    show cntB p n + (if p n = true then 1 else 0) ≤ n + 1
    split <;> omega
theorem cnt_ext {p q : Nat → Bool} : ∀ n, (∀ k, k < n → p k = q k) → cntB p n = cntB q n
  | 0, _ => rfl
  | n + 1, h => by
    show cntB p n + _ = cntB q n + _
    rw [cnt_ext n (fun k hk => h k (by omega)), h n (by omega)]
theorem cnt_mono {p q : Nat → Bool} : ∀ n, (∀ k, k < n → p k = true → q k = true) → cntB p n ≤ cntB q n
  | 0, _ => Nat.le_refl 0
  | n + 1, h => by
    have := cnt_mono n (fun k hk => h k (by omega))
    show cntB p n + (if p n = true then 1 else 0) ≤ cntB q n + (if q n = true then 1 else 0)
    by_cases hp : p n = true
    · rw [if_pos hp, if_pos (h n (by omega) hp)]; omega
    · rw [if_neg hp]; omega
theorem cnt_lt {p q : Nat → Bool} : ∀ n, (∀ k, k < n → p k = true → q k = true) → (∃ k, k < n ∧ q k = true ∧ p k = false) → cntB p n + 1 ≤ cntB q n
  | 0, _, ⟨k, hk, _⟩ => absurd hk (Nat.not_lt_zero k)
  | n + 1, h, ⟨k, hk, hq, hp⟩ => by
    show cntB p n + (if p n = true then 1 else 0) + 1 ≤ cntB q n + (if q n = true then 1 else 0)
    by_cases e : k = n
    · subst e
      have := cnt_mono k (fun j hj => h j (by omega))
      rw [if_pos hq, if_neg (by rw [hp]; decide)]
      omega
    · have := cnt_lt n (fun j hj => h j (by omega)) ⟨k, by omega, hq, hp⟩
      by_cases hpn : p n = true
      · rw [if_pos hpn, if_pos (h n (by omega) hpn)]; omega
      · rw [if_neg hpn]; omega
theorem cnt_tr {p : Nat → Bool} {c : Nat} : ∀ n, c ≤ n → cntB (fun o => decide (o < c) && p o) n = cntB p c
  | 0, h => by
    have : c = 0 := by omega
    subst this
    rfl
  | n + 1, h => by
    by_cases e : c = n + 1
    · subst e
      exact cnt_ext (n + 1) (fun k hk => by rw [decide_eq_true hk, Bool.true_and])
    · show cntB (fun o => decide (o < c) && p o) n + (if (decide (n < c) && p n) = true then 1 else 0) = cntB p c
      rw [cnt_tr n (by omega), decide_eq_false (by omega), Bool.false_and, if_neg (by decide)]
      rfl
/-- the set of those below n -/
def mkB (p : Nat → Bool) : Nat → Int32
  | 0 => 0
  | n + 1 => mkB p n ||| (if p n = true then bitI n else 0)
theorem bit32_tab : ((List.range 31).all fun i => (List.range 32).all fun k => hb (bitI i) k == decide (i = k)) = true := by decide +kernel
theorem hb_b32 {i k : Nat} (hi : i < 31) (hk : k < 32) : hb (bitI i) k = decide (i = k) := by
  have h := List.all_eq_true.mp (List.all_eq_true.mp bit32_tab i (List.mem_range.mpr hi)) k (List.mem_range.mpr hk)
  exact eq_of_beq h
theorem hb_mkB {p : Nat → Bool} {k : Nat} (hk : k < 32) : ∀ n, n ≤ 31 → hb (mkB p n) k = (decide (k < n) && p k)
  | 0, _ => by
    show hb 0 k = _
    rw [hb_0, decide_eq_false (Nat.not_lt_zero k)]; rfl
  | n + 1, hn => by
    show hb (mkB p n ||| _) k = _
    rw [hb_or, hb_mkB hk n (by omega)]
    by_cases e : k = n
    · subst e
      rw [decide_eq_false (Nat.lt_irrefl k), Bool.false_and, Bool.false_or, decide_eq_true (Nat.lt_succ_self k), Bool.true_and]
      by_cases hp : p k = true
      · rw [if_pos hp, hb_b32 (by omega) hk, hp, decide_eq_true rfl]
      · rw [if_neg hp, hb_0]
        rw [Bool.not_eq_true] at hp
        exact hp.symm
    · have e1 : hb (if p n = true then bitI n else 0) k = false := by
        split
        · rw [hb_b32 (by omega) hk, de_ne e]
        · exact hb_0 k
      rw [e1, Bool.or_false]
      by_cases h : k < n
      · rw [decide_eq_true h, decide_eq_true (by omega)]
      · rw [decide_eq_false h, decide_eq_false (by omega)]
theorem hb_eq {s t : Int32} (h : ∀ k, k < 32 → hb s k = hb t k) : s = t := by
  apply Int32.toBitVec_inj.mp
  apply BitVec.eq_of_getLsbD_eq
  intro i hi
  exact h i hi
theorem mkB_ext {p q : Nat → Bool} : ∀ n, (∀ k, k < n → p k = q k) → mkB p n = mkB q n
  | 0, _ => rfl
  | n + 1, h => by
    show mkB p n ||| _ = mkB q n ||| _
    rw [mkB_ext n (fun k hk => h k (by omega)), h n (by omega)]
theorem mkB_iv {p : Nat → Bool} : ∀ n, n ≤ 9 → iv 0 511 (mkB p n)
  | 0, _ => iv_lit (l := 0) (h := 511) (x := 0) (by decide)
  | n + 1, h => by
    have hb9 : ∀ n, n < 9 → iv 0 511 (bitI n) := by
      intro n hn
      have : n = 0 ∨ n = 1 ∨ n = 2 ∨ n = 3 ∨ n = 4 ∨ n = 5 ∨ n = 6 ∨ n = 7 ∨ n = 8 := by omega
      rcases this with rfl | rfl | rfl | rfl | rfl | rfl | rfl | rfl | rfl <;> exact iv_lit (by decide)
    have h2 : iv 0 511 (if p n = true then bitI n else 0) := by
      split
      · exact hb9 n (by omega)
      · exact iv_lit (by decide)
    exact iv_or 9 (mkB_iv n (by omega)) h2 (by decide)
theorem or_0 (x : Int32) : x ||| 0 = x := by
  apply hb_eq
  intro k hk
  rw [hb_or, hb_0, Bool.or_false]
/-- bitCount -/
def bcF (x0 : Int32) : Int32 :=
  let v1 := x0 - ((Int32.toUInt32 x0 >>> (Int32.toUInt32 1 &&& Int32.toUInt32 31)).toInt32 &&& 1431655765)
  let v2 := (v1 &&& 858993459) + ((Int32.toUInt32 v1 >>> (Int32.toUInt32 2 &&& Int32.toUInt32 31)).toInt32 &&& 858993459)
  let v3 := (v2 + (Int32.toUInt32 v2 >>> (Int32.toUInt32 4 &&& Int32.toUInt32 31)).toInt32) &&& 252645135
  let v4 := v3 + (Int32.toUInt32 v3 >>> (Int32.toUInt32 8 &&& Int32.toUInt32 31)).toInt32
  let v5 := v4 + (Int32.toUInt32 v4 >>> (Int32.toUInt32 16 &&& Int32.toUInt32 31)).toInt32
  v5 &&& 63
theorem bc_tab : ((List.range 512).all fun n => bcF (nI n) == nI (cntB (hb (nI n)) 9)) = true := by decide +kernel
theorem e_bc {s : Int32} {post : Int32 → Prop} (hs : iv 0 511 s) (hp : post (nI (cntB (hb s) 9))) : q_z_J6_bitCount_0f7a4_0 s post := by
  intro v1 e1 v2 e2 v3 e3 v4 e4 v5 e5
  obtain ⟨n, rfl, -, hn, -⟩ := iv_nI hs (by decide)
  have h : bcF (nI n) = nI (cntB (hb (nI n)) 9) := eq_of_beq (List.all_eq_true.mp bc_tab n (List.mem_range.mpr (by omega)))
  rw [← h] at hp
  subst e1 e2 e3 e4 e5
  exact hp
theorem e_onesM {s : Int32} {post : Int32 → Prop} (hp : post (nI (cntB (hb s) 9))) : q_m_ones_0 s post := by
  intro P hP
  have loop : ∀ m j, m = 9 - j → j ≤ 9 → P (nI (cntB (hb s) j)) (nI j) := by
    intro m
    induction m using Nat.strongRecOn with
    | ind m ih =>
      intro j hm hj
      apply hP
      refine pk_le 9 j (fun h9 => ?_) (fun h9 => ?_)
      · rw [show j = 9 by omega]; exact hp
      · have nx : ∀ y : Int32, nI (cntB (hb s) j) + y = nI (cntB (hb s) (j + 1)) → q_m_ones_24 P s (nI j) (nI (cntB (hb s) j)) y post := by
          intro y hy v e v2 e2
          rw [e, e2, hy, nI_1]
          exact ih (9 - (j + 1)) (by omega) (j + 1) rfl (by omega)
        have e : cntB (hb s) (j + 1) = cntB (hb s) j + (if hb s j = true then 1 else 0) := rfl
        refine e_hasM (by omega) (fun h0 => iz (nx 0 ?_)) (fun h1 => oi (nx 1 ?_))
        · rw [e, if_neg (by rw [h0]; decide)]; exact Int32.add_zero _
        · rw [e, if_pos h1, nI_1]
  exact loop _ 0 rfl (by omega)
/-- the least set that holds f and is closed under E -/
noncomputable def clB (E : Nat → Nat → Bool) (n f h : Nat) : Bool := @decide (∀ C : Nat → Bool, C f = true → (∀ a b, a < n → b < n → C a = true → E a b = true → C b = true) → C h = true) (Classical.propDecidable _)
theorem cl_eq {E : Nat → Nat → Bool} {n f : Nat} {S : Nat → Bool} (h1 : S f = true) (h2 : ∀ a b, a < n → b < n → S a = true → E a b = true → S b = true) (h3 : ∀ C : Nat → Bool, C f = true → (∀ a b, a < n → b < n → C a = true → E a b = true → C b = true) → ∀ h, h < n → S h = true → C h = true) (h : Nat) (hh : h < n) : S h = clB E n f h := by
  unfold clB
  by_cases hs : S h = true
  · rw [hs]
    exact (@decide_eq_true _ (Classical.propDecidable _) (fun C c1 c2 => h3 C c1 c2 h hh hs)).symm
  · have e : S h = false := by rw [← Bool.not_eq_true]; exact hs
    rw [e]
    exact (@decide_eq_false _ (Classical.propDecidable _) (fun hc => hs (hc S h1 h2))).symm
end
section
/-- shortest times by stages (pure): E whether there is an edge, W its minutes, F: none -/
def t0F (E : Nat → Nat → Bool) (W : Nat → Nat → Nat) (F a b : Nat) : Nat := if E a b = true then W a b else F
def stF (t : Nat → Nat → Nat) (k a b : Nat) : Nat := min (t a b) (t a k + t k b)
def fw (t : Nat → Nat → Nat) : Nat → Nat → Nat → Nat
  | 0 => t
  | k + 1 => stF (fw t k) k
theorem fw_le {t : Nat → Nat → Nat} {F : Nat} (h : ∀ a b, t a b ≤ F) : ∀ k a b, fw t k a b ≤ F
  | 0, a, b => h a b
  | k + 1, a, b => by
    have := fw_le h k a b
    show min (fw t k a b) (fw t k a k + fw t k k b) ≤ F
    omega
theorem fw_dn {t : Nat → Nat → Nat} {k a b : Nat} : fw t (k + 1) a b ≤ fw t k a b := by
  show min (fw t k a b) (fw t k a k + fw t k k b) ≤ _
  omega
theorem fw_mono {t : Nat → Nat → Nat} {a b k : Nat} : ∀ m, fw t (k + m) a b ≤ fw t k a b
  | 0 => Nat.le_refl _
  | m + 1 => Nat.le_trans (fw_dn (k := k + m)) (fw_mono m)
theorem fw_mn {t : Nat → Nat → Nat} {a b k n : Nat} (h : k ≤ n) : fw t n a b ≤ fw t k a b := by
  have := fw_mono (t := t) (a := a) (b := b) (k := k) (n - k)
  rw [show k + (n - k) = n by omega] at this
  exact this
/-- the triangle -/
theorem fw_tri {t : Nat → Nat → Nat} : ∀ k c, c < k → ∀ a b, fw t k a b ≤ fw t k a c + fw t k c b
  | 0, c, h, _, _ => absurd h (Nat.not_lt_zero c)
  | k + 1, c, h, a, b => by
    show min (fw t k a b) (fw t k a k + fw t k k b) ≤ min (fw t k a c) (fw t k a k + fw t k k c) + min (fw t k c b) (fw t k c k + fw t k k b)
    by_cases e : c = k
    · subst e; omega
    · have h1 := fw_tri (t := t) k c (by omega) a b
      have h2 := fw_tri (t := t) k c (by omega) a k
      have h3 := fw_tri (t := t) k c (by omega) k b
      omega
/-- what is reached is in every closed set -/
theorem fw_cl {E : Nat → Nat → Bool} {W : Nat → Nat → Nat} {F n : Nat} {C : Nat → Prop} (hC : ∀ a b, a < n → b < n → C a → E a b = true → C b) : ∀ k, k ≤ n → ∀ a b, a < n → b < n → fw (t0F E W F) k a b < F → C a → C b
  | 0, _, a, b, ha, hb, h, hc => by
    have h' : (if E a b = true then W a b else F) < F := h
    by_cases e : E a b = true
    · exact hC a b ha hb hc e
    · rw [if_neg e] at h'; omega
  | k + 1, hk, a, b, ha, hb, h, hc => by
    have h' : min (fw (t0F E W F) k a b) (fw (t0F E W F) k a k + fw (t0F E W F) k k b) < F := h
    by_cases e : fw (t0F E W F) k a b < F
    · exact fw_cl hC k (by omega) a b ha hb e hc
    · have hk1 : fw (t0F E W F) k a k < F := by omega
      have hk2 : fw (t0F E W F) k k b < F := by omega
      exact fw_cl hC k (by omega) k b (by omega) hb hk2 (fw_cl hC k (by omega) a k ha (by omega) hk1 hc)
theorem fw_0 {t : Nat → Nat → Nat} {a : Nat} (h : t a a = 0) : ∀ k, fw t k a a = 0
  | 0 => h
  | k + 1 => by
    have := fw_0 h k
    show min (fw t k a a) _ = 0
    omega
theorem fw_row {t : Nat → Nat → Nat} {F a : Nat} (h : ∀ b, F ≤ t a b) : ∀ k b, F ≤ fw t k a b
  | 0, b => h b
  | k + 1, b => by
    have h1 := fw_row h k b
    have h2 := fw_row h k k
    show F ≤ min (fw t k a b) (fw t k a k + fw t k k b)
    omega
section
variable {E : Nat → Nat → Bool} {W : Nat → Nat → Nat} {F n : Nat}
/-- shortest times -/
def SD (E : Nat → Nat → Bool) (W : Nat → Nat → Nat) (F n a b : Nat) : Nat := fw (t0F E W F) n a b
theorem SD_le (hW : ∀ a b, W a b ≤ 9) (hF : 1000 ≤ F) (a b : Nat) : SD E W F n a b ≤ F := fw_le (fun a b => by unfold t0F; split; exact Nat.le_trans (hW a b) (by omega); exact Nat.le_refl _) n a b
theorem SD_tri {a b c : Nat} (hc : c < n) : SD E W F n a b ≤ SD E W F n a c + SD E W F n c b := fw_tri n c hc a b
theorem SD_e {a b : Nat} (h : E a b = true) : SD E W F n a b ≤ W a b := by
  have h1 : SD E W F n a b ≤ fw (t0F E W F) 0 a b := fw_mn (Nat.zero_le n)
  have h2 : fw (t0F E W F) 0 a b = W a b := by show (if E a b = true then W a b else F) = _; rw [if_pos h]
  omega
theorem SD_s {a b c : Nat} (hb : b < n) (h : E b c = true) : SD E W F n a c ≤ SD E W F n a b + W b c := by
  have h1 := SD_tri (E := E) (W := W) (F := F) (a := a) (b := c) hb
  have h2 := SD_e (W := W) (F := F) (n := n) h
  omega
theorem SD_cl {C : Nat → Prop} {a b : Nat} (ha : a < n) (hb : b < n) (hC : ∀ a b, a < n → b < n → C a → E a b = true → C b) (h : SD E W F n a b < F) (hc : C a) : C b := fw_cl hC n (Nat.le_refl n) a b ha hb h hc
/-- either all that is reached is in P i, or there are more than i -/
theorem cnt_grow {R : Nat → Prop} {P : Nat → Nat → Bool} (hm : ∀ i v, v < n → P i v = true → P (i + 1) v = true) (h0 : ∃ v, v < n ∧ P 0 v = true) (hp : ∀ i, (∃ b, b < n ∧ R b ∧ P i b = false) → ∃ v, v < n ∧ P (i + 1) v = true ∧ P i v = false) (b : Nat) (hb : b < n) (hr : R b) : P n b = true := by
  have q : ∀ i, (∀ b, b < n → R b → P i b = true) ∨ i + 1 ≤ cntB (P i) n := by
    intro i
    induction i with
    | zero =>
      right
      obtain ⟨v, hv, h⟩ := h0
      have := cnt_lt (p := fun _ => false) (q := P 0) n (fun _ _ h => absurd h (by decide)) ⟨v, hv, h, rfl⟩
      omega
    | succ i ih =>
      rcases ih with ih | ih
      · exact Or.inl (fun b hb hr => hm i b hb (ih b hb hr))
      · by_cases hc : ∃ b, b < n ∧ R b ∧ P i b = false
        · right
          have := cnt_lt n (fun k hk => hm i k hk) (hp i hc)
          omega
        · left
          intro b hb hr
          apply hm i b hb
          rw [← Bool.not_eq_false]
          exact fun h => hc ⟨b, hb, hr, h⟩
  rcases q n with h | h
  · exact h b hb hr
  · have := cnt_le (P n) n
    omega
/-- what is reached is near -/
theorem SD_near (hW : ∀ a b, W a b ≤ 9) {a b : Nat} (ha : a < n) (hb : b < n) (ht : E a a = true) (h0 : W a a = 0) (h : SD E W F n a b < F) : SD E W F n a b ≤ 9 * n := by
  have g := cnt_grow (n := n) (R := fun b => SD E W F n a b < F) (P := fun i v => decide (SD E W F n a v ≤ 9 * i)) (fun i v _ hq => decide_eq_true (by have := of_decide_eq_true hq; omega)) ⟨a, ha, decide_eq_true (by have := SD_e (W := W) (F := F) (n := n) ht; omega)⟩ (fun i ⟨b, hb, hr, hn⟩ => ?_) b hb h
  · exact of_decide_eq_true g
  · apply Classical.byContradiction
    intro hno
    have hcl : ∀ u v, u < n → v < n → SD E W F n a u ≤ 9 * i → E u v = true → SD E W F n a v ≤ 9 * i := by
      intro u v hu hv hq he
      have h1 := SD_s (W := W) (F := F) (a := a) hu he
      have h2 := hW u v
      apply Classical.byContradiction
      intro h3
      exact hno ⟨v, hv, decide_eq_true (by omega), decide_eq_false h3⟩
    have := SD_cl (C := fun v => SD E W F n a v ≤ 9 * i) ha hb hcl hr (by have := SD_e (W := W) (F := F) (n := n) ht; omega)
    exact absurd this (of_decide_eq_false hn)
theorem SD_fin (hW : ∀ a b, W a b ≤ 9) (hF : 1000 ≤ F) (hn : n ≤ 9) {a b c : Nat} (ha : a < n) (hb : b < n) (ht : E a a = true) (h0 : W a a = 0) (he : E b c = true) (h : SD E W F n a b < F) : SD E W F n a c < F := by
  have h1 := SD_near hW ha hb ht h0 h
  have h2 := SD_s (W := W) (F := F) (a := a) hb he
  have h3 := hW b c
  omega
/-- closed under tight edges: all that is reached -/
theorem SD_tight {D : Nat → Nat} (hD : ∀ k, k ≤ n → ∀ u v, u < n → D v ≤ D u + fw (t0F E W F) k u v) (C : Nat → Prop) (hC : ∀ u v, u < n → v < n → C u → E u v = true → D v = D u + W u v → C v) : ∀ k, k ≤ n → ∀ u v, u < n → v < n → fw (t0F E W F) k u v < F → D v = D u + fw (t0F E W F) k u v → C u → C v
  | 0, _, u, v, hu, hv, hf, he, hc => by
    have e0 : fw (t0F E W F) 0 u v = (if E u v = true then W u v else F) := rfl
    rw [e0] at hf he
    by_cases e : E u v = true
    · rw [if_pos e] at he
      exact hC u v hu hv hc e he
    · rw [if_neg e] at hf; omega
  | k + 1, hk, u, v, hu, hv, hf, he, hc => by
    have e0 : fw (t0F E W F) (k + 1) u v = min (fw (t0F E W F) k u v) (fw (t0F E W F) k u k + fw (t0F E W F) k k v) := rfl
    rw [e0] at hf he
    by_cases e : fw (t0F E W F) k u v ≤ fw (t0F E W F) k u k + fw (t0F E W F) k k v
    · exact SD_tight hD C hC k (by omega) u v hu hv (by omega) (by omega) hc
    · have d1 := hD k (by omega) u k hu
      have d2 := hD k (by omega) k v (by omega)
      have c1 := SD_tight hD C hC k (by omega) u k hu (by omega) (by omega) (by omega) hc
      exact SD_tight hD C hC k (by omega) k v (by omega) hv (by omega) (by omega) c1
theorem SD_all {C : Nat → Prop} {a b : Nat} (ha : a < n) (hb : b < n) (ht : E a a = true) (h0 : W a a = 0) (hF : 0 < F) (hC : ∀ u v, u < n → v < n → C u → E u v = true → SD E W F n a v = SD E W F n a u + W u v → C v) (h : SD E W F n a b < F) (hc : C a) : C b := by
  have e0 : SD E W F n a a = 0 := by have := SD_e (W := W) (F := F) (n := n) ht; omega
  refine SD_tight (D := SD E W F n a) (fun k hk u v hu => ?_) C hC n (Nat.le_refl n) a b ha hb h ?_ hc
  · have h1 := SD_tri (E := E) (W := W) (F := F) (a := a) (b := v) hu
    have h2 : SD E W F n u v ≤ fw (t0F E W F) k u v := fw_mn hk
    omega
  · rw [e0, Nat.zero_add]; rfl
def upF (d : Nat) : Nat := if d < 1000 then d else 1000000
/-- the same with another F -/
theorem SD_F (hW : ∀ a b, W a b ≤ 9) (hn : n ≤ 9) (ht : ∀ a, a < n → E a a = true) (h0 : ∀ a, W a a = 0) {a b : Nat} (ha : a < n) (hb : b < n) : SD E W 1000000 n a b = upF (SD E W 1000 n a b) := by
  have p1 : ∀ k a b, fw (t0F E W 1000) k a b < 1000 → fw (t0F E W 1000000) k a b ≤ fw (t0F E W 1000) k a b := by
    intro k
    induction k with
    | zero =>
      intro a b h
      have h' : (if E a b = true then W a b else 1000) < 1000 := h
      show (if E a b = true then W a b else 1000000) ≤ (if E a b = true then W a b else 1000)
      by_cases e : E a b = true
      · rw [if_pos e, if_pos e]; exact Nat.le_refl _
      · rw [if_neg e] at h'; omega
    | succ k ih =>
      intro a b h
      have h' : min (fw (t0F E W 1000) k a b) (fw (t0F E W 1000) k a k + fw (t0F E W 1000) k k b) < 1000 := h
      show min (fw (t0F E W 1000000) k a b) (fw (t0F E W 1000000) k a k + fw (t0F E W 1000000) k k b) ≤ min (fw (t0F E W 1000) k a b) (fw (t0F E W 1000) k a k + fw (t0F E W 1000) k k b)
      have i1 := ih a b
      have i2 := ih a k
      have i3 := ih k b
      omega
  have p2 : ∀ k, k ≤ n → ∀ a b, a < n → b < n → fw (t0F E W 1000000) k a b < 1000000 → SD E W 1000 n a b < 1000 ∧ SD E W 1000 n a b ≤ fw (t0F E W 1000000) k a b := by
    intro k
    induction k with
    | zero =>
      intro _ a b ha hb h
      have e0 : fw (t0F E W 1000000) 0 a b = (if E a b = true then W a b else 1000000) := rfl
      rw [e0] at h ⊢
      by_cases e : E a b = true
      · rw [if_pos e]
        have := SD_e (W := W) (F := 1000) (n := n) e
        have := hW a b
        omega
      · rw [if_neg e] at h; omega
    | succ k ih =>
      intro hk a b ha hb h
      have e0 : fw (t0F E W 1000000) (k + 1) a b = min (fw (t0F E W 1000000) k a b) (fw (t0F E W 1000000) k a k + fw (t0F E W 1000000) k k b) := rfl
      rw [e0] at h ⊢
      by_cases e : fw (t0F E W 1000000) k a b ≤ fw (t0F E W 1000000) k a k + fw (t0F E W 1000000) k k b
      · have := ih (by omega) a b ha hb (by omega)
        omega
      · have i1 := ih (by omega) a k ha (by omega) (by omega)
        have i2 := ih (by omega) k b (by omega) hb (by omega)
        have n1 := SD_near hW ha (by omega) (ht a ha) (h0 a) i1.1
        have n2 := SD_near hW (show k < n by omega) hb (ht k (by omega)) (h0 k) i2.1
        have tr := SD_tri (E := E) (W := W) (F := 1000) (a := a) (b := b) (show k < n by omega)
        omega
  unfold upF
  by_cases h : SD E W 1000 n a b < 1000
  · rw [if_pos h]
    have h1 : SD E W 1000000 n a b ≤ SD E W 1000 n a b := p1 n a b h
    have h2 := (p2 n (Nat.le_refl n) a b ha hb (show fw (t0F E W 1000000) n a b < 1000000 by have : SD E W 1000000 n a b = fw (t0F E W 1000000) n a b := rfl; omega)).2
    have : SD E W 1000000 n a b = fw (t0F E W 1000000) n a b := rfl
    omega
  · rw [if_neg h]
    have h1 := SD_le (E := E) (W := W) (F := 1000000) (n := n) hW (by omega) a b
    apply Classical.byContradiction
    intro hne
    have := (p2 n (Nat.le_refl n) a b ha hb (show fw (t0F E W 1000000) n a b < 1000000 by have : SD E W 1000000 n a b = fw (t0F E W 1000000) n a b := rfl; omega)).1
    exact h this
end
end
section
theorem e_shorten1 {t : Nat → Int32} {m : Nat → Nat → Nat} {n : Nat} {x1 : Int32} {post : (Nat → Int32) → Prop} (hn : n ≤ 9) (hx : x1 = nI n) (hm : ∀ a b, m a b ≤ 1000) (h0 : ∀ a b, a < n → b < n → t (9 * a + b) = nI (m a b)) (hp : ∀ t', (∀ a b, a < n → b < n → t' (9 * a + b) = nI (fw m n a b)) → post t') : q_wp_X7_shorten_1_0 t x1 post := by
  subst hx
  have le : ∀ k a b, fw m k a b ≤ 1000 := fw_le hm
  have st : ∀ k a b, fw m (k + 1) a b = min (fw m k a b) (fw m k a k + fw m k k b) := fun _ _ _ => rfl
  have ei : ∀ a b : Nat, (nI a * 9) + nI b = nI (9 * a + b) := fun a b => by rw [jx9, Nat.mul_comm]
  intro P hP
  have loop : ∀ w k (t : Nat → Int32), w = n - k → k ≤ n → (∀ a b, a < n → b < n → t (9 * a + b) = nI (fw m k a b)) → P (nI k) t := by
    intro w
    induction w using Nat.strongRecOn with
    | ind w ih =>
      intro k t hw hk ht
      apply hP
      refine pk_le n k (fun h9 => ?_) (fun h9 => ?_)
      · have e : k = n := by omega
        subst e
        exact hp t ht
      · intro P2 hP2
        have loop2 : ∀ w a (t : Nat → Int32), w = n - a → a ≤ n → (∀ a' b, a' < a → b < n → t (9 * a' + b) = nI (fw m (k + 1) a' b)) → (∀ a' b, a ≤ a' → a' < n → b < n → t (9 * a' + b) = nI (fw m k a' b)) → P2 (nI a) t := by
          intro w
          induction w using Nat.strongRecOn with
          | ind w ih2 =>
            intro a t hw2 ha t1 t2
            apply hP2
            refine pk_le n a (fun h8 v ev => ?_) (fun h8 => ?_)
            · rw [ev, nI_1]
              exact ih (n - (k + 1)) (by omega) (k + 1) t rfl (by omega) (fun a' b ha' hb => t1 a' b (by omega) hb)
            · rw [ei a k]
              refine ⟨vp_in_nI (by omega) (by omega), fun v ev => ?_⟩
              rw [nI_clamp (by omega), t2 a k (Nat.le_refl a) h8 h9] at ev
              subst ev
              have done : ∀ t' : Nat → Int32, (∀ a' b, a' < a → b < n → t' (9 * a' + b) = nI (fw m (k + 1) a' b)) → (∀ b, b < n → t' (9 * a + b) = nI (fw m (k + 1) a b)) → (∀ a' b, a < a' → a' < n → b < n → t' (9 * a' + b) = nI (fw m k a' b)) → q_wp_X7_shorten_1_86 P P2 t' (nI n) (nI k) (nI a) post := by
                intro t' d1 d2 d3 v ev
                rw [ev, nI_1]
                exact ih2 (n - (a + 1)) (by omega) (a + 1) t' rfl (by omega) (fun a' b ha' hb => by
                  by_cases e : a' = a
                  · subst e; exact d2 b hb
                  · exact d1 a' b (by omega) hb) (fun a' b ha' hn' hb => d3 a' b (by omega) hn' hb)
              intro P3 hP3
              have loop3 : ∀ w b (t : Nat → Int32), w = n - b → b ≤ n → (∀ a' b, a' < a → b < n → t (9 * a' + b) = nI (fw m (k + 1) a' b)) → (∀ b', b' < b → t (9 * a + b') = nI (fw m (k + 1) a b')) → (∀ b', b ≤ b' → b' < n → t (9 * a + b') = nI (fw m k a b')) → (∀ a' b, a < a' → a' < n → b < n → t (9 * a' + b) = nI (fw m k a' b)) → P3 (nI b) t := by
                intro w
                induction w using Nat.strongRecOn with
                | ind w ih3 =>
                  intro b t hw3 hb r1 r2 r3 r4
                  apply hP3
                  refine pk_le n b (fun h7 => done t r1 (fun b' hb' => r2 b' (by omega)) r4) (fun h7 => pk_le 1000 (fw m k a k) (fun hf => done t r1 (fun b' hb' => ?_) r4) (fun hf => ?_) rfl rfl (by omega) (by have := le k a k; omega))
                  · by_cases e : b' < b
                    · exact r2 b' e
                    · rw [r3 b' (by omega) hb', st]
                      have := le k a b'
                      rw [show min (fw m k a b') (fw m k a k + fw m k k b') = fw m k a b' by omega]
                  · rw [ei k b, ei a b]
                    have hin1 : vp_in (nI (9 * k + b)) 81 := vp_in_nI (by omega) (by omega)
                    have hin2 : vp_in (nI (9 * a + b)) 81 := vp_in_nI (by omega) (by omega)
                    have hkb : t (9 * k + b) = nI (fw m k k b) := by
                      by_cases e1 : k < a
                      · rw [r1 k b e1 h7, st]
                        rw [show min (fw m k k b) (fw m k k k + fw m k k b) = fw m k k b by omega]
                      · by_cases e2 : k = a
                        · subst e2; exact r3 b (Nat.le_refl b) h7
                        · exact r4 k b (by omega) h9 h7
                    refine ⟨hin1, fun v ev => ⟨hin2, ?_⟩⟩
                    rw [nI_clamp (by omega), hkb, nI_add] at ev
                    subst ev
                    rw [nI_clamp (by omega), r3 b (Nat.le_refl b) h7]
                    have hl1 := le k a b
                    have hl2 := le k a k
                    have hl3 := le k k b
                    have nx : ∀ t' : Nat → Int32, (∀ j, ¬ j = 9 * a + b → t' j = t j) → t' (9 * a + b) = nI (fw m (k + 1) a b) → q_wp_X7_shorten_1_80 P P2 P3 t' (nI n) (nI k) (nI a) (nI (fw m k a k)) (nI b) post := by
                      intro t' u1 u2 v ev
                      rw [ev, nI_1]
                      refine ih3 (n - (b + 1)) (by omega) (b + 1) t' rfl (by omega) (fun a' b' ha' hb' => ?_) (fun b' hb' => ?_) (fun b' hb1 hb2 => ?_) (fun a' b' ha' hn' hb' => ?_)
                      · rw [u1 _ (by omega)]; exact r1 a' b' ha' hb'
                      · by_cases e : b' = b
                        · subst e; exact u2
                        · rw [u1 _ (by omega)]; exact r2 b' (by omega)
                      · rw [u1 _ (by omega)]; exact r3 b' (by omega) hb2
                      · rw [u1 _ (by omega)]; exact r4 a' b' ha' hn' hb'
                    refine pk_le (fw m k a b) (fw m k a k + fw m k k b) (fun hle => nx t (fun _ _ => rfl) ?_) (fun hlt => ⟨hin2, fun t' et => nx t' (fun j hj => ?_) ?_⟩) rfl rfl (by omega) (by omega)
                    · rw [r3 b (Nat.le_refl b) h7, st, show min (fw m k a b) (fw m k a k + fw m k k b) = fw m k a b by omega]
                    · rw [et, up_n hj]
                    · rw [et, up_s, st, show min (fw m k a b) (fw m k a k + fw m k k b) = fw m k a k + fw m k k b by omega]
              exact loop3 _ 0 t rfl (by omega) t1 (fun b' hb' => absurd hb' (Nat.not_lt_zero b')) (fun b' _ hb' => t2 a b' (Nat.le_refl a) h8 hb') (fun a' b' ha' hn' hb' => t2 a' b' (by omega) hn' hb')
        exact loop2 _ 0 t rfl (by omega) (fun a' b ha' => absurd ha' (Nat.not_lt_zero a')) (fun a' b _ ha' hb => ht a' b ha' hb)
  exact loop _ 0 t rfl (by omega) h0
theorem e_shorten2 {t : Nat → Int32} {m : Nat → Nat → Nat} {n : Nat} {x1 : Int32} {post : (Nat → Int32) → Prop} (hn : n ≤ 9) (hx : x1 = nI n) (hm : ∀ a b, m a b ≤ 1000) (h0 : ∀ a b, a < n → b < n → t (9 * a + b) = nI (m a b)) (hp : ∀ t', (∀ a b, a < n → b < n → t' (9 * a + b) = nI (fw m n a b)) → post t') : q_wp_X7_shorten_2_0 t x1 post := by
  subst hx
  have le : ∀ k a b, fw m k a b ≤ 1000 := fw_le hm
  have st : ∀ k a b, fw m (k + 1) a b = min (fw m k a b) (fw m k a k + fw m k k b) := fun _ _ _ => rfl
  have ei : ∀ a b : Nat, (nI a * 9) + nI b = nI (9 * a + b) := fun a b => by rw [jx9, Nat.mul_comm]
  intro P hP
  have loop : ∀ w k (t : Nat → Int32), w = n - k → k ≤ n → (∀ a b, a < n → b < n → t (9 * a + b) = nI (fw m k a b)) → P (nI k) t := by
    intro w
    induction w using Nat.strongRecOn with
    | ind w ih =>
      intro k t hw hk ht
      apply hP
      refine pk_le n k (fun h9 => ?_) (fun h9 => ?_)
      · have e : k = n := by omega
        subst e
        exact hp t ht
      · intro P2 hP2
        have loop2 : ∀ w a (t : Nat → Int32), w = n - a → a ≤ n → (∀ a' b, a' < a → b < n → t (9 * a' + b) = nI (fw m (k + 1) a' b)) → (∀ a' b, a ≤ a' → a' < n → b < n → t (9 * a' + b) = nI (fw m k a' b)) → P2 (nI a) t := by
          intro w
          induction w using Nat.strongRecOn with
          | ind w ih2 =>
            intro a t hw2 ha t1 t2
            apply hP2
            refine pk_le n a (fun h8 v ev => ?_) (fun h8 => ?_)
            · rw [ev, nI_1]
              exact ih (n - (k + 1)) (by omega) (k + 1) t rfl (by omega) (fun a' b ha' hb => t1 a' b (by omega) hb)
            · rw [ei a k]
              refine ⟨vp_in_nI (by omega) (by omega), fun v ev => ?_⟩
              rw [nI_clamp (by omega), t2 a k (Nat.le_refl a) h8 h9] at ev
              subst ev
              have done : ∀ t' : Nat → Int32, (∀ a' b, a' < a → b < n → t' (9 * a' + b) = nI (fw m (k + 1) a' b)) → (∀ b, b < n → t' (9 * a + b) = nI (fw m (k + 1) a b)) → (∀ a' b, a < a' → a' < n → b < n → t' (9 * a' + b) = nI (fw m k a' b)) → q_wp_X7_shorten_2_86 P P2 t' (nI n) (nI k) (nI a) post := by
                intro t' d1 d2 d3 v ev
                rw [ev, nI_1]
                exact ih2 (n - (a + 1)) (by omega) (a + 1) t' rfl (by omega) (fun a' b ha' hb => by
                  by_cases e : a' = a
                  · subst e; exact d2 b hb
                  · exact d1 a' b (by omega) hb) (fun a' b ha' hn' hb => d3 a' b (by omega) hn' hb)
              intro P3 hP3
              have loop3 : ∀ w b (t : Nat → Int32), w = n - b → b ≤ n → (∀ a' b, a' < a → b < n → t (9 * a' + b) = nI (fw m (k + 1) a' b)) → (∀ b', b' < b → t (9 * a + b') = nI (fw m (k + 1) a b')) → (∀ b', b ≤ b' → b' < n → t (9 * a + b') = nI (fw m k a b')) → (∀ a' b, a < a' → a' < n → b < n → t (9 * a' + b) = nI (fw m k a' b)) → P3 (nI b) t := by
                intro w
                induction w using Nat.strongRecOn with
                | ind w ih3 =>
                  intro b t hw3 hb r1 r2 r3 r4
                  apply hP3
                  refine pk_le n b (fun h7 => done t r1 (fun b' hb' => r2 b' (by omega)) r4) (fun h7 => pk_le 1000 (fw m k a k) (fun hf => done t r1 (fun b' hb' => ?_) r4) (fun hf => ?_) rfl rfl (by omega) (by have := le k a k; omega))
                  · by_cases e : b' < b
                    · exact r2 b' e
                    · rw [r3 b' (by omega) hb', st]
                      have := le k a b'
                      rw [show min (fw m k a b') (fw m k a k + fw m k k b') = fw m k a b' by omega]
                  · rw [ei k b, ei a b]
                    have hin1 : vp_in (nI (9 * k + b)) 81 := vp_in_nI (by omega) (by omega)
                    have hin2 : vp_in (nI (9 * a + b)) 81 := vp_in_nI (by omega) (by omega)
                    have hkb : t (9 * k + b) = nI (fw m k k b) := by
                      by_cases e1 : k < a
                      · rw [r1 k b e1 h7, st]
                        rw [show min (fw m k k b) (fw m k k k + fw m k k b) = fw m k k b by omega]
                      · by_cases e2 : k = a
                        · subst e2; exact r3 b (Nat.le_refl b) h7
                        · exact r4 k b (by omega) h9 h7
                    refine ⟨hin1, fun v ev => ⟨hin2, ?_⟩⟩
                    rw [nI_clamp (by omega), hkb, nI_add] at ev
                    subst ev
                    rw [nI_clamp (by omega), r3 b (Nat.le_refl b) h7]
                    have hl1 := le k a b
                    have hl2 := le k a k
                    have hl3 := le k k b
                    have nx : ∀ t' : Nat → Int32, (∀ j, ¬ j = 9 * a + b → t' j = t j) → t' (9 * a + b) = nI (fw m (k + 1) a b) → q_wp_X7_shorten_2_80 P P2 P3 t' (nI n) (nI k) (nI a) (nI (fw m k a k)) (nI b) post := by
                      intro t' u1 u2 v ev
                      rw [ev, nI_1]
                      refine ih3 (n - (b + 1)) (by omega) (b + 1) t' rfl (by omega) (fun a' b' ha' hb' => ?_) (fun b' hb' => ?_) (fun b' hb1 hb2 => ?_) (fun a' b' ha' hn' hb' => ?_)
                      · rw [u1 _ (by omega)]; exact r1 a' b' ha' hb'
                      · by_cases e : b' = b
                        · subst e; exact u2
                        · rw [u1 _ (by omega)]; exact r2 b' (by omega)
                      · rw [u1 _ (by omega)]; exact r3 b' (by omega) hb2
                      · rw [u1 _ (by omega)]; exact r4 a' b' ha' hn' hb'
                    refine pk_le (fw m k a b) (fw m k a k + fw m k k b) (fun hle => nx t (fun _ _ => rfl) ?_) (fun hlt => ⟨hin2, fun t' et => nx t' (fun j hj => ?_) ?_⟩) rfl rfl (by omega) (by omega)
                    · rw [r3 b (Nat.le_refl b) h7, st, show min (fw m k a b) (fw m k a k + fw m k k b) = fw m k a b by omega]
                    · rw [et, up_n hj]
                    · rw [et, up_s, st, show min (fw m k a b) (fw m k a k + fw m k k b) = fw m k a k + fw m k k b by omega]
              exact loop3 _ 0 t rfl (by omega) t1 (fun b' hb' => absurd hb' (Nat.not_lt_zero b')) (fun b' _ hb' => t2 a b' (Nat.le_refl a) h8 hb') (fun a' b' ha' hn' hb' => t2 a' b' (by omega) hn' hb')
        exact loop2 _ 0 t rfl (by omega) (fun a' b ha' => absurd ha' (Nat.not_lt_zero a')) (fun a' b _ ha' hb => ht a' b ha' hb)
  exact loop _ 0 t rfl (by omega) h0
end
section
theorem e_fill81_1 {t : Nat → Int32} {x : Int32} {post : (Nat → Int32) → Prop} (hp : ∀ t', (∀ j, j < 81 → t' j = x) → post t') : q_wp_J7_fill_53178_1_0 t x post := by
  intro P hP
  have loop : ∀ m i (t : Nat → Int32), m = 81 - i → i ≤ 81 → (∀ j, j < i → t j = x) → P (nI i) t := by
    intro m
    induction m using Nat.strongRecOn with
    | ind m ih =>
      intro i t hm hi hS
      apply hP
      refine pk_le 81 i (fun h9 => hp t (fun j hj => hS j (by omega))) (fun h9 => ⟨vp_in_nI h9 (by omega), fun t2 e1 v e2 => ?_⟩)
      rw [e2, nI_1]
      refine ih (81 - (i + 1)) (by omega) (i + 1) t2 rfl (by omega) (fun j hj => ?_)
      rw [e1, nI_clamp (by omega)]
      by_cases hji : j = i
      · rw [hji, up_s]
      · rw [up_n hji]; exact hS j (by omega)
  exact loop _ 0 t rfl (by omega) (fun j hj => absurd hj (Nat.not_lt_zero j))
theorem e_fill81_2 {t : Nat → Int32} {x : Int32} {post : (Nat → Int32) → Prop} (hp : ∀ t', (∀ j, j < 81 → t' j = x) → post t') : q_wp_J7_fill_53178_2_0 t x post := by
  intro P hP
  have loop : ∀ m i (t : Nat → Int32), m = 81 - i → i ≤ 81 → (∀ j, j < i → t j = x) → P (nI i) t := by
    intro m
    induction m using Nat.strongRecOn with
    | ind m ih =>
      intro i t hm hi hS
      apply hP
      refine pk_le 81 i (fun h9 => hp t (fun j hj => hS j (by omega))) (fun h9 => ⟨vp_in_nI h9 (by omega), fun t2 e1 v e2 => ?_⟩)
      rw [e2, nI_1]
      refine ih (81 - (i + 1)) (by omega) (i + 1) t2 rfl (by omega) (fun j hj => ?_)
      rw [e1, nI_clamp (by omega)]
      by_cases hji : j = i
      · rw [hji, up_s]
      · rw [up_n hji]; exact hS j (by omega)
  exact loop _ 0 t rfl (by omega) (fun j hj => absurd hj (Nat.not_lt_zero j))
def echB (td : Nat → Int32) (a b : Nat) : Bool := ech td a b (cN (td 4))
/-- where a song goes on, not into huts of sh: by ways downhill, by echoes at once -/
def EL (td : Nat → Int32) (sh : Int32) (a b : Nat) : Bool := !hb sh a && (!hb sh b && ((decide (a = b) || echB td a b) || (decide (0 < td (51 + 9 * a + b)) && decide (td (7 + b) < td (7 + a)))))
def WL (td : Nat → Int32) (a b : Nat) : Nat := if (decide (a = b) || echB td a b) = true then 0 else min 9 (cN (td (51 + 9 * a + b)))
theorem WL_le {td : Nat → Int32} (a b : Nat) : WL td a b ≤ 9 := by
  unfold WL
  split <;> omega
theorem WL_0 {td : Nat → Int32} (a : Nat) : WL td a a = 0 := by
  unfold WL
  rw [decide_eq_true rfl, Bool.true_or, if_pos rfl]
/-- when a song begun at a is at b -/
def RUN (td : Nat → Int32) (sh : Int32) (n a b : Nat) : Nat := SD (EL td sh) (WL td) 1000 n a b
def leadB (td : Nat → Int32) (a b : Nat) : Bool := decide (0 < td (51 + 9 * a + b)) && (decide (td (7 + b) < td (7 + a)) && (!dam td a && !dam td b))
theorem way_iv {td : Nat → Int32} {a b : Nat} (hR : RNG td) (ha : a < 9) (hb : b < 9) : iv 0 9 (td (51 + 9 * a + b)) := by
  have h := hR (51 + 9 * a + b) (by omega)
  have e : mRh (51 + 9 * a + b) = 9 := by
    unfold mRh
    rw [if_neg (by omega), if_neg (by omega), if_neg (by omega), if_neg (by omega), if_neg (by omega), if_neg (by omega), if_neg (by omega), if_neg (by omega), if_neg (by omega), if_neg (by omega), if_neg (by omega), if_neg (by omega)]
  rw [e] at h
  exact h
section
variable {td : Nat → Int32} {huts singers villages dams echoes deep slide : Int32} {heights ladders minutes echoFrom echoTo homes talls known : Nat → Int32}
theorem e_leadsX {a b n : Nat} {post : Int32 → Prop} (hD : LX td huts singers dams echoes deep heights ladders minutes echoFrom echoTo talls) (hn : td 0 = nI n) (hn9 : n ≤ 9) (ha : a < n) (hb1 : b < n) (h0 : leadB td a b = false → post 0) (h1 : leadB td a b = true → post 1) : q_wl_X2_leads_0 dams heights minutes (nI a) (nI b) post := by
  have ei : (nI a * 9) + nI b = nI (9 * a + b) := by rw [jx9, Nat.mul_comm]
  have hla : nI a < td 0 := by rw [hn]; exact nI_lt ha (by omega)
  have hlb : nI b < td 0 := by rw [hn]; exact nI_lt hb1 (by omega)
  unfold leadB at h0 h1
  unfold q_wl_X2_leads_0
  rw [ei]
  refine ⟨vp_in_nI (by omega) (by omega), ?_⟩
  rw [nI_clamp (by omega), hD.2.2.2.2.2.2.2.1 (9 * a + b) (by omega), show 51 + (9 * a + b) = 51 + 9 * a + b by omega]
  refine ⟨fun hle => h0 (by rw [decide_eq_false (Int32.not_lt.mpr hle)]; rfl), fun hlt => ⟨vp_in_nI (by omega) (by omega), vp_in_nI (by omega) (by omega), ?_⟩⟩
  rw [decide_eq_true (Int32.not_le.mp hlt), Bool.true_and] at h0 h1
  rw [nI_clamp (by omega), nI_clamp (by omega), hD.2.2.2.2.2.1 a (by omega) hla, hD.2.2.2.2.2.1 b (by omega) hlb]
  refine ⟨fun hle => h0 (by rw [decide_eq_false (Int32.not_lt.mpr hle)]; rfl), fun hlt2 => ?_⟩
  rw [decide_eq_true (Int32.not_le.mp hlt2), Bool.true_and] at h0 h1
  rw [hD.2.2.1]
  refine e_damX (by omega) (fun hd => zi ?_) (fun hd => io (h0 (by unfold dam; rw [hd]; rfl)))
  refine e_damX (by omega) (fun hd2 => zi (h1 (by unfold dam; rw [hd, hd2]; rfl))) (fun hd2 => io (h0 (by unfold dam; rw [hd, hd2]; rfl)))
theorem e_markX {t : Nat → Int32} {a : Nat} {set : Int32} {post : (Nat → Int32) → Prop} (ha : a < 9) (hp : ∀ t', (∀ h, h < 9 → t' (9 * a + h) = if hb set h = true then 0 else t (9 * a + h)) → (∀ j, (∀ h, h < 9 → ¬ j = 9 * a + h) → t' j = t j) → post t') : q_wp_X7_markAtOnce_0 t (nI a) set post := by
  have ei : ∀ h : Nat, (nI a * 9) + nI h = nI (9 * a + h) := fun h => by rw [jx9, Nat.mul_comm]
  intro P hP
  have loop : ∀ m i (t1 : Nat → Int32), m = 9 - i → i ≤ 9 → (∀ h, h < 9 → t1 (9 * a + h) = if h < i ∧ hb set h = true then 0 else t (9 * a + h)) → (∀ j, (∀ h, h < 9 → ¬ j = 9 * a + h) → t1 j = t j) → P (nI i) t1 := by
    intro m
    induction m using Nat.strongRecOn with
    | ind m ih =>
      intro i t1 hm hi h1 h2
      apply hP
      refine pk_le 9 i (fun h9 => hp t1 (fun h hh => ?_) h2) (fun h9 => ?_)
      · rw [h1 h hh]
        by_cases e : hb set h = true
        · rw [if_pos ⟨by omega, e⟩, if_pos e]
        · rw [if_neg (fun q => e q.2), if_neg e]
      · have nx : ∀ t2 : Nat → Int32, (∀ h, h < 9 → t2 (9 * a + h) = if h < i + 1 ∧ hb set h = true then 0 else t (9 * a + h)) → (∀ j, (∀ h, h < 9 → ¬ j = 9 * a + h) → t2 j = t j) → q_wp_X7_markAtOnce_28 P t2 (nI a) set (nI i) post := by
          intro t2 g1 g2 v ev
          rw [ev, nI_1]
          exact ih (9 - (i + 1)) (by omega) (i + 1) t2 rfl (by omega) g1 g2
        have stp : ∀ h, ¬ h = i → (if h < i + 1 ∧ hb set h = true then (0 : Int32) else t (9 * a + h)) = (if h < i ∧ hb set h = true then 0 else t (9 * a + h)) := by
          intro h hne
          by_cases e : h < i ∧ hb set h = true
          · rw [if_pos e, if_pos ⟨by omega, e.2⟩]
          · rw [if_neg e, if_neg (fun q => e ⟨by omega, q.2⟩)]
        refine e_hasX (by omega) (fun hh0 => iz (nx t1 (fun h hh => ?_) h2)) (fun hh1 => oi ?_)
        · by_cases e : h = i
          · subst e
            rw [h1 h hh, if_neg (fun q => absurd q.1 (Nat.lt_irrefl h)), if_neg (fun q => by rw [hh0] at q; exact absurd q.2 (by decide))]
          · rw [h1 h hh, stp h e]
        · rw [ei i]
          refine ⟨vp_in_nI (by omega) (by omega), fun t2 e2 => nx t2 (fun h hh => ?_) (fun j hj => ?_)⟩
          · rw [e2, nI_clamp (by omega)]
            by_cases e : h = i
            · subst e
              rw [up_s, if_pos ⟨Nat.lt_succ_self h, hh1⟩]
            · rw [up_n (by omega), h1 h hh, stp h e]
          · rw [e2, nI_clamp (by omega), up_n (hj i h9)]
            exact h2 j hj
  exact loop _ 0 t rfl (by omega) (fun h hh => by rw [if_neg (fun q => absurd q.1 (Nat.not_lt_zero h))]) (fun _ _ => rfl)
theorem e_hearX {t : Nat → Int32} {n : Nat} {post : (Nat → Int32) → Prop} (hR : RNG td) (hD : LX td huts singers dams echoes deep heights ladders minutes echoFrom echoTo talls) (hn : td 0 = nI n) (hn9 : n ≤ 9) (hp : ∀ t', (∀ a b, a < n → b < n → t' (9 * a + b) = nI (RUN td (td 3) n a b)) → post t') : q_wp_X7_hear_9_0 t huts dams echoes heights minutes echoFrom echoTo post := by
  refine e_fill81_1 (fun t0 ht0 => ?_)
  intro P hP
  have loop : ∀ m a (t : Nat → Int32), m = n - a → a ≤ n → (∀ a' b, a' < a → b < n → t (9 * a' + b) = nI (t0F (EL td (td 3)) (WL td) 1000 a' b)) → (∀ a' b, a ≤ a' → a' < 9 → b < 9 → t (9 * a' + b) = 1000) → P (nI a) t := by
    intro m
    induction m using Nat.strongRecOn with
    | ind m ih =>
      intro a t hm ha h1 h2
      apply hP
      rw [hD.1, hn]
      refine pk_le n a (fun h9 => ?_) (fun h9 => ?_)
      · refine e_shorten1 (m := t0F (EL td (td 3)) (WL td) 1000) hn9 rfl (fun a b => ?_) (fun a' b ha' hb => h1 a' b (by omega) hb) hp
        unfold t0F
        split
        · have := WL_le (td := td) a b; omega
        · omega
      · intro P2 hP2
        have loop2 : ∀ m b (t : Nat → Int32), m = n - b → b ≤ n → (∀ a' b, a' < a → b < n → t (9 * a' + b) = nI (t0F (EL td (td 3)) (WL td) 1000 a' b)) → (∀ a' b, a < a' → a' < 9 → b < 9 → t (9 * a' + b) = 1000) → (∀ b', b' < 9 → t (9 * a + b') = if b' < b ∧ leadB td a b' = true then td (51 + 9 * a + b') else 1000) → P2 (nI b) t := by
          intro m
          induction m using Nat.strongRecOn with
          | ind m ih2 =>
            intro b t hm2 hble g1 g2 g3
            apply hP2
            refine pk_le n b (fun h8 => ?_) (fun h8 => ?_)
            · have nx : ∀ t' : Nat → Int32, (∀ a' b, a' < a → b < n → t' (9 * a' + b) = nI (t0F (EL td (td 3)) (WL td) 1000 a' b)) → (∀ a' b, a < a' → a' < 9 → b < 9 → t' (9 * a' + b) = 1000) → (∀ b, b < n → t' (9 * a + b) = nI (t0F (EL td (td 3)) (WL td) 1000 a b)) → q_wp_X7_hear_9_85 P t' (nI n) dams echoes heights minutes echoFrom echoTo (nI a) post := by
                intro t' k1 k2 k3 v ev
                rw [ev, nI_1]
                refine ih (n - (a + 1)) (by omega) (a + 1) t' rfl (by omega) (fun a' b ha' hb => ?_) (fun a' b ha' h9' hb => k2 a' b (by omega) h9' hb)
                by_cases e : a' = a
                · subst e; exact k3 b hb
                · exact k1 a' b (by omega) hb
              rw [hD.2.2.1]
              rw [hD.2.2.1] at nx
              refine e_damX (by omega) (fun hd => zi ?_) (fun hd => io (nx t g1 g2 (fun b' hb' => ?_)))
              · refine e_earX hR rfl hD.2.2.2.1 hD.2.2.2.2.2.2.2.2.1 (by omega) (fun set hset => ?_)
                refine e_markX (by omega) (fun t' q1 q2 => nx t' (fun a' b' ha' hb' => ?_) (fun a' b' ha' h9' hb' => ?_) (fun b' hb' => ?_))
                · rw [q2 _ (fun h hh => by omega)]; exact g1 a' b' ha' hb'
                · rw [q2 _ (fun h hh => by omega)]; exact g2 a' b' ha' h9' hb'
                · rw [q1 b' (by omega), hset b' (by omega), g3 b' (by omega)]
                  have hd' : dam td a = false := hd
                  unfold t0F EL WL hear leadB
                  rw [hd, hd']
                  have edm : hb (td 3) b' = dam td b' := rfl
                  have eab : decide (b' = a) = decide (a = b') := by
                    by_cases e : a = b'
                    · rw [decide_eq_true e, decide_eq_true e.symm]
                    · rw [decide_eq_false e, decide_eq_false (fun h => e h.symm)]
                  rw [edm, eab]
                  show (if (!dam td b' && (decide (a = b') || echB td a b')) = true then (0 : Int32) else _) = _
                  cases hdb : dam td b' with
                  | true =>
                    simp
                    rfl
                  | false =>
                    cases hq : (decide (a = b') || echB td a b') with
                    | true =>
                      simp
                      rfl
                    | false =>
                      obtain ⟨w, ew, -, hw9, -⟩ := iv_nI (way_iv hR (show a < 9 by omega) (show b' < 9 by omega)) (by decide)
                      rw [ew, cN_nI (by omega), show min 9 w = w by omega]
                      by_cases hc : 0 < nI w ∧ td (7 + b') < td (7 + a)
                      · rw [decide_eq_true hc.1, decide_eq_true hc.2]
                        simp [show b' < b by omega]
                      · by_cases h1 : 0 < nI w
                        · rw [decide_eq_false (fun h2 => hc ⟨h1, h2⟩)]
                          simp
                          rfl
                        · rw [decide_eq_false h1]
                          simp
                          rfl
              · rw [g3 b' (by omega), if_neg (fun q => ?_)]
                · unfold t0F EL
                  rw [hd]
                  rfl
                · have hd' : dam td a = true := hd
                  have q2 := q.2
                  unfold leadB at q2
                  rw [hd'] at q2
                  simp at q2
            · have nx : ∀ t' : Nat → Int32, (∀ j, ¬ j = 9 * a + b → t' j = t j) → t' (9 * a + b) = (if leadB td a b = true then td (51 + 9 * a + b) else 1000) → q_wp_X7_hear_9_61 P P2 t' (nI n) dams echoes heights minutes echoFrom echoTo (nI a) (nI b) post := by
                intro t' k1 k2 v ev
                rw [ev, nI_1]
                refine ih2 (n - (b + 1)) (by omega) (b + 1) t' rfl (by omega) (fun a' b' ha' hb' => ?_) (fun a' b' ha' h9' hb' => ?_) (fun b' hb' => ?_)
                · rw [k1 _ (by omega)]; exact g1 a' b' ha' hb'
                · rw [k1 _ (by omega)]; exact g2 a' b' ha' h9' hb'
                · by_cases e : b' = b
                  · subst e
                    rw [k2]
                    by_cases hl : leadB td a b' = true
                    · rw [if_pos hl, if_pos ⟨Nat.lt_succ_self b', hl⟩]
                    · rw [if_neg hl, if_neg (fun q => hl q.2)]
                  · rw [k1 _ (by omega), g3 b' hb']
                    by_cases hl : b' < b ∧ leadB td a b' = true
                    · rw [if_pos hl, if_pos ⟨by omega, hl.2⟩]
                    · rw [if_neg hl, if_neg (fun q => hl ⟨by omega, q.2⟩)]
              have hrow := g3 b (by omega)
              rw [if_neg (fun q => absurd q.1 (Nat.lt_irrefl b))] at hrow
              refine e_leadsX hD hn hn9 h9 h8 (fun hl => iz (nx t (fun _ _ => rfl) ?_)) (fun hl => oi ?_)
              · rw [hrow, if_neg (by rw [hl]; decide)]
              · have ei : (nI a * 9) + nI b = nI (9 * a + b) := by rw [jx9, Nat.mul_comm]
                rw [ei]
                refine ⟨vp_in_nI (by omega) (by omega), fun v ev => ⟨vp_in_nI (by omega) (by omega), fun t' et => nx t' (fun j hj => ?_) ?_⟩⟩
                · rw [et, nI_clamp (by omega), up_n hj]
                · rw [nI_clamp (by omega), hD.2.2.2.2.2.2.2.1 (9 * a + b) (by omega), show 51 + (9 * a + b) = 51 + 9 * a + b by omega] at ev
                  rw [et, nI_clamp (by omega), up_s, ev, if_pos hl]
        exact loop2 _ 0 t rfl (by omega) h1 (fun a' b ha' h9' hb => h2 a' b (by omega) h9' hb) (fun b' hb' => by rw [if_neg (fun q => absurd q.1 (Nat.not_lt_zero b'))]; exact h2 a b' (Nat.le_refl a) (by omega) hb')
  exact loop _ 0 t0 rfl (by omega) (fun a' b ha' => absurd ha' (Nat.not_lt_zero a')) (fun a' b _ ha' hb => ht0 _ (by omega))
end
end
section
theorem e_lessM {p q : Nat} {post : Int32 → Prop} (hp : p < 2 ^ 30) (hq : q < 2 ^ 30) (h : post (nI (min p q))) : q_m_lesser_0 (nI p) (nI q) post := by
  refine pk_le q p (fun hle => ?_) (fun hlt => ?_)
  · rw [show min p q = q by omega] at h; exact h
  · rw [show min p q = p by omega] at h; exact h
theorem e_grM {p q : Nat} {post : Int32 → Prop} (hp : p < 2 ^ 30) (hq : q < 2 ^ 30) (h : post (nI (max p q))) : q_m_greater_0 (nI p) (nI q) post := by
  refine pk_le p q (fun hle => ?_) (fun hlt => ?_)
  · rw [show max p q = q by omega] at h; exact h
  · rw [show max p q = p by omega] at h; exact h
def pA (D x : Nat → Nat) (h : Nat) : Bool := decide (D h < 1000) && decide (x h ≤ D h)
/-- so far right -/
def GD (D : Nat → Nat) (n : Nat) (x : Nat → Nat) : Prop := ∀ h, h < n → x h ≤ 1000000 ∧ (x h < 1000000 → D h < 1000) ∧ (D h < 1000 → D h ≤ x h)
def uN (x : Nat → Nat) (v d : Nat) : Nat → Nat := fun h => if h = v then d else x h
theorem uN_s {x : Nat → Nat} {v d : Nat} : uN x v d v = d := by unfold uN; rw [if_pos rfl]
theorem uN_n {x : Nat → Nat} {v d h : Nat} (e : ¬ h = v) : uN x v d h = x h := by unfold uN; rw [if_neg e]
section
variable {E : Nat → Nat → Bool} {W : Nat → Nat → Nat} {n f : Nat}
theorem SD_open (hE : ∀ a b, E a b = true → E a a = true) {u : Nat} (h : SD E W 1000 n f u < 1000) : E f f = true := by
  apply Classical.byContradiction
  intro hn
  have : ∀ b, 1000 ≤ t0F E W 1000 f b := by
    intro b
    unfold t0F
    rw [if_neg (fun h2 => hn (hE f b h2))]
    omega
  have h2 := fw_row this n u
  have e : SD E W 1000 n f u = fw (t0F E W 1000) n f u := rfl
  omega
theorem GD_rx (hW : ∀ a b, W a b ≤ 9) (hE : ∀ a b, E a b = true → E a a = true) (hW0 : ∀ a, W a a = 0) (hn : n ≤ 9) (hf : f < n) {x : Nat → Nat} (hG : GD (SD E W 1000 n f) n x) {u v w : Nat} (hu : u < n) (hv : v < n) (he : E u v = true) (hw : W u v ≤ w) : GD (SD E W 1000 n f) n (uN x v (min (x v) (x u + w))) := by
  intro h hh
  obtain ⟨g1, g2, g3⟩ := hG h hh
  obtain ⟨k1, k2, k3⟩ := hG u hu
  by_cases e : h = v
  · subst e
    rw [uN_s]
    refine ⟨by omega, fun hlt => ?_, fun hd => ?_⟩
    · by_cases q : x h < 1000000
      · exact g2 q
      · have hku := k2 (by omega)
        exact SD_fin hW (by omega) hn hf hu (SD_open hE hku) (hW0 f) he hku
    · by_cases q : x u < 1000000
      · have := k2 q
        have := k3 this
        have := SD_s (W := W) (F := 1000) (a := f) hu he
        have := g3 hd
        omega
      · have := g3 hd
        omega
  · rw [uN_n e]
    exact ⟨g1, g2, g3⟩
theorem rnd (hW : ∀ a b, W a b ≤ 9) (hE : ∀ a b, E a b = true → E a a = true) (hW0 : ∀ a, W a a = 0) (hn : n ≤ 9) (hf : f < n) {x0 x : Nat → Nat} {i : Nat} (hle : ∀ h, h < n → x h ≤ x0 h) (hed : ∀ u v, u < n → v < n → E u v = true → x v ≤ x0 u + W u v) (hx0 : E f f = true → x0 f = 0) (h0 : (∀ h, h < n → SD E W 1000 n f h < 1000 → x0 h ≤ SD E W 1000 n f h) ∨ i + 1 ≤ cntB (pA (SD E W 1000 n f) x0) n) : (∀ h, h < n → SD E W 1000 n f h < 1000 → x h ≤ SD E W 1000 n f h) ∨ i + 1 + 1 ≤ cntB (pA (SD E W 1000 n f) x) n := by
  have up : ∀ h, h < n → pA (SD E W 1000 n f) x0 h = true → pA (SD E W 1000 n f) x h = true := by
    intro h hh hp
    unfold pA at hp ⊢
    rw [Bool.and_eq_true, decide_eq_true_eq, decide_eq_true_eq] at hp ⊢
    have := hle h hh
    exact ⟨hp.1, by omega⟩
  rcases h0 with h0 | h0
  · left
    intro h hh hd
    have := h0 h hh hd
    have := hle h hh
    omega
  · by_cases hc : ∀ h, h < n → SD E W 1000 n f h < 1000 → x0 h ≤ SD E W 1000 n f h
    · left
      intro h hh hd
      have := hc h hh hd
      have := hle h hh
      omega
    · right
      have hd : ∃ k, k < n ∧ pA (SD E W 1000 n f) x k = true ∧ pA (SD E W 1000 n f) x0 k = false := by
        apply Classical.byContradiction
        intro hno
        apply hc
        intro b hb hd
        have ho := SD_open hE hd
        have hf0 : SD E W 1000 n f f = 0 := by have := SD_e (W := W) (F := 1000) (n := n) ho; have := hW0 f; omega
        have g := SD_all (C := fun u => SD E W 1000 n f u < 1000 ∧ x0 u ≤ SD E W 1000 n f u) hf hb ho (hW0 f) (by omega) (fun u v hu hv hC he ht => ?_) hd ⟨by omega, by have := hx0 ho; omega⟩
        · exact g.2
        · have hfv := SD_fin hW (by omega) hn hf hu ho (hW0 f) he hC.1
          refine ⟨hfv, ?_⟩
          have h1 := hed u v hu hv he
          have h2 : pA (SD E W 1000 n f) x v = true := by
            unfold pA
            rw [decide_eq_true hfv, Bool.true_and]
            exact decide_eq_true (by have := hC.2; omega)
          apply Classical.byContradiction
          intro h3
          exact hno ⟨v, hv, h2, by unfold pA; rw [decide_eq_false h3, Bool.and_false]⟩
      have := cnt_lt n up hd
      omega
end
theorem EL_a {td : Nat → Int32} {sh : Int32} (a b : Nat) (h : EL td sh a b = true) : EL td sh a a = true := by
  unfold EL at h ⊢
  rw [Bool.and_eq_true] at h
  rw [h.1, decide_eq_true rfl]
  rfl
theorem ech_iff {td : Nat → Int32} {a b : Nat} : ∀ c, ech td a b c = true ↔ ∃ k, k < c ∧ td (43 + 2 * k) = nI a ∧ td (44 + 2 * k) = nI b
  | 0 => ⟨fun h => absurd (show false = true from h) (by decide), fun ⟨k, hk, _⟩ => absurd hk (Nat.not_lt_zero k)⟩
  | c + 1 => by
    show (ech td a b c || (decide (td (43 + 2 * c) = nI a) && decide (td (44 + 2 * c) = nI b))) = true ↔ _
    rw [Bool.or_eq_true, ech_iff c, Bool.and_eq_true, decide_eq_true_eq, decide_eq_true_eq]
    constructor
    · rintro (⟨k, hk, h⟩ | h)
      · exact ⟨k, by omega, h⟩
      · exact ⟨c, by omega, h⟩
    · rintro ⟨k, hk, h⟩
      by_cases e : k = c
      · subst e; exact Or.inr h
      · exact Or.inl ⟨k, by omega, h⟩
/-- a round's state -/
def RI (td : Nat → Int32) (sh : Int32) (n f : Nat) (x0 x : Nat → Nat) (run : Nat → Int32) : Prop := (∀ h, h < n → run h = nI (x h)) ∧ GD (RUN td sh n f) n x ∧ (∀ h, h < n → x h ≤ x0 h) ∧ (EL td sh f f = true → x f = 0)
theorem RUN_sh {td : Nat → Int32} {sh : Int32} {n f u : Nat} (hf : f < n) (hu : u < n) (h : RUN td sh n f u < 1000) : hb sh u = false := by
  refine SD_cl (C := fun u => hb sh u = false) hf hu (fun a b _ _ _ he => ?_) h ?_
  · unfold EL at he
    simp only [Bool.and_eq_true, Bool.not_eq_true'] at he
    exact he.2.1
  · have := SD_open (E := EL td sh) (W := WL td) EL_a h
    unfold EL at this
    simp only [Bool.and_eq_true, Bool.not_eq_true'] at this
    exact this.1
theorem GD_sh {td : Nat → Int32} {sh : Int32} {n f u : Nat} {x : Nat → Nat} (hf : f < n) (hu : u < n) (hG : GD (RUN td sh n f) n x) (h : hb sh u = true) : x u = 1000000 := by
  obtain ⟨g1, g2, g3⟩ := hG u hu
  apply Classical.byContradiction
  intro hne
  have := RUN_sh hf hu (g2 (by omega))
  rw [this] at h
  exact absurd h (by decide)
theorem RI_rx {td : Nat → Int32} {sh : Int32} {n f u v w : Nat} {x0 x : Nat → Nat} {run run' : Nat → Int32} (hn : n ≤ 9) (hf : f < n) (hI : RI td sh n f x0 x run) (hu : u < n) (hv : v < n) (he : hb sh u = false → EL td sh u v = true ∧ WL td u v ≤ w) (hr : run' = upd run v (nI (min (x v) (x u + w)))) : RI td sh n f x0 (uN x v (min (x v) (x u + w))) run' := by
  obtain ⟨i1, i2, i3, i4⟩ := hI
  refine ⟨fun h hh => ?_, ?_, fun h hh => ?_, fun ho => ?_⟩
  · rw [hr]
    by_cases e : h = v
    · subst e; rw [up_s, uN_s]
    · rw [up_n e, uN_n e]; exact i1 h hh
  · cases hs : hb sh u with
    | false => exact GD_rx WL_le EL_a WL_0 hn hf i2 hu hv (he hs).1 (he hs).2
    | true =>
      have e6 := GD_sh hf hu i2 hs
      intro h hh
      have g := i2 h hh
      by_cases e : h = v
      · subst e
        rw [uN_s, e6, show min (x h) (1000000 + w) = x h by have := g.1; omega]
        exact g
      · rw [uN_n e]; exact g
  · by_cases e : h = v
    · subst e; rw [uN_s]; have := i3 h hh; omega
    · rw [uN_n e]; exact i3 h hh
  · have h0 := i4 ho
    by_cases e : f = v
    · subst e; rw [uN_s, h0]; omega
    · rw [uN_n e]; exact h0
def x0F (f : Nat) (c : Bool) (h : Nat) : Nat := if h = f ∧ c = false then 0 else 1000000
set_option maxHeartbeats 4000000 in
theorem e_runM {M : Nat → Nat → Int32} {run : Nat → Int32} {k n f : Nat} {x1 x2 : Int32} {post : (Nat → Int32) → Prop} (hk : k < 2) (hL : mLand (M 5)) (hO : LOK (tdM M k)) (hn : tdM M k 0 = nI n) (hn9 : n ≤ 9) (hf : f < n) (hx1 : x1 = nI f) (hp : ∀ run', (∀ h, h < n → run' h = nI (upF (RUN (tdM M k) (tdM M k 3 ||| x2) n f h))) → post run') : q_m_findRun_0 (M 5) (nI k) (tdM M k 0) run x1 x2 post := by
  subst hx1
  have hR : RNG (tdM M k) := fun j hj => row_iv hL hk hj
  have b4 : iv 0 4 (tdM M k 4) := hR 4 (by omega)
  obtain ⟨c, hc, -, hc4, -⟩ := iv_nI b4 (by decide)
  refine e_of (i := 3) hk (by omega) rfl (fun v1 e1 => ?_)
  have e1' : v1 = tdM M k 3 ||| x2 := e1
  rw [← e1'] at hp
  clear e1 e1'
  have hu : ∀ {A B : Prop} (x : Nat), x < 2 ^ 31 → (n ≤ x → A) → (x < n → B) → (tdM M k 0 ≤ nI x → A) ∧ (¬ tdM M k 0 ≤ nI x → B) := fun x hx f g => pk_le n x f g hn rfl (by omega) hx
  -- the rounds
  have rounds : ∀ (run : Nat → Int32) (x : Nat → Nat), RI (tdM M k) v1 n f x x run → ((∀ h, h < n → RUN (tdM M k) v1 n f h < 1000 → x h ≤ RUN (tdM M k) v1 n f h) ∨ 0 + 1 ≤ cntB (pA (RUN (tdM M k) v1 n f) x) n) → q_m_findRun_56 (M 5) (nI k) (tdM M k 0) run v1 0 post := by
    intro run x hI hc0
    intro P hP
    have loop : ∀ m i (run : Nat → Int32) (x : Nat → Nat), m = n - i → i ≤ n → RI (tdM M k) v1 n f x x run → ((∀ h, h < n → RUN (tdM M k) v1 n f h < 1000 → x h ≤ RUN (tdM M k) v1 n f h) ∨ i + 1 ≤ cntB (pA (RUN (tdM M k) v1 n f) x) n) → P (nI i) run := by
      intro m
      induction m using Nat.strongRecOn with
      | ind m ih =>
        intro i run x hm hi hI hcn
        apply hP
        refine hu i (by omega) (fun h9 => ?_) (fun h9 => ?_)
        · refine hp run (fun h hh => ?_)
          obtain ⟨i1, i2, i3, i4⟩ := hI
          obtain ⟨g1, g2, g3⟩ := i2 h hh
          have hcm : ∀ h, h < n → RUN (tdM M k) v1 n f h < 1000 → x h ≤ RUN (tdM M k) v1 n f h := by
            rcases hcn with q | q
            · exact q
            · have := cnt_le (pA (RUN (tdM M k) v1 n f) x) n
              omega
          rw [i1 h hh]
          unfold upF
          by_cases hd : RUN (tdM M k) v1 n f h < 1000
          · have := hcm h hh hd
            have := g3 hd
            rw [if_pos hd, show x h = RUN (tdM M k) v1 n f h by omega]
          · have : x h = 1000000 := by
              apply Classical.byContradiction
              intro hne
              exact hd (g2 (by omega))
            rw [if_neg hd, this]
        · -- one round, from x
          intro Pa hPa
          have echoes : ∀ (run : Nat → Int32) (y : Nat → Nat), RI (tdM M k) v1 n f x y run → (∀ u v, u < n → v < n → 0 < tdM M k (51 + 9 * u + v) → tdM M k (7 + v) < tdM M k (7 + u) → hb v1 v = false → y v ≤ x u + cN (tdM M k (51 + 9 * u + v))) → q_m_findRun_194 P (M 5) (nI k) (tdM M k 0) run v1 (nI i) 0 post := by
            intro run y hIy hw
            intro Pe hPe
            have loopE : ∀ m j (run : Nat → Int32) (y : Nat → Nat), m = c - j → j ≤ c → RI (tdM M k) v1 n f x y run → (∀ u v, u < n → v < n → 0 < tdM M k (51 + 9 * u + v) → tdM M k (7 + v) < tdM M k (7 + u) → hb v1 v = false → y v ≤ x u + cN (tdM M k (51 + 9 * u + v))) → (∀ j' u v, j' < j → u < n → v < n → tdM M k (43 + 2 * j') = nI u → tdM M k (44 + 2 * j') = nI v → hb v1 v = false → y v ≤ x u) → Pe (nI j) run := by
              intro m
              induction m using Nat.strongRecOn with
              | ind m ihE =>
                intro j run y hmj hj hIy hw he
                apply hPe
                refine e_of (i := 4) hk (by omega) rfl ?_
                rw [show rowM M 0 (nI k) 4 = nI c from hc]
                refine pk_le c j (fun h8 v ev => ?_) (fun h8 => ?_)
                · rw [ev, nI_1]
                  have hxf : EL (tdM M k) v1 f f = true → x f = 0 := hI.2.2.2
                  have hr := rnd (E := EL (tdM M k) v1) (W := WL (tdM M k)) (n := n) (f := f) (x0 := x) (x := y) (i := i) WL_le EL_a WL_0 hn9 hf hIy.2.2.1 (fun u v hu1 hv1 hel => ?_) hxf hcn
                  · exact ih (n - (i + 1)) (by omega) (i + 1) run y rfl (by omega) ⟨hIy.1, hIy.2.1, fun _ _ => Nat.le_refl _, hIy.2.2.2⟩ hr
                  · unfold EL at hel
                    simp only [Bool.and_eq_true, Bool.not_eq_true'] at hel
                    obtain ⟨_, hsv, hor⟩ := hel
                    cases hq : (decide (u = v) || echB (tdM M k) u v) with
                    | true =>
                      rw [Bool.or_eq_true] at hq
                      rcases hq with hq | hq
                      · have := of_decide_eq_true hq
                        subst this
                        have := hIy.2.2.1 u hu1
                        omega
                      · unfold echB at hq
                        rw [hc, cN_nI (by omega), ech_iff] at hq
                        obtain ⟨j', hj', ea, eb⟩ := hq
                        have := he j' u v (by omega) hu1 hv1 ea eb hsv
                        omega
                    | false =>
                      rw [hq, Bool.false_or, Bool.and_eq_true, decide_eq_true_eq, decide_eq_true_eq] at hor
                      have h1 := hw u v hu1 hv1 hor.1 hor.2 hsv
                      obtain ⟨w, ew, -, hw9, -⟩ := iv_nI (way_iv hR (show u < 9 by omega) (show v < 9 by omega)) (by decide)
                      unfold WL
                      rw [hq, if_neg (by decide)]
                      rw [ew, cN_nI (by omega)] at h1 ⊢
                      omega
                · have hl4 : nI j < tdM M k 4 := by rw [hc]; exact nI_lt h8 (by omega)
                  obtain ⟨o1, o2⟩ := hO.2.1 j (by omega) hl4
                  have hi43 : (43 : Int32) + 2 * nI j = nI (43 + 2 * j) := by rw [show (43 : Int32) = nI 43 from rfl, show (2 : Int32) = nI 2 from rfl, pk_mul, nI_add]
                  have q8 : ∀ i, 43 ≤ i → i ≤ 50 → iv 0 8 (tdM M k i) := by
                    intro i h1 h2
                    have h3 := hR i (by omega)
                    have e : mRh i = 8 := by
                      unfold mRh
                      rw [if_neg (by omega), if_neg (by omega), if_neg (by omega), if_neg (by omega), if_neg (by omega), if_neg (by omega), if_neg (by omega), if_neg (by omega), if_neg (by omega), if_neg (by omega), if_neg (by omega), if_pos (by omega)]
                    rw [e] at h3
                    exact h3
                  obtain ⟨u, eu, -, hu8, -⟩ := iv_nI (q8 (43 + 2 * j) (by omega) (by omega)) (by decide)
                  obtain ⟨v, ev0, -, hv8, -⟩ := iv_nI (q8 (44 + 2 * j) (by omega) (by omega)) (by decide)
                  have hun : u < n := by rw [eu, hn] at o1; exact (nI_ltI (by omega) (by omega)).mp o1
                  have hvn : v < n := by rw [ev0, hn] at o2; exact (nI_ltI (by omega) (by omega)).mp o2
                  have nx : ∀ (run' : Nat → Int32) (y' : Nat → Nat), RI (tdM M k) v1 n f x y' run' → (∀ h, h < n → y' h ≤ y h) → (hb v1 v = false → y' v ≤ x u) → Pe (nI (j + 1)) run' := by
                    intro run' y' hI' hle hq
                    refine ihE (c - (j + 1)) (by omega) (j + 1) run' y' rfl (by omega) hI' (fun u' v' hu' hv' g1 g2 g3 => Nat.le_trans (hle v' hv') (hw u' v' hu' hv' g1 g2 g3)) (fun j' u' v' hj' hu' hv' g1 g2 g3 => ?_)
                    by_cases e : j' = j
                    · subst e
                      have h1 := (nI_eq (by omega) (by omega)).mp (eu.symm.trans g1)
                      have h2 := (nI_eq (by omega) (by omega)).mp (ev0.symm.trans g2)
                      subst h1 h2
                      exact hq g3
                    · exact Nat.le_trans (hle v' hv') (he j' u' v' (by omega) hu' hv' g1 g2 g3)
                  have hyv := hIy.1 v hvn
                  have hyu := hIy.1 u hun
                  have by1 := (hIy.2.1 v hvn).1
                  have by2 := (hIy.2.1 u hun).1
                  refine e_of (i := 44 + 2 * j) hk (by omega) (by rw [hi43, nI_1, show 43 + 2 * j + 1 = 44 + 2 * j by omega]) ?_
                  rw [show rowM M 0 (nI k) (44 + 2 * j) = nI v from ev0]
                  have hinv : vp_in (nI v) 9 := vp_in_nI (by omega) (by omega)
                  refine e_hasM (by omega) (fun hs => iz ⟨hinv, ?_⟩) (fun hs => oi ⟨hinv, ⟨hinv, fun run' er v2 ev2 => ?_⟩⟩)
                  · refine e_of (i := 43 + 2 * j) hk (by omega) hi43 ?_
                    rw [show rowM M 0 (nI k) (43 + 2 * j) = nI u from eu]
                    refine ⟨vp_in_nI (by omega) (by omega), ?_⟩
                    rw [nI_clamp (by omega), nI_clamp (by omega), hyv, hyu]
                    refine e_lessM (by omega) (by omega) ⟨hinv, fun run' er v2 ev2 => ?_⟩
                    rw [ev2, nI_1]
                    rw [nI_clamp (by omega)] at er
                    have er' : run' = upd run v (nI (min (y v) (y u + 0))) := by rw [er, Nat.add_zero]
                    refine nx run' (uN y v (min (y v) (y u + 0))) (RI_rx hn9 hf hIy hun hvn (fun hsu => ?_) er') (fun h hh => ?_) (fun _ => ?_)
                    · have hec : echB (tdM M k) u v = true := by
                        unfold echB
                        rw [hc, cN_nI (by omega), ech_iff]
                        exact ⟨j, h8, eu, ev0⟩
                      refine ⟨?_, ?_⟩
                      · unfold EL
                        rw [hsu, hs, hec, Bool.or_true]
                        rfl
                      · unfold WL
                        rw [hec, Bool.or_true, if_pos rfl]
                        exact Nat.le_refl 0
                    · by_cases e : h = v
                      · subst e; rw [uN_s]; omega
                      · rw [uN_n e]; exact Nat.le_refl _
                    · rw [uN_s]
                      have := hIy.2.2.1 u hun
                      omega
                  · rw [ev2, nI_1]
                    rw [nI_clamp (by omega)] at er
                    have er' : run' = run := by
                      rw [er]
                      funext h
                      by_cases e : h = v
                      · subst e; rw [up_s]
                      · rw [up_n e]
                    rw [er']
                    exact nx run y hIy (fun _ _ => Nat.le_refl _) (fun h => by rw [hs] at h; exact absurd h (by decide))
            exact loopE _ 0 run y rfl (by omega) hIy hw (fun j' u v hj' => absurd hj' (Nat.not_lt_zero j'))
          have loopa : ∀ m a (run : Nat → Int32) (y : Nat → Nat), m = n - a → a ≤ n → RI (tdM M k) v1 n f x y run → (∀ u v, u < a → v < n → 0 < tdM M k (51 + 9 * u + v) → tdM M k (7 + v) < tdM M k (7 + u) → hb v1 v = false → y v ≤ x u + cN (tdM M k (51 + 9 * u + v))) → Pa (nI a) run := by
            intro m
            induction m using Nat.strongRecOn with
            | ind m iha =>
              intro a run y hma ha hIy hw
              apply hPa
              refine hu a (by omega) (fun h8 => echoes run y hIy (fun u v hu1 => hw u v (by omega))) (fun h8 => ?_)
              intro Pb hPb
              have loopb : ∀ m b (run : Nat → Int32) (y : Nat → Nat), m = n - b → b ≤ n → RI (tdM M k) v1 n f x y run → (∀ u v, u < a ∨ (u = a ∧ v < b) → v < n → 0 < tdM M k (51 + 9 * u + v) → tdM M k (7 + v) < tdM M k (7 + u) → hb v1 v = false → y v ≤ x u + cN (tdM M k (51 + 9 * u + v))) → Pb (nI b) run := by
                intro m
                induction m using Nat.strongRecOn with
                | ind m ihb =>
                  intro b run y hmb hbn hIy hw
                  apply hPb
                  refine hu b (by omega) (fun h7 v ev => ?_) (fun h7 => ?_)
                  · rw [ev, nI_1]
                    exact iha (n - (a + 1)) (by omega) (a + 1) run y rfl (by omega) hIy (fun u v hu1 hv1 => hw u v (by omega) hv1)
                  · obtain ⟨w, ew, -, hw9, -⟩ := iv_nI (way_iv hR (show a < 9 by omega) (show b < 9 by omega)) (by decide)
                    have hinb : vp_in (nI b) 9 := vp_in_nI (by omega) (by omega)
                    have hina : vp_in (nI a) 9 := vp_in_nI (by omega) (by omega)
                    have hyb := hIy.1 b h7
                    have hya := hIy.1 a h8
                    have by1 := (hIy.2.1 b h7).1
                    have by2 := (hIy.2.1 a h8).1
                    have nx : ∀ (run' : Nat → Int32) (y' : Nat → Nat), RI (tdM M k) v1 n f x y' run' → (∀ h, h < n → y' h ≤ y h) → (0 < tdM M k (51 + 9 * a + b) → tdM M k (7 + b) < tdM M k (7 + a) → hb v1 b = false → y' b ≤ x a + cN (tdM M k (51 + 9 * a + b))) → Pb (nI (b + 1)) run' := by
                      intro run' y' hI' hle hq
                      refine ihb (n - (b + 1)) (by omega) (b + 1) run' y' rfl (by omega) hI' (fun u v huv hv1 g1 g2 g3 => ?_)
                      by_cases e : u = a ∧ v = b
                      · obtain ⟨e1, e2⟩ := e
                        subst e1 e2
                        exact hq g1 g2 g3
                      · exact Nat.le_trans (hle v hv1) (hw u v (by omega) hv1 g1 g2 g3)
                    have stay : (0 < tdM M k (51 + 9 * a + b) → tdM M k (7 + b) < tdM M k (7 + a) → hb v1 b = false → False) → q_m_findRun_128 P Pa Pb (M 5) (nI k) (tdM M k 0) run v1 (nI i) (nI a) (nI b) post := by
                      intro hno
                      refine ⟨fun _ => ⟨hinb, ⟨hinb, fun run' er v2 ev2 => ?_⟩⟩, fun h => absurd rfl h⟩
                      rw [ev2, nI_1]
                      rw [nI_clamp (by omega)] at er
                      have er' : run' = run := by
                        rw [er]
                        funext h
                        by_cases e : h = b
                        · subst e; rw [up_s]
                        · rw [up_n e]
                      rw [er']
                      exact nx run y hIy (fun _ _ => Nat.le_refl _) (fun g1 g2 g3 => (hno g1 g2 g3).elim)
                    have ofw : ∀ {post : Int32 → Prop}, post (nI w) → q_m_way_0 (M 5) (nI k) (nI a) (nI b) post := fun h => e_of (i := 51 + 9 * a + b) hk (by omega) (ix9 a b) (by rw [show rowM M 0 (nI k) (51 + 9 * a + b) = nI w from ew]; exact h)
                    refine ofw ⟨fun hle => stay (fun g1 _ _ => ?_), fun hlt => ?_⟩
                    · have g1' : 0 < nI w := by rw [← ew]; exact g1
                      exact absurd hle (Int32.not_le.mpr g1')
                    · refine e_of (i := 7 + b) hk (by omega) (jx 7 b) (e_of (i := 7 + a) hk (by omega) (jx 7 a) ⟨fun hle => stay (fun _ g2 _ => ?_), fun hlt2 => ?_⟩)
                      · exact absurd hle (Int32.not_le.mpr g2)
                      · refine e_hasM (by omega) (fun hs => zi ?_) (fun hs => io (stay (fun _ _ g3 => by rw [hs] at g3; exact absurd g3 (by decide))))
                        refine ⟨fun h => absurd h (by decide), fun _ => ⟨hinb, hina, ofw ?_⟩⟩
                        rw [nI_clamp (by omega), nI_clamp (by omega), hyb, hya, nI_add]
                        refine e_lessM (by omega) (by omega) ⟨hinb, fun run' er v2 ev2 => ?_⟩
                        rw [ev2, nI_1]
                        rw [nI_clamp (by omega)] at er
                        refine nx run' (uN y b (min (y b) (y a + w))) (RI_rx hn9 hf hIy h8 h7 (fun hsu => ⟨?_, ?_⟩) er) (fun h hh => ?_) (fun _ _ _ => ?_)
                        · unfold EL
                          rw [hsu, hs, ew, decide_eq_true (Int32.not_le.mp hlt), decide_eq_true (show tdM M k (7 + b) < tdM M k (7 + a) from Int32.not_le.mp hlt2)]
                          simp
                        · unfold WL
                          rw [ew, cN_nI (by omega)]
                          split <;> omega
                        · by_cases e : h = b
                          · subst e; rw [uN_s]; omega
                          · rw [uN_n e]; exact Nat.le_refl _
                        · rw [uN_s, ew, cN_nI (by omega)]
                          have := hIy.2.2.1 a h8
                          omega
              exact loopb _ 0 run y rfl (by omega) hIy (fun u v huv hv1 => hw u v (by omega) hv1)
          exact loopa _ 0 run x rfl (by omega) hI (fun u v hu1 => absurd hu1 (Nat.not_lt_zero u))
    exact loop _ 0 run x rfl (by omega) hI hc0
  -- the start
  intro P hP
  have loop : ∀ m i (run : Nat → Int32), m = 9 - i → i ≤ 9 → (∀ h, h < i → run h = nI (if h = f ∧ hb v1 f = false then 0 else 1000000)) → P (nI i) run := by
    intro m
    induction m using Nat.strongRecOn with
    | ind m ih =>
      intro i run hm hi hI
      apply hP
      have nx : ∀ y : Nat, y = (if i = f ∧ hb v1 f = false then 0 else 1000000) → i < 9 → ∀ z : Int32, z = nI y → q_m_findRun_46 P (M 5) (nI k) (tdM M k 0) run (nI f) v1 (nI i) (nI i) z post := by
        intro y hy h9 z hz
        refine ⟨vp_in_nI h9 (by omega), fun run' er v ev => ?_⟩
        rw [ev, nI_1]
        rw [nI_clamp (by omega)] at er
        refine ih (9 - (i + 1)) (by omega) (i + 1) run' rfl (by omega) (fun h hh => ?_)
        rw [er]
        by_cases e : h = i
        · subst e; rw [up_s, hz, hy]
        · rw [up_n e]; exact hI h (by omega)
      refine pk_le 9 i (fun h9 => ?_) (fun h9 => ?_)
      · have hff : hb v1 f = false → EL (tdM M k) v1 f f = true := by
          intro h
          unfold EL
          rw [h, decide_eq_true rfl]
          rfl
        have hf0 : hb v1 f = false → RUN (tdM M k) v1 n f f = 0 := by
          intro h
          have h1 := SD_e (W := WL (tdM M k)) (F := 1000) (n := n) (hff h)
          have h2 := WL_0 (td := tdM M k) f
          have h3 : RUN (tdM M k) v1 n f f = SD (EL (tdM M k) v1) (WL (tdM M k)) 1000 n f f := rfl
          omega
        refine rounds run (x0F f (hb v1 f)) ⟨fun h hh => hI h (by omega), fun h hh => ?_, fun _ _ => Nat.le_refl _, fun ho => ?_⟩ ?_
        · have hle : RUN (tdM M k) v1 n f h ≤ 1000 := SD_le WL_le (by omega) f h
          by_cases e : h = f ∧ hb v1 f = false
          · have h0 := hf0 e.2
            rw [e.1]
            have e2 : x0F f (hb v1 f) f = 0 := if_pos ⟨rfl, e.2⟩
            rw [e2]
            exact ⟨by omega, fun _ => by omega, fun _ => by omega⟩
          · have e2 : x0F f (hb v1 f) h = 1000000 := if_neg e
            rw [e2]
            exact ⟨by omega, fun h => absurd h (by omega), fun _ => by omega⟩
        · have : hb v1 f = false := by
            unfold EL at ho
            simp only [Bool.and_eq_true, Bool.not_eq_true'] at ho
            exact ho.1
          exact if_pos ⟨rfl, this⟩
        · cases hs : hb v1 f with
          | true =>
            left
            intro h hh hd
            have := SD_open (E := EL (tdM M k) v1) (W := WL (tdM M k)) EL_a hd
            unfold EL at this
            rw [hs] at this
            exact absurd this (by simp)
          | false =>
            right
            have g := cnt_lt (p := fun _ => false) (q := pA (RUN (tdM M k) v1 n f) (x0F f (hb v1 f))) n (fun _ _ h => absurd h (by decide)) ⟨f, hf, by
              unfold pA
              have e2 : x0F f (hb v1 f) f = 0 := if_pos ⟨rfl, hs⟩
              rw [e2, hf0 hs]
              decide, rfl⟩
            rw [hs] at g
            omega
      · refine ⟨fun hne => ?_, fun heq => ?_⟩
        · exact nx 1000000 (by rw [if_neg (fun q => hne (by rw [q.1]))]) h9 _ rfl
        · have hif : i = f := (nI_eq (by omega) (by omega)).mp heq
          refine e_hasM (by omega) (fun hs => zi ?_) (fun hs => io ?_)
          · exact nx 0 (by rw [if_pos ⟨hif, by rw [← hif]; exact hs⟩]) h9 _ rfl
          · exact nx 1000000 (by rw [if_neg (fun q => by rw [← hif, hs] at q; exact absurd q.2 (by decide))]) h9 _ rfl
  exact loop _ 0 run rfl (by omega) (fun h hh => absurd hh (Nat.not_lt_zero h))
end
section
def comesN (td : Nat → Int32) (n f t : Nat) : Int32 := if RUN td (td 3) n f t < 1000 then nI (RUN td (td 3) n f t) else -1
def AN_comes (M : Nat → Nat → Int32) (a b c : Int32) : Int32 := if 0 ≤ a ∧ a < M 4 0 then (if (0 ≤ b ∧ b < rowM M 0 a 0) ∧ (0 ≤ c ∧ c < rowM M 0 a 0) then comesN (rowM M 0 a) (cN (rowM M 0 a 0)) (cN b) (cN c) else -1) else -1
theorem RUN_le {td : Nat → Int32} {sh : Int32} {n a b : Nat} : RUN td sh n a b ≤ 1000 := SD_le WL_le (by omega) a b
theorem e_knownM {d : Nat} {post : Int32 → Prop} (hd : d ≤ 1000) (hp : post (if d < 1000 then nI d else -1)) : q_m_known_0 (nI (upF d)) post := by
  unfold upF
  by_cases h : d < 1000
  · rw [if_pos h] at hp ⊢
    exact pk_lt d 1000000 (fun _ => hp) (fun h2 => absurd h2 (by omega)) rfl rfl (by omega) (by omega)
  · rw [if_neg h] at hp ⊢
    exact pk_lt 1000000 1000000 (fun h2 => absurd h2 (by omega)) (fun _ => hp) rfl rfl (by omega) (by omega)
theorem e_nearX {d : Nat} {post : Int32 → Prop} (hd : d ≤ 1000) (hp : post (if d < 1000 then nI d else -1)) : q_z_X10_nearOrNone_0 (nI d) post := by
  by_cases h : d < 1000
  · rw [if_pos h] at hp
    exact pk_le 1000 d (fun h2 => absurd h2 (by omega)) (fun _ => hp) rfl rfl (by omega) (by omega)
  · rw [if_neg h] at hp
    exact pk_le 1000 d (fun _ => hp) (fun h2 => absurd h2 (by omega)) rfl rfl (by omega) (by omega)
theorem e_isHutM {c x : Int32} {post : Int32 → Prop} (hc : iv 0 9 c) (h0 : ¬ (0 ≤ x ∧ x < c) → post 0) (h1 : 0 ≤ x ∧ x < c → post 1) : q_m_isHut_0 c x post := by
  unfold q_m_isHut_0
  exact sp_in (fun h => ⟨rfl, h0 (fun h9 => h ((in_lt (iv_w hc (by decide))).mpr h9))⟩) (fun a b => ⟨rfl, h1 ((in_lt (iv_w hc (by decide) : iv 0 1000 c)).mp ⟨a, b⟩)⟩)
theorem e_isSgM {c x : Int32} {post : Int32 → Prop} (hc : iv 0 6 c) (h0 : ¬ (0 ≤ x ∧ x < c) → post 0) (h1 : 0 ≤ x ∧ x < c → post 1) : q_m_isSinger_0 c x post := by
  unfold q_m_isSinger_0
  exact sp_in (fun h => ⟨rfl, h0 (fun h9 => h ((in_lt (iv_w hc (by decide))).mpr h9))⟩) (fun a b => ⟨rfl, h1 ((in_lt (iv_w hc (by decide) : iv 0 1000 c)).mp ⟨a, b⟩)⟩)
/-- the numbers of a land -/
theorem ln_of {td : Nat → Int32} (hR : RNG td) : ∃ n, td 0 = nI n ∧ n ≤ 9 := by
  obtain ⟨n, h, -, hn, -⟩ := iv_nI (show iv 0 9 (td 0) from hR 0 (by omega)) (by decide)
  exact ⟨n, h, by omega⟩
theorem lt_n {n : Nat} {x : Int32} (hn : n ≤ 9) (h : 0 ≤ x ∧ x < nI n) : ∃ k, k < n ∧ x = nI k := by
  obtain ⟨k, hk, e⟩ := lt_nI (m := 9) (iv_ofN (l := 0) (h := 9) (by omega) (by omega) (by omega)) h
  rw [e] at h
  exact ⟨k, (nI_ltI (by omega) (by omega)).mp h.2, e⟩
/-- when a song begun at f is at the last village -/
def vilB (td : Nat → Int32) (h : Nat) : Bool := hb (td 2) h && !dam td h
def lastV (td : Nat → Int32) (n f : Nat) : Nat → Nat
  | 0 => 0
  | h + 1 => if vilB td h = true then max (lastV td n f h) (RUN td (td 3) n f h) else lastV td n f h
theorem lastV_le {td : Nat → Int32} {n f : Nat} : ∀ m, lastV td n f m ≤ 1000
  | 0 => Nat.zero_le _
  | m + 1 => by
    have h1 := lastV_le (td := td) (n := n) (f := f) m
    have h2 := RUN_le (td := td) (sh := td 3) (n := n) (a := f) (b := m)
    unfold lastV
    split <;> omega
theorem upF_max (a b : Nat) : max (upF a) (upF b) = upF (max a b) := by
  unfold upF
  split <;> split <;> split <;> omega
theorem upF_lt {a b : Nat} (ha : a ≤ 1000) (hb1 : b ≤ 1000) : upF a < upF b ↔ a < b := by
  unfold upF
  split <;> split <;> omega
theorem upF_min {a b : Nat} : min (upF a) (upF b) = upF (min a b) := by
  unfold upF
  split <;> split <;> split <;> omega
theorem upF_b {a : Nat} : upF a < 2 ^ 30 := by
  unfold upF
  split <;> omega
theorem upF_1000 : upF 1000 = 1000000 := rfl
/-- the reference's last village, behind findRun -/
theorem e_lastVM {M : Nat → Nat → Int32} {run : Nat → Int32} {k n f : Nat} {post : Int32 → Prop} (hk : k < 2) (hn : tdM M k 0 = nI n) (hn9 : n ≤ 9) (hr : ∀ h, h < n → run h = nI (upF (RUN (tdM M k) (tdM M k 3) n f h))) (hp : post (nI (upF (lastV (tdM M k) n f n)))) : q_m_lastVillage_0 (M 5) (nI k) (tdM M k 0) run post := by
  intro P hP
  have u0 : upF 0 = 0 := rfl
  have loop : ∀ m h, m = n - h → h ≤ n → P (nI (upF (lastV (tdM M k) n f h))) (nI h) := by
    intro m
    induction m using Nat.strongRecOn with
    | ind m ih =>
      intro h hm hh
      apply hP
      refine pk_le n h (fun h9 => ?_) (fun h9 => ?_) hn
      · rw [show h = n by omega]; exact hp
      · have nx : ∀ y : Int32, y = nI (upF (lastV (tdM M k) n f (h + 1))) → q_m_lastVillage_37 P (M 5) (nI k) (tdM M k 0) run (nI h) y post := by
          intro y hy v ev
          rw [ev, hy, nI_1]
          exact ih (n - (h + 1)) (by omega) (h + 1) rfl (by omega)
        have st : lastV (tdM M k) n f (h + 1) = (if vilB (tdM M k) h = true then max (lastV (tdM M k) n f h) (RUN (tdM M k) (tdM M k 3) n f h) else lastV (tdM M k) n f h) := rfl
        refine e_of (i := 2) hk (by omega) rfl (e_of (i := 3) hk (by omega) rfl ?_)
        have hbv : hb (rowM M 0 (nI k) 2 &&& (rowM M 0 (nI k) 3 ^^^ (-1))) h = vilB (tdM M k) h := by
          rw [hb_and, hb_not _ (by omega)]
          rfl
        refine e_hasM (by omega) (fun h0 => iz (nx _ ?_)) (fun h1 => oi ⟨vp_in_nI (by omega) (by omega), ?_⟩)
        · rw [hbv] at h0
          rw [st, if_neg (by rw [h0]; decide)]
        · rw [hbv] at h1
          rw [nI_clamp (by omega), hr h h9]
          refine e_grM upF_b upF_b (nx _ ?_)
          rw [upF_max, st, if_pos h1]
  exact loop _ 0 rfl (by omega)
/-- the class's last village, behind hear -/
theorem e_lastVX {td : Nat → Int32} {t : Nat → Int32} {huts villages dams x : Int32} {n f : Nat} {post : Int32 → Prop} (hn : td 0 = nI n) (hn9 : n ≤ 9) (h0 : huts = td 0) (h2 : villages = td 2) (h3 : dams = td 3) (hf : f < n) (hx : x = nI f) (ht : ∀ a b, a < n → b < n → t (9 * a + b) = nI (RUN td (td 3) n a b)) (hp : post (nI (lastV td n f n))) : q_wp_X7_lastVillage_9_0 t huts villages dams x post := by
  subst h0 h2 h3 hx
  intro P hP
  have loop : ∀ m h, m = n - h → h ≤ n → P (nI (lastV td n f h)) (nI h) := by
    intro m
    induction m using Nat.strongRecOn with
    | ind m ih =>
      intro h hm hh
      apply hP
      refine pk_le n h (fun h9 => ?_) (fun h9 => ?_) hn
      · rw [show h = n by omega]; exact hp
      · have nx : ∀ y : Int32, y = nI (lastV td n f (h + 1)) → q_wp_X7_lastVillage_9_52 P t (td 0) (td 2) (td 3) (nI f) y (nI h) post := by
          intro y hy v ev
          rw [ev, hy, nI_1]
          exact ih (n - (h + 1)) (by omega) (h + 1) rfl (by omega)
        have st : lastV td n f (h + 1) = (if vilB td h = true then max (lastV td n f h) (RUN td (td 3) n f h) else lastV td n f h) := rfl
        refine e_hasX (by omega) (fun hv => iz (nx _ ?_)) (fun hv => oi ?_)
        · rw [st, if_neg (by unfold vilB; rw [hv]; simp)]
        · refine e_damX (by omega) (fun hd => zi ?_) (fun hd => io (nx _ ?_))
          · have ei : (nI f * 9) + nI h = nI (9 * f + h) := by rw [jx9, Nat.mul_comm]
            rw [ei]
            refine ⟨vp_in_nI (by omega) (by omega), fun v ev => nx v ?_⟩
            rw [nI_clamp (by omega), ht f h hf h9] at ev
            have hvb : vilB td h = true := by unfold vilB dam; rw [hv, hd]; rfl
            have l1 := lastV_le (td := td) (n := n) (f := f) h
            have l2 := RUN_le (td := td) (sh := td 3) (n := n) (a := f) (b := h)
            rw [st, if_pos hvb, ev]
            by_cases q : lastV td n f h < RUN td (td 3) n f h
            · rw [if_pos (nI_lt q (by omega)), show max (lastV td n f h) (RUN td (td 3) n f h) = RUN td (td 3) n f h by omega]
            · rw [if_neg (fun q2 => q ((nI_ltI (by omega) (by omega)).mp q2)), show max (lastV td n f h) (RUN td (td 3) n f h) = lastV td n f h by omega]
          · rw [st, if_neg (by unfold vilB dam; rw [hd]; simp)]
  exact loop _ 0 rfl (by omega)
theorem e_run0M {M : Nat → Nat → Int32} {run : Nat → Int32} {k n f : Nat} {x1 : Int32} {post : (Nat → Int32) → Prop} (hk : k < 2) (hL : mLand (M 5)) (hO : LOK (tdM M k)) (hn : tdM M k 0 = nI n) (hn9 : n ≤ 9) (hf : f < n) (hx1 : x1 = nI f) (hp : ∀ run', (∀ h, h < n → run' h = nI (upF (RUN (tdM M k) (tdM M k 3) n f h))) → post run') : q_m_findRun_0 (M 5) (nI k) (tdM M k 0) run x1 0 post := e_runM hk hL hO hn hn9 hf hx1 (by rw [or_0]; exact hp)
end
section
set_option maxRecDepth 40000 in
set_option maxHeartbeats 4000000 in
theorem e_m_comes {M : Nat → Nat → Int32} {f_code f_land f_huts f_singers a b c : Int32} {a_run : Nat → Int32} {post : Int32 → (Int32) → (Int32) → (Int32) → (Int32) → (Nat → Int32) → Prop} (hc : ∀ o, iv 0 2 (M 4 o)) (hL : mLand (M 5)) (hK : LK M) (hp : ∀ z0 z1 z2 z3 z4, post (AN_comes M a b c) z0 z1 z2 z3 z4) : q_m_comes_0 f_code (M 4) (M 5) f_land f_huts f_singers a_run a b c post := by
  unfold AN_comes at hp
  refine e_hand (hc 0) (fun hno => iz ?_) (fun k hk ea hy => oi ?_)
  · rw [if_neg hno] at hp; exact hp _ _ _ _ _
  rw [if_pos hy] at hp
  subst ea
  have hO : LOK (rowM M 0 (nI k)) := LK_row hK hk hy.2
  have hR : RNG (rowM M 0 (nI k)) := RNG_M hL hk
  obtain ⟨n, hn, hn9⟩ := ln_of hR
  have b0 : iv 0 9 (tdM M k 0) := hR 0 (by omega)
  refine e_isHutM b0 (fun h => iz ?_) (fun h1 => oi (e_isHutM b0 (fun h => zi ?_) (fun h2 => io ?_)))
  · rw [if_neg (fun h9 => h h9.1)] at hp; exact hp _ _ _ _ _
  · rw [if_neg (fun h9 => h h9.2)] at hp; exact hp _ _ _ _ _
  · rw [if_pos ⟨h1, h2⟩] at hp
    rw [hn] at h1 h2
    obtain ⟨f, hf, eb⟩ := lt_n hn9 h1
    obtain ⟨t, ht, ec⟩ := lt_n hn9 h2
    subst eb ec
    rw [hn, cN_nI (by omega), cN_nI (by omega), cN_nI (by omega)] at hp
    refine e_run0M hk hL hO hn hn9 hf rfl (fun run' hr => ⟨vp_in_nI (by omega) (by omega), ?_⟩)
    rw [nI_clamp (by omega), hr t ht]
    exact e_knownM RUN_le (hp _ _ _ _ _)
set_option maxRecDepth 40000 in
set_option maxHeartbeats 4000000 in
theorem e_x_comes {T : TT} {M : Nat → Nat → Int32} {a b c : Int32} {pa_heard : Nat → Int32} {post : Int32 → (Nat → Int32) → Prop} (h : TM T M 0) (hB : tB T) (hK : LK M) (hL : mLand (M 5)) (hp : ∀ z0, post (AN_comes M a b c) z0) : q_wx_X10_comes_0 (T.2 1) (T.1 3) (T.1 6) (T.1 7) (T.2 2) (T.2 4) (T.2 5) (T.2 6) (T.1 10) (T.1 13) (T.1 14) (T.2 10) (T.2 12) (T.2 13) (T.2 14) pa_heard a b c post := by
  unfold AN_comes at hp
  rw [TM_cnt h 0 (by decide)] at hp
  refine e_at (hB.2.2.1 0) (fun (hno : ¬ (0 ≤ a ∧ a < T.2 1 0)) => ?_) (fun ea hla => ?_) (fun ea hla => ?_)
  · rw [if_neg hno] at hp
    exact ⟨fun _ => hp _, fun h9 => absurd h9 (by decide), fun h9 => absurd rfl h9⟩
  · rw [if_pos (by rw [ea]; exact ⟨by decide, hla⟩), ea] at hp
    have hR : RNG (rowM M 0 (nI 0)) := RNG_M hL (by decide)
    have hLD : LDR (T.1 3) (T.1 4) (T.1 5) (T.1 6) (T.1 7) (T.1 8) (T.1 9) (T.2 2) (T.2 3) (T.2 4) (T.2 5) (T.2 6) (T.2 7) (T.2 8) (T.2 9) (rowM M 0 (nI 0)) := TM_sl h 0 0 (by decide) (by decide) hla
    have hX := LX_of hR hLD
    have hOK : LOK (rowM M 0 (nI 0)) := LK_row hK (by decide) (by rw [TM_cnt h 0 (by decide)]; exact hla)
    obtain ⟨n, hn, hn9⟩ := ln_of hR
    refine ⟨fun h9 => absurd h9 (by decide), fun h9 => absurd h9 (by decide), fun _ _ => ?_⟩
    refine e_hhX (fun h => iz ?_) (fun h1 => oi (e_hhX (fun h => zi ?_) (fun h2 => io ?_)))
    · rw [if_neg (fun h9 => h (by rw [hX.1]; exact h9.1))] at hp; exact hp _
    · rw [if_neg (fun h9 => h (by rw [hX.1]; exact h9.2))] at hp; exact hp _
    · rw [hX.1] at h1 h2
      rw [if_pos ⟨h1, h2⟩] at hp
      rw [hn] at h1 h2
      obtain ⟨f, hf, eb⟩ := lt_n hn9 h1
      obtain ⟨t, ht, ec⟩ := lt_n hn9 h2
      subst eb ec
      rw [hn, cN_nI (by omega), cN_nI (by omega), cN_nI (by omega)] at hp
      have ei : (nI f * 9) + nI t = nI (9 * f + t) := by rw [jx9, Nat.mul_comm]
      refine e_hearX hR hX hn hn9 (fun t' ht' => ?_)
      rw [ei]
      refine ⟨vp_in_nI (by omega) (by omega), ?_⟩
      rw [nI_clamp (by omega), ht' f t hf ht]
      exact e_nearX RUN_le (hp _)
  · rw [if_pos (by rw [ea]; exact ⟨by decide, hla⟩), ea] at hp
    have hR : RNG (rowM M 0 (nI 1)) := RNG_M hL (by decide)
    have hLD : LDR (T.1 10) (T.1 11) (T.1 12) (T.1 13) (T.1 14) (T.1 15) (T.1 16) (T.2 10) (T.2 11) (T.2 12) (T.2 13) (T.2 14) (T.2 15) (T.2 16) (T.2 17) (rowM M 0 (nI 1)) := TM_sl h 0 1 (by decide) (by decide) hla
    have hX := LX_of hR hLD
    have hOK : LOK (rowM M 0 (nI 1)) := LK_row hK (by decide) (by rw [TM_cnt h 0 (by decide)]; exact hla)
    obtain ⟨n, hn, hn9⟩ := ln_of hR
    refine ⟨fun h9 => absurd h9 (by decide), fun _ => ?_, fun _ h9 => absurd rfl h9⟩
    refine e_hhX (fun h => iz ?_) (fun h1 => oi (e_hhX (fun h => zi ?_) (fun h2 => io ?_)))
    · rw [if_neg (fun h9 => h (by rw [hX.1]; exact h9.1))] at hp; exact hp _
    · rw [if_neg (fun h9 => h (by rw [hX.1]; exact h9.2))] at hp; exact hp _
    · rw [hX.1] at h1 h2
      rw [if_pos ⟨h1, h2⟩] at hp
      rw [hn] at h1 h2
      obtain ⟨f, hf, eb⟩ := lt_n hn9 h1
      obtain ⟨t, ht, ec⟩ := lt_n hn9 h2
      subst eb ec
      rw [hn, cN_nI (by omega), cN_nI (by omega), cN_nI (by omega)] at hp
      have ei : (nI f * 9) + nI t = nI (9 * f + t) := by rw [jx9, Nat.mul_comm]
      refine e_hearX hR hX hn hn9 (fun t' ht' => ?_)
      rw [ei]
      refine ⟨vp_in_nI (by omega) (by omega), ?_⟩
      rw [nI_clamp (by omega), ht' f t hf ht]
      exact e_nearX RUN_le (hp _)

/-- the best hut so far and its minute -/
def bst (td : Nat → Int32) (n : Nat) : Nat → Int32 × Nat
  | 0 => (-1, 1000)
  | h + 1 => if dam td h = false ∧ lastV td n h n < (bst td n h).2 then (nI h, lastV td n h n) else bst td n h
theorem bst_ok {td : Nat → Int32} {n : Nat} : ∀ m, (bst td n m).2 ≤ 1000 ∧ ((bst td n m).1 = -1 ∨ ∃ h, h < m ∧ (bst td n m).1 = nI h ∧ (bst td n m).2 = lastV td n h n ∧ (bst td n m).2 < 1000)
  | 0 => ⟨Nat.le_refl _, Or.inl rfl⟩
  | m + 1 => by
    obtain ⟨h1, h2⟩ := bst_ok (td := td) (n := n) m
    have e : bst td n (m + 1) = if dam td m = false ∧ lastV td n m n < (bst td n m).2 then (nI m, lastV td n m n) else bst td n m := rfl
    rw [e]
    by_cases hc : dam td m = false ∧ lastV td n m n < (bst td n m).2
    · rw [if_pos hc]
      exact ⟨lastV_le n, Or.inr ⟨m, by omega, rfl, rfl, by show lastV td n m n < 1000; have := hc.2; omega⟩⟩
    · rw [if_neg hc]
      refine ⟨h1, ?_⟩
      rcases h2 with h2 | ⟨h, a1, a2, a3, a4⟩
      · exact Or.inl h2
      · exact Or.inr ⟨h, by omega, a2, a3, a4⟩
def BST (td : Nat → Int32) (n : Nat) (b : Int32) : Int32 := if (bst td n n).1 = -1 ∨ b = 0 then (bst td n n).1 else nI (bst td n n).2
def AN_best (M : Nat → Nat → Int32) (a b : Int32) : Int32 := if 0 ≤ a ∧ a < M 4 0 then BST (rowM M 0 a) (cN (rowM M 0 a 0)) b else -1
theorem nIm1 {h : Nat} (hh : h < 1000) : ¬ nI h = -1 := fun e => by
  have := congrArg Int32.toInt e
  rw [nI_toInt (by omega)] at this
  have e1 : (-1 : Int32).toInt = -1 := rfl
  omega
theorem e_bestHutX {td : Nat → Int32} {t : Nat → Int32} {huts villages dams : Int32} {n : Nat} {post : Int32 → Prop} (hn : td 0 = nI n) (hn9 : n ≤ 9) (h0 : huts = td 0) (h2 : villages = td 2) (h3 : dams = td 3) (ht : ∀ a b, a < n → b < n → t (9 * a + b) = nI (RUN td (td 3) n a b)) (hp : post (bst td n n).1) : q_wp_X7_bestHut_9_0 t huts villages dams post := by
  intro P hP
  have loop : ∀ m h, m = n - h → h ≤ n → P (bst td n h).1 (nI (bst td n h).2) (nI h) := by
    intro m
    induction m using Nat.strongRecOn with
    | ind m ih =>
      intro h hm hh
      apply hP
      obtain ⟨b1, -⟩ := bst_ok (td := td) (n := n) h
      refine pk_le n h (fun h9 => ?_) (fun h9 => ?_) (h0.trans hn)
      · rw [show n = h by omega] at hp; rw [show n = h by omega]; exact hp
      · have e : bst td n (h + 1) = if dam td h = false ∧ lastV td n h n < (bst td n h).2 then (nI h, lastV td n h n) else bst td n h := rfl
        have nx : ∀ x y : Int32, x = (bst td n (h + 1)).1 → y = nI (bst td n (h + 1)).2 → q_wp_X7_bestHut_9_49 P t huts villages dams x y (nI h) post := by
          intro x y hx hy v ev
          rw [ev, hx, hy, nI_1]
          exact ih (n - (h + 1)) (by omega) (h + 1) rfl (by omega)
        have l1 := lastV_le (td := td) (n := n) (f := h) n
        refine e_damX (by omega) (fun hd => zi ?_) (fun hd => io (nx _ _ ?_ ?_))
        · rw [h3] at hd
          have hd' : dam td h = false := hd
          refine e_lastVX hn hn9 h0 h2 h3 h9 rfl ht ?_
          refine pk_le (bst td n h).2 (lastV td n h n) (fun hle => nx _ _ ?_ ?_) (fun hlt => ?_) rfl rfl (by omega) (by omega)
          · rw [e, if_neg (fun q => by have := q.2; omega)]
          · rw [e, if_neg (fun q => by have := q.2; omega)]
          · refine e_lastVX hn hn9 h0 h2 h3 h9 rfl ht (nx _ _ ?_ ?_)
            · rw [e, if_pos ⟨hd', hlt⟩]
            · rw [e, if_pos ⟨hd', hlt⟩]
        · rw [h3] at hd
          have hd' : dam td h = true := hd
          rw [e, if_neg (fun q => by rw [hd'] at q; exact absurd q.1 (by decide))]
        · rw [h3] at hd
          have hd' : dam td h = true := hd
          rw [e, if_neg (fun q => by rw [hd'] at q; exact absurd q.1 (by decide))]
  exact loop _ 0 rfl (by omega)
set_option maxRecDepth 40000 in
set_option maxHeartbeats 4000000 in
theorem e_m_best {M : Nat → Nat → Int32} {f_code f_land f_huts f_singers a b : Int32} {a_run : Nat → Int32} {post : Int32 → (Int32) → (Int32) → (Int32) → (Int32) → (Nat → Int32) → Prop} (hc : ∀ o, iv 0 2 (M 4 o)) (hL : mLand (M 5)) (hK : LK M) (hp : ∀ z0 z1 z2 z3 z4, post (AN_best M a b) z0 z1 z2 z3 z4) : q_m_best_0 f_code (M 4) (M 5) f_land f_huts f_singers a_run a b post := by
  unfold AN_best at hp
  refine e_hand (hc 0) (fun hno => zi ?_) (fun k hk ea hy => io ?_)
  · rw [if_neg hno] at hp; exact hp _ _ _ _ _
  rw [if_pos hy] at hp
  subst ea
  have hO : LOK (rowM M 0 (nI k)) := LK_row hK hk hy.2
  have hR : RNG (rowM M 0 (nI k)) := RNG_M hL hk
  obtain ⟨n, hn, hn9⟩ := ln_of hR
  rw [hn, cN_nI (by omega)] at hp
  intro P hP
  have u1 : upF 1000 = 1000000 := rfl
  have loop : ∀ m h (run : Nat → Int32), m = n - h → h ≤ n → P (bst (tdM M k) n h).1 (nI (upF (bst (tdM M k) n h).2)) (nI h) run := by
    intro m
    induction m using Nat.strongRecOn with
    | ind m ih =>
      intro h run hm hh
      apply hP
      obtain ⟨b1, b2⟩ := bst_ok (td := tdM M k) (n := n) h
      refine pk_le n h (fun h9 => ?_) (fun h9 => ?_) hn
      · have enh : n = h := by omega
        subst enh
        unfold BST at hp
        have fin : ∀ {c : Int32}, c = (bst (tdM M k) n n).1 → ((bst (tdM M k) n n).1 = -1 ∨ b = 0) → post c 0 (nI k) (tdM M k 0) (tdM M k 1) run := by
          intro c hc2 hq
          rw [if_pos hq] at hp
          rw [hc2]
          exact hp _ _ _ _ _
        refine ⟨fun h8 => fin rfl (Or.inl h8), fun h8 => ⟨fun h7 => ?_, fun h7 => fin rfl (Or.inr h7)⟩⟩
        rw [if_neg (fun q => by rcases q with q | q; exact h8 q; exact h7 q)] at hp
        rcases b2 with b2 | ⟨h', _, _, _, b4⟩
        · exact absurd b2 h8
        · rw [show upF (bst (tdM M k) n n).2 = (bst (tdM M k) n n).2 by unfold upF; rw [if_pos b4]]
          exact hp _ _ _ _ _
      · have e : bst (tdM M k) n (h + 1) = if dam (tdM M k) h = false ∧ lastV (tdM M k) n h n < (bst (tdM M k) n h).2 then (nI h, lastV (tdM M k) n h n) else bst (tdM M k) n h := rfl
        have nx : ∀ (run : Nat → Int32) (l : Nat), l ≤ 1000 → (dam (tdM M k) h = false → l = lastV (tdM M k) n h n) → (dam (tdM M k) h = true → l = 1000) → q_m_best_60 P 0 (M 4) (M 5) (nI k) (tdM M k 0) (tdM M k 1) run b (bst (tdM M k) n h).1 (nI (upF (bst (tdM M k) n h).2)) (nI h) (nI (upF l)) post := by
          intro run l hl hl1 hl2
          have go : ∀ y : Int32, y = (bst (tdM M k) n (h + 1)).1 → q_m_best_75 P 0 (M 4) (M 5) (nI k) (tdM M k 0) (tdM M k 1) run b (nI (upF (bst (tdM M k) n h).2)) (nI h) (nI (upF l)) y post := by
            intro y hy
            refine e_lessM upF_b upF_b (fun v ev => ?_)
            rw [ev, hy, nI_1, upF_min]
            have e3 : min (bst (tdM M k) n h).2 l = (bst (tdM M k) n (h + 1)).2 := by
              rw [e]
              by_cases hc : dam (tdM M k) h = false ∧ lastV (tdM M k) n h n < (bst (tdM M k) n h).2
              · rw [if_pos hc]
                have := hl1 hc.1
                have := hc.2
                show min (bst (tdM M k) n h).2 l = lastV (tdM M k) n h n
                omega
              · rw [if_neg hc]
                cases hd : dam (tdM M k) h with
                | true => have := hl2 hd; omega
                | false =>
                  have := hl1 hd
                  have : ¬ lastV (tdM M k) n h n < (bst (tdM M k) n h).2 := fun q => hc ⟨hd, q⟩
                  omega
            rw [e3]
            exact ih (n - (h + 1)) (by omega) (h + 1) run rfl (by omega)
          have q1 := upF_lt hl b1
          have q2 : upF (bst (tdM M k) n h).2 < 2 ^ 30 := upF_b
          have q3 : upF l < 2 ^ 30 := upF_b
          refine pk_le (upF (bst (tdM M k) n h).2) (upF l) (fun hle => go _ ?_) (fun hlt => go _ ?_) rfl rfl (by omega) (by omega)
          · rw [e, if_neg (fun q => ?_)]
            have h1 := hl1 q.1
            have h2 := q.2
            have := q1.mpr (by omega)
            omega
          · have hlt2 := q1.mp hlt
            cases hd : dam (tdM M k) h with
            | true => have := hl2 hd; omega
            | false => rw [e, if_pos ⟨hd, by rw [← hl1 hd]; exact hlt2⟩]
        refine e_run0M hk hL hO hn hn9 h9 rfl (fun run' hr => ?_)
        refine e_damM hk (by omega) (fun hd => iz ?_) (fun hd => oi ?_)
        · exact e_lastVM hk hn hn9 hr (nx run' _ (lastV_le n) (fun _ => rfl) (fun h2 => by rw [show dam (tdM M k) h = false from hd] at h2; exact absurd h2 (by decide)))
        · exact nx run' 1000 (Nat.le_refl _) (fun h2 => by rw [show dam (tdM M k) h = true from hd] at h2; exact absurd h2 (by decide)) (fun _ => rfl)
  exact loop _ 0 _ rfl (by omega)
set_option maxRecDepth 40000 in
set_option maxHeartbeats 4000000 in
theorem e_x_best {T : TT} {M : Nat → Nat → Int32} {a b : Int32} {pa_heard : Nat → Int32} {post : Int32 → (Nat → Int32) → Prop} (h : TM T M 0) (hB : tB T) (hK : LK M) (hL : mLand (M 5)) (hp : ∀ z0, post (AN_best M a b) z0) : q_wx_X10_best_0 (T.2 1) (T.1 3) (T.1 5) (T.1 6) (T.1 7) (T.2 2) (T.2 4) (T.2 5) (T.2 6) (T.1 10) (T.1 12) (T.1 13) (T.1 14) (T.2 10) (T.2 12) (T.2 13) (T.2 14) pa_heard a b post := by
  unfold AN_best at hp
  rw [TM_cnt h 0 (by decide)] at hp
  refine e_at (hB.2.2.1 0) (fun (hno : ¬ (0 ≤ a ∧ a < T.2 1 0)) => ?_) (fun ea hla => ?_) (fun ea hla => ?_)
  · rw [if_neg hno] at hp
    exact ⟨fun _ => hp _, fun h9 => absurd h9 (by decide), fun h9 => absurd rfl h9⟩
  · rw [if_pos (by rw [ea]; exact ⟨by decide, hla⟩), ea] at hp
    have hR : RNG (rowM M 0 (nI 0)) := RNG_M hL (by decide)
    have hLD : LDR (T.1 3) (T.1 4) (T.1 5) (T.1 6) (T.1 7) (T.1 8) (T.1 9) (T.2 2) (T.2 3) (T.2 4) (T.2 5) (T.2 6) (T.2 7) (T.2 8) (T.2 9) (rowM M 0 (nI 0)) := TM_sl h 0 0 (by decide) (by decide) hla
    have hX := LX_of hR hLD
    have hOK : LOK (rowM M 0 (nI 0)) := LK_row hK (by decide) (by rw [TM_cnt h 0 (by decide)]; exact hla)
    obtain ⟨n, hn, hn9⟩ := ln_of hR
    refine ⟨fun h9 => absurd h9 (by decide), fun h9 => absurd h9 (by decide), fun _ _ => ?_⟩
    rw [hn, cN_nI (by omega)] at hp
    refine e_hearX hR hX hn hn9 (fun t' ht' => e_bestHutX hn hn9 hX.1 hLD.2.2.1 hX.2.2.1 ht' ?_)
    obtain ⟨-, b2⟩ := bst_ok (td := rowM M 0 (nI 0)) (n := n) n
    unfold BST at hp
    refine ⟨fun h8 => ?_, fun h8 => ⟨fun h7 => ?_, fun h7 => ?_⟩⟩
    · rw [if_pos (Or.inl h8)] at hp; exact hp _
    · rw [if_neg (fun q => by rcases q with q | q; exact h8 q; exact h7 q)] at hp
      rcases b2 with b2 | ⟨h', c1, c2, c3, _⟩
      · exact absurd b2 h8
      · rw [c3] at hp
        exact e_lastVX hn hn9 hX.1 hLD.2.2.1 hX.2.2.1 c1 c2 ht' (hp _)
    · rw [if_pos (Or.inr h7)] at hp; exact hp _
  · rw [if_pos (by rw [ea]; exact ⟨by decide, hla⟩), ea] at hp
    have hR : RNG (rowM M 0 (nI 1)) := RNG_M hL (by decide)
    have hLD : LDR (T.1 10) (T.1 11) (T.1 12) (T.1 13) (T.1 14) (T.1 15) (T.1 16) (T.2 10) (T.2 11) (T.2 12) (T.2 13) (T.2 14) (T.2 15) (T.2 16) (T.2 17) (rowM M 0 (nI 1)) := TM_sl h 0 1 (by decide) (by decide) hla
    have hX := LX_of hR hLD
    have hOK : LOK (rowM M 0 (nI 1)) := LK_row hK (by decide) (by rw [TM_cnt h 0 (by decide)]; exact hla)
    obtain ⟨n, hn, hn9⟩ := ln_of hR
    refine ⟨fun h9 => absurd h9 (by decide), fun _ => ?_, fun _ h9 => absurd rfl h9⟩
    rw [hn, cN_nI (by omega)] at hp
    refine e_hearX hR hX hn hn9 (fun t' ht' => e_bestHutX hn hn9 hX.1 hLD.2.2.1 hX.2.2.1 ht' ?_)
    obtain ⟨-, b2⟩ := bst_ok (td := rowM M 0 (nI 1)) (n := n) n
    unfold BST at hp
    refine ⟨fun h8 => ?_, fun h8 => ⟨fun h7 => ?_, fun h7 => ?_⟩⟩
    · rw [if_pos (Or.inl h8)] at hp; exact hp _
    · rw [if_neg (fun q => by rcases q with q | q; exact h8 q; exact h7 q)] at hp
      rcases b2 with b2 | ⟨h', c1, c2, c3, _⟩
      · exact absurd b2 h8
      · rw [c3] at hp
        exact e_lastVX hn hn9 hX.1 hLD.2.2.1 hX.2.2.1 c1 c2 ht' (hp _)
    · rw [if_pos (Or.inr h7)] at hp; exact hp _
end
section
/-- the first least -/
def argm (g : Nat → Nat) : Nat → Int32 × Nat
  | 0 => (-1, 1000)
  | h + 1 => if g h < (argm g h).2 then (nI h, g h) else argm g h
theorem argm_ok {g : Nat → Nat} : ∀ m, (argm g m).2 ≤ 1000 ∧ ((argm g m).1 = -1 ∨ ∃ h, h < m ∧ (argm g m).1 = nI h ∧ (argm g m).2 < 1000)
  | 0 => ⟨Nat.le_refl _, Or.inl rfl⟩
  | m + 1 => by
    obtain ⟨h1, h2⟩ := argm_ok (g := g) m
    have e : argm g (m + 1) = if g m < (argm g m).2 then (nI m, g m) else argm g m := rfl
    rw [e]
    by_cases hc : g m < (argm g m).2
    · rw [if_pos hc]
      exact ⟨by show g m ≤ 1000; omega, Or.inr ⟨m, by omega, rfl, by show g m < 1000; omega⟩⟩
    · rw [if_neg hc]
      refine ⟨h1, ?_⟩
      rcases h2 with h2 | ⟨h, a1, a2, a3⟩
      · exact Or.inl h2
      · exact Or.inr ⟨h, by omega, a2, a3⟩
theorem argm_far {g : Nat → Nat} : ∀ m, (∀ h, h < m → 1000 ≤ g h) → argm g m = (-1, 1000)
  | 0, _ => rfl
  | m + 1, hq => by
    have e : argm g (m + 1) = if g m < (argm g m).2 then (nI m, g m) else argm g m := rfl
    rw [e, argm_far m (fun h hh => hq h (by omega)), if_neg (by have := hq m (by omega); show ¬ g m < 1000; omega)]
theorem argm_ext {g g' : Nat → Nat} : ∀ m, (∀ h, h < m → g h = g' h) → argm g m = argm g' m
  | 0, _ => rfl
  | m + 1, hq => by
    show (if g m < (argm g m).2 then (nI m, g m) else argm g m) = (if g' m < (argm g' m).2 then (nI m, g' m) else argm g' m)
    rw [argm_ext m (fun h hh => hq h (by omega)), hq m (by omega)]
def AM (g : Nat → Nat) (n : Nat) (b : Int32) : Int32 := if (argm g n).1 = -1 ∨ b = 0 then (argm g n).1 else nI (argm g n).2
theorem nIm1' {h : Nat} (hh : h < 1000) : ¬ nI h = -1 := fun e => by
  have := congrArg Int32.toInt e
  rw [nI_toInt (by omega)] at this
  have e1 : (-1 : Int32).toInt = -1 := rfl
  omega
theorem e_tog1 {t : Nat → Int32} {n a b : Nat} {A B g : Nat → Nat} {huts x3 x4 m : Int32} {post : Int32 → Prop} (hn9 : n ≤ 9) (h0 : huts = nI n) (ha : a < n) (hb1 : b < n) (h3 : x3 = nI a) (h4 : x4 = nI b) (hA : ∀ h, h < n → t (9 * a + h) = nI (A h)) (hB : ∀ h, h < n → t (9 * b + h) = nI (B h)) (lA : ∀ h, A h ≤ 1000) (lB : ∀ h, B h ≤ 1000) (hg : ∀ h, h < n → g h = max (A h) (B h)) (hp : post (AM g n m)) : q_wp_X7_together_9_1_0 t huts x3 x4 m post := by
  subst h3 h4
  have ei : ∀ a h : Nat, (nI a * 9) + nI h = nI (9 * a + h) := fun a h => by rw [jx9, Nat.mul_comm]
  intro P hP
  have loop : ∀ w h, w = n - h → h ≤ n → P (argm g h).1 (nI (argm g h).2) (nI h) := by
    intro w
    induction w using Nat.strongRecOn with
    | ind w ih =>
      intro h hw hh
      apply hP
      obtain ⟨b1, b2⟩ := argm_ok (g := g) h
      refine pk_le n h (fun h9 => ?_) (fun h9 => ?_) h0
      · have e : h = n := by omega
        subst e
        unfold AM at hp
        refine ⟨fun h8 => ?_, fun h8 => ⟨fun h7 => ?_, fun h7 => ?_⟩⟩
        · rw [if_pos (Or.inl h8)] at hp; exact hp
        · rw [if_pos (Or.inr h7)] at hp; exact hp
        · rw [if_neg (fun q => by rcases q with q | q; exact h8 q; exact h7 q)] at hp; exact hp
      · rw [ei, ei]
        refine ⟨vp_in_nI (by omega) (by omega), vp_in_nI (by omega) (by omega), fun v ev => ?_⟩
        rw [nI_clamp (by omega), nI_clamp (by omega), hA h h9, hB h h9] at ev
        have l1 := lA h
        have l2 := lB h
        have ev2 : v = nI (g h) := by
          rw [ev, hg h h9]
          by_cases q : A h < B h
          · rw [if_pos (nI_lt q (by omega)), show max (A h) (B h) = B h by omega]
          · rw [if_neg (fun q2 => q ((nI_ltI (by omega) (by omega)).mp q2)), show max (A h) (B h) = A h by omega]
        have hg1 := hg h h9
        have e : argm g (h + 1) = if g h < (argm g h).2 then (nI h, g h) else argm g h := rfl
        have nx : ∀ x y : Int32, x = (argm g (h + 1)).1 → y = nI (argm g (h + 1)).2 → q_wp_X7_together_9_1_59 P t huts (nI a) (nI b) m x y (nI h) post := by
          intro x y hx hy v ev
          rw [ev, hx, hy, nI_1]
          exact ih (n - (h + 1)) (by omega) (h + 1) rfl (by omega)
        refine pk_le (argm g h).2 (g h) (fun hle => nx _ _ ?_ ?_) (fun hlt => nx _ _ ?_ ?_) rfl ev2 (by omega) (by omega)
        · rw [e, if_neg (by omega)]
        · rw [e, if_neg (by omega)]
        · rw [e, if_pos hlt]
        · rw [e, if_pos hlt]; exact ev2
  exact loop _ 0 rfl (by omega)

theorem e_tog2 {t : Nat → Int32} {n a b : Nat} {A B g : Nat → Nat} {huts x3 x4 m : Int32} {post : Int32 → Prop} (hn9 : n ≤ 9) (h0 : huts = nI n) (ha : a < n) (hb1 : b < n) (h3 : x3 = nI a) (h4 : x4 = nI b) (hA : ∀ h, h < n → t (9 * a + h) = nI (A h)) (hB : ∀ h, h < n → t (9 * b + h) = nI (B h)) (lA : ∀ h, A h ≤ 1000) (lB : ∀ h, B h ≤ 1000) (hg : ∀ h, h < n → g h = max (A h) (B h)) (hp : post (AM g n m)) : q_wp_X7_together_9_2_0 t huts x3 x4 m post := by
  subst h3 h4
  have ei : ∀ a h : Nat, (nI a * 9) + nI h = nI (9 * a + h) := fun a h => by rw [jx9, Nat.mul_comm]
  intro P hP
  have loop : ∀ w h, w = n - h → h ≤ n → P (argm g h).1 (nI (argm g h).2) (nI h) := by
    intro w
    induction w using Nat.strongRecOn with
    | ind w ih =>
      intro h hw hh
      apply hP
      obtain ⟨b1, b2⟩ := argm_ok (g := g) h
      refine pk_le n h (fun h9 => ?_) (fun h9 => ?_) h0
      · have e : h = n := by omega
        subst e
        unfold AM at hp
        refine ⟨fun h8 => ?_, fun h8 => ⟨fun h7 => ?_, fun h7 => ?_⟩⟩
        · rw [if_pos (Or.inl h8)] at hp; exact hp
        · rw [if_pos (Or.inr h7)] at hp; exact hp
        · rw [if_neg (fun q => by rcases q with q | q; exact h8 q; exact h7 q)] at hp; exact hp
      · rw [ei, ei]
        refine ⟨vp_in_nI (by omega) (by omega), vp_in_nI (by omega) (by omega), fun v ev => ?_⟩
        rw [nI_clamp (by omega), nI_clamp (by omega), hA h h9, hB h h9] at ev
        have l1 := lA h
        have l2 := lB h
        have ev2 : v = nI (g h) := by
          rw [ev, hg h h9]
          by_cases q : A h < B h
          · rw [if_pos (nI_lt q (by omega)), show max (A h) (B h) = B h by omega]
          · rw [if_neg (fun q2 => q ((nI_ltI (by omega) (by omega)).mp q2)), show max (A h) (B h) = A h by omega]
        have hg1 := hg h h9
        have e : argm g (h + 1) = if g h < (argm g h).2 then (nI h, g h) else argm g h := rfl
        have nx : ∀ x y : Int32, x = (argm g (h + 1)).1 → y = nI (argm g (h + 1)).2 → q_wp_X7_together_9_2_59 P t huts (nI a) (nI b) m x y (nI h) post := by
          intro x y hx hy v ev
          rw [ev, hx, hy, nI_1]
          exact ih (n - (h + 1)) (by omega) (h + 1) rfl (by omega)
        refine pk_le (argm g h).2 (g h) (fun hle => nx _ _ ?_ ?_) (fun hlt => nx _ _ ?_ ?_) rfl ev2 (by omega) (by omega)
        · rw [e, if_neg (by omega)]
        · rw [e, if_neg (by omega)]
        · rw [e, if_pos hlt]
        · rw [e, if_pos hlt]; exact ev2
  exact loop _ 0 rfl (by omega)

def psB (td : Nat → Int32) (n t noon h : Nat) : Bool := decide (RUN td (td 3) n h t ≤ noon)
def hiG (td : Nat → Int32) (p : Nat → Bool) : Nat → Int32
  | 0 => -1
  | h + 1 => if p h = true ∧ (hiG td p h = -1 ∨ td (7 + cN (hiG td p h)) < td (7 + h)) then nI h else hiG td p h
def sooN (r : Nat → Nat) : Nat → Nat
  | 0 => 1000
  | h + 1 => min (sooN r h) (r h)
def leN (r : Nat → Nat) (p : Nat → Bool) : Nat → Nat
  | 0 => 1000
  | h + 1 => if p h = true then min (leN r p h) (r h) else leN r p h
theorem hiG_ok {td : Nat → Int32} {p : Nat → Bool} : ∀ m, hiG td p m = -1 ∨ ∃ h, h < m ∧ hiG td p m = nI h
  | 0 => Or.inl rfl
  | m + 1 => by
    have e : hiG td p (m + 1) = if p m = true ∧ (hiG td p m = -1 ∨ td (7 + cN (hiG td p m)) < td (7 + m)) then nI m else hiG td p m := rfl
    rw [e]
    split
    · exact Or.inr ⟨m, by omega, rfl⟩
    · rcases hiG_ok (td := td) (p := p) m with h | ⟨h, a, b⟩
      · exact Or.inl h
      · exact Or.inr ⟨h, by omega, b⟩
theorem sooN_le {r : Nat → Nat} : ∀ m, sooN r m ≤ 1000
  | 0 => Nat.le_refl _
  | m + 1 => by have := sooN_le (r := r) m; show min (sooN r m) (r m) ≤ 1000; omega
theorem leN_le {r : Nat → Nat} {p : Nat → Bool} : ∀ m, leN r p m ≤ 1000
  | 0 => Nat.le_refl _
  | m + 1 => by
    have := leN_le (r := r) (p := p) m
    have e : leN r p (m + 1) = if p m = true then min (leN r p m) (r m) else leN r p m := rfl
    rw [e]; split <;> omega
/-- where something is within, the least is the least within -/
theorem leN_so {r : Nat → Nat} {q : Nat} (hq : q < 1000) : ∀ m, ((∀ h, h < m → ¬ r h ≤ q) → leN r (fun h => decide (r h ≤ q)) m = 1000 ∧ ¬ sooN r m ≤ q) ∧ ((∃ h, h < m ∧ r h ≤ q) → leN r (fun h => decide (r h ≤ q)) m = sooN r m ∧ sooN r m ≤ q)
  | 0 => ⟨fun _ => ⟨rfl, by show ¬ 1000 ≤ q; omega⟩, fun ⟨h, hh, _⟩ => absurd hh (Nat.not_lt_zero h)⟩
  | m + 1 => by
    obtain ⟨i1, i2⟩ := leN_so (r := r) hq m
    have e1 : leN r (fun h => decide (r h ≤ q)) (m + 1) = if decide (r m ≤ q) = true then min (leN r (fun h => decide (r h ≤ q)) m) (r m) else leN r (fun h => decide (r h ≤ q)) m := rfl
    have e2 : sooN r (m + 1) = min (sooN r m) (r m) := rfl
    rw [e1, e2]
    have hl := leN_le (r := r) (p := fun h => decide (r h ≤ q)) m
    constructor
    · intro h
      obtain ⟨a, b⟩ := i1 (fun k hk => h k (by omega))
      have hm := h m (by omega)
      rw [if_neg (by rw [decide_eq_false hm]; decide)]
      exact ⟨a, by omega⟩
    · rintro ⟨k, hk, hkq⟩
      by_cases hm : r m ≤ q
      · rw [if_pos (decide_eq_true hm)]
        by_cases hx : ∃ h, h < m ∧ r h ≤ q
        · obtain ⟨a, b⟩ := i2 hx
          rw [a]; exact ⟨rfl, by omega⟩
        · obtain ⟨a, b⟩ := i1 (fun h hh hr => hx ⟨h, hh, hr⟩)
          rw [a]; exact ⟨by omega, by omega⟩
      · rw [if_neg (by rw [decide_eq_false hm]; decide)]
        have : k < m := by
          by_cases e : k = m
          · subst e; exact absurd hkq hm
          · omega
        obtain ⟨a, b⟩ := i2 ⟨k, this, hkq⟩
        rw [a]; exact ⟨by omega, by omega⟩
def PSA (td : Nat → Int32) (n t noon : Nat) (w : Int32) : Int32 := if w = 0 then mkB (psB td n t noon) n else if mkB (psB td n t noon) n = 0 then -1 else if w = 1 then hiG td (psB td n t noon) n else nI noon - nI (sooN (fun h => RUN td (td 3) n h t) n)
def AN_psalm (M : Nat → Nat → Int32) (a b c d : Int32) : Int32 := if 0 ≤ a ∧ a < M 4 0 then (if (0 ≤ b ∧ b < rowM M 0 a 0) ∧ (0 ≤ c ∧ c ≤ 99) ∧ (0 ≤ d ∧ d ≤ 2) then PSA (rowM M 0 a) (cN (rowM M 0 a 0)) (cN b) (cN c) d else -2) else -2
theorem mkB_0 {p : Nat → Bool} {n : Nat} (hn : n ≤ 9) : mkB p n = 0 ↔ ∀ h, h < n → p h = false := by
  constructor
  · intro e h hh
    have := hb_mkB (p := p) (k := h) (by omega) n (by omega)
    rw [e, hb_0, decide_eq_true hh, Bool.true_and] at this
    exact this.symm
  · intro e
    apply hb_eq
    intro k hk
    rw [hb_0, hb_mkB hk n (by omega)]
    by_cases h : k < n
    · rw [decide_eq_true h, Bool.true_and, e k h]
    · rw [decide_eq_false h]; rfl
section
variable {td t : Nat → Int32} {n : Nat} {huts x3 : Int32} {heights : Nat → Int32}
theorem e_fromByX {v noon : Nat} {post : Int32 → Prop} {x2 : Int32} (hn9 : n ≤ 9) (h0 : huts = nI n) (hv : v < n) (hx2 : x2 = nI v) (hx3 : x3 = nI noon) (hno : noon < 1000) (ht : ∀ a b, a < n → b < n → t (9 * a + b) = nI (RUN td (td 3) n a b)) (hp : post (mkB (psB td n v noon) n)) : q_wp_X7_fromBy_9_0 t huts x2 x3 post := by
  subst hx2 hx3
  intro P hP
  have loop : ∀ m h, m = n - h → h ≤ n → P (mkB (psB td n v noon) h) (nI h) := by
    intro m
    induction m using Nat.strongRecOn with
    | ind m ih =>
      intro h hm hh
      apply hP
      refine pk_le n h (fun h9 => by rw [show h = n by omega]; exact hp) (fun h9 => ?_) h0
      have ei : (nI h * 9) + nI v = nI (9 * h + v) := by rw [jx9, Nat.mul_comm]
      have e : mkB (psB td n v noon) (h + 1) = mkB (psB td n v noon) h ||| (if psB td n v noon h = true then bitI h else 0) := rfl
      have nx : ∀ y : Int32, y = mkB (psB td n v noon) (h + 1) → q_wp_X7_fromBy_9_40 P t huts (nI v) (nI noon) y (nI h) post := by
        intro y hy v ev
        rw [ev, hy, nI_1]
        exact ih (n - (h + 1)) (by omega) (h + 1) rfl (by omega)
      have l := RUN_le (td := td) (sh := td 3) (n := n) (a := h) (b := v)
      rw [ei]
      refine ⟨vp_in_nI (by omega) (by omega), ?_⟩
      rw [nI_clamp (by omega), ht h v h9 hv]
      refine pk_lt noon (RUN td (td 3) n h v) (fun hlt => nx _ ?_) (fun hle v2 ev => nx _ ?_) rfl rfl (by omega) (by omega)
      · rw [e, if_neg (by unfold psB; rw [decide_eq_false (by omega)]; decide), or_0]
      · rw [e, if_pos (by unfold psB; rw [decide_eq_true (by omega)]), ev]; rfl
  exact loop _ 0 rfl (by omega)
theorem e_sooX {v : Nat} {post : Int32 → Prop} {x2 : Int32} (hn9 : n ≤ 9) (h0 : huts = nI n) (hv : v < n) (hx2 : x2 = nI v) (ht : ∀ a b, a < n → b < n → t (9 * a + b) = nI (RUN td (td 3) n a b)) (hp : post (nI (sooN (fun h => RUN td (td 3) n h v) n))) : q_wp_X7_soonest_9_0 t huts x2 post := by
  subst hx2
  intro P hP
  have loop : ∀ m h, m = n - h → h ≤ n → P (nI (sooN (fun h => RUN td (td 3) n h v) h)) (nI h) := by
    intro m
    induction m using Nat.strongRecOn with
    | ind m ih =>
      intro h hm hh
      apply hP
      refine pk_le n h (fun h9 => by rw [show h = n by omega]; exact hp) (fun h9 => ?_) h0
      have ei : (nI h * 9) + nI v = nI (9 * h + v) := by rw [jx9, Nat.mul_comm]
      rw [ei]
      refine ⟨vp_in_nI (by omega) (by omega), fun w ew v2 ev2 => ?_⟩
      rw [nI_clamp (by omega), ht h v h9 hv] at ew
      have l1 := sooN_le (r := fun h => RUN td (td 3) n h v) h
      have l2 := RUN_le (td := td) (sh := td 3) (n := n) (a := h) (b := v)
      have e2 : sooN (fun h => RUN td (td 3) n h v) (h + 1) = min (sooN (fun h => RUN td (td 3) n h v) h) (RUN td (td 3) n h v) := rfl
      have e : w = nI (sooN (fun h => RUN td (td 3) n h v) (h + 1)) := by
        rw [ew, e2]
        by_cases q : RUN td (td 3) n h v < sooN (fun h => RUN td (td 3) n h v) h
        · rw [if_pos (nI_lt q (by omega)), show min (sooN (fun h => RUN td (td 3) n h v) h) (RUN td (td 3) n h v) = RUN td (td 3) n h v by omega]
        · rw [if_neg (fun q2 => q ((nI_ltI (by omega) (by omega)).mp q2)), show min (sooN (fun h => RUN td (td 3) n h v) h) (RUN td (td 3) n h v) = sooN (fun h => RUN td (td 3) n h v) h by omega]
      rw [ev2, e, nI_1]
      exact ih (n - (h + 1)) (by omega) (h + 1) rfl (by omega)
  exact loop _ 0 rfl (by omega)
theorem e_highestX {p : Nat → Bool} {set : Int32} {post : Int32 → Prop} (hn9 : n ≤ 9) (h0 : huts = nI n) (hh : ∀ j, j < n → heights j = td (7 + j)) (hs : ∀ h, h < n → hb set h = p h) (hp : post (hiG td p n)) : q_wl_X2_highest_0 huts heights set post := by
  intro P hP
  have loop : ∀ m h, m = n - h → h ≤ n → P (hiG td p h) (nI h) := by
    intro m
    induction m using Nat.strongRecOn with
    | ind m ih =>
      intro h hm hhn
      apply hP
      refine pk_le n h (fun h9 => by rw [show h = n by omega]; exact hp) (fun h9 => ?_) h0
      have e : hiG td p (h + 1) = if p h = true ∧ (hiG td p h = -1 ∨ td (7 + cN (hiG td p h)) < td (7 + h)) then nI h else hiG td p h := rfl
      have nx : ∀ y : Int32, y = hiG td p (h + 1) → q_wl_X2_highest_42 P huts heights set y (nI h) post := by
        intro y hy v ev
        rw [ev, hy, nI_1]
        exact ih (n - (h + 1)) (by omega) (h + 1) rfl (by omega)
      refine e_hasX (by omega) (fun q => iz (nx _ ?_)) (fun q => oi ⟨fun q1 => nx _ ?_, fun q1 => ?_⟩)
      · rw [hs h h9] at q
        rw [e, if_neg (fun q2 => by rw [q] at q2; exact absurd q2.1 (by decide))]
      · rw [hs h h9] at q
        rw [e, if_pos ⟨q, Or.inl q1⟩]
      · rw [hs h h9] at q
        rcases hiG_ok (td := td) (p := p) h with q2 | ⟨j, hj, ej⟩
        · exact absurd q2 q1
        · rw [ej]
          refine ⟨vp_in_nI (by omega) (by omega), vp_in_nI (by omega) (by omega), ?_⟩
          rw [nI_clamp (by omega), nI_clamp (by omega), hh h h9, hh j (by omega)]
          rw [ej, cN_nI (by omega)] at e
          refine ⟨fun hle => nx _ ?_, fun hlt => nx _ ?_⟩
          · rw [e, if_neg (fun q2 => ?_)]
            rcases q2.2 with q3 | q3
            · exact nIm1' (by omega) q3
            · exact absurd hle (Int32.not_le.mpr q3)
          · rw [e, if_pos ⟨q, Or.inr (Int32.not_le.mp hlt)⟩]
  exact loop _ 0 rfl (by omega)
end
set_option maxRecDepth 40000 in
set_option maxHeartbeats 4000000 in
theorem e_m_psalm {M : Nat → Nat → Int32} {f_code f_land f_huts f_singers a b c d : Int32} {a_run : Nat → Int32} {post : Int32 → (Int32) → (Int32) → (Int32) → (Int32) → (Nat → Int32) → Prop} (hc : ∀ o, iv 0 2 (M 4 o)) (hL : mLand (M 5)) (hK : LK M) (hp : ∀ z0 z1 z2 z3 z4, post (AN_psalm M a b c d) z0 z1 z2 z3 z4) : q_m_psalm_0 f_code (M 4) (M 5) f_land f_huts f_singers a_run a b c d post := by
  unfold AN_psalm at hp
  refine e_hand (hc 0) (fun hno => iz ?_) (fun k hk ea hy => oi ?_)
  · rw [if_neg hno] at hp; exact hp _ _ _ _ _
  rw [if_pos hy] at hp
  subst ea
  have hO : LOK (rowM M 0 (nI k)) := LK_row hK hk hy.2
  have hR : RNG (rowM M 0 (nI k)) := RNG_M hL hk
  obtain ⟨n, hn, hn9⟩ := ln_of hR
  have b0 : iv 0 9 (tdM M k 0) := hR 0 (by omega)
  refine e_isHutM b0 (fun h => iz ?_) (fun h1 => oi (sp_in (fun h => iz ?_) (fun c1 c2 => oi (sp_in (fun h => zi ?_) (fun d1 d2 => io ?_)))))
  · rw [if_neg (fun h9 => h h9.1)] at hp; exact hp _ _ _ _ _
  · rw [if_neg (fun h9 => h h9.2.1)] at hp; exact hp _ _ _ _ _
  · rw [if_neg (fun h9 => h h9.2.2)] at hp; exact hp _ _ _ _ _
  rw [if_pos ⟨h1, ⟨c1, c2⟩, d1, d2⟩] at hp
  rw [hn] at h1
  obtain ⟨v, hv, eb⟩ := lt_n hn9 h1
  obtain ⟨noon, hno, ec⟩ := nI_of2 (M := 99) (n := 99) (by decide) (Int32.not_lt.mpr c1) c2
  subst eb ec
  rw [hn, cN_nI (by omega), cN_nI (by omega), cN_nI (by omega)] at hp
  intro P hP
  have u1 : upF 1000 = 1000000 := rfl
  have loop : ∀ m h (run : Nat → Int32), m = n - h → h ≤ n → P (mkB (psB (tdM M k) n v noon) h) (hiG (tdM M k) (psB (tdM M k) n v noon) h) (nI (upF (leN (fun h => RUN (tdM M k) (tdM M k 3) n h v) (psB (tdM M k) n v noon) h))) (nI h) run := by
    intro m
    induction m using Nat.strongRecOn with
    | ind m ih =>
      intro h run hm hh
      apply hP
      refine pk_le n h (fun h9 => ?_) (fun h9 => ?_) hn
      · have enh : h = n := by omega
        subst enh
        unfold PSA at hp
        refine ⟨fun w0 => ⟨fun w1 => ⟨fun s0 => ?_, fun s0 => ?_⟩, fun w1 => ?_⟩, fun w0 => ?_⟩
        · rw [if_neg w0, if_neg s0, if_neg w1] at hp
          have hex : ∃ q, q < h ∧ RUN (tdM M k) (tdM M k 3) h q v ≤ noon := by
            apply Classical.byContradiction
            intro hno2
            exact s0 ((mkB_0 hn9).mpr (fun q hq => decide_eq_false (fun h7 => hno2 ⟨q, hq, h7⟩)))
          obtain ⟨e1, e2⟩ := (leN_so (r := fun q => RUN (tdM M k) (tdM M k 3) h q v) (q := noon) (by omega) h).2 hex
          have e3 : leN (fun q => RUN (tdM M k) (tdM M k 3) h q v) (psB (tdM M k) h v noon) h = sooN (fun q => RUN (tdM M k) (tdM M k 3) h q v) h := e1
          rw [e3, show upF (sooN (fun q => RUN (tdM M k) (tdM M k 3) h q v) h) = sooN (fun q => RUN (tdM M k) (tdM M k 3) h q v) h by unfold upF; rw [if_pos (by omega)]]
          exact hp _ _ _ _ _
        · rw [if_neg w0, if_pos s0] at hp; exact hp _ _ _ _ _
        · by_cases s0 : mkB (psB (tdM M k) h v noon) h = 0
          · rw [if_neg w0, if_pos s0] at hp
            have e9 : hiG (tdM M k) (psB (tdM M k) h v noon) h = -1 := by
              have hz := (mkB_0 hn9).mp s0
              have : ∀ j, j ≤ h → hiG (tdM M k) (psB (tdM M k) h v noon) j = -1 := by
                intro j
                induction j with
                | zero => intro _; rfl
                | succ j ihj =>
                  intro hj
                  have e : hiG (tdM M k) (psB (tdM M k) h v noon) (j + 1) = if psB (tdM M k) h v noon j = true ∧ (hiG (tdM M k) (psB (tdM M k) h v noon) j = -1 ∨ tdM M k (7 + cN (hiG (tdM M k) (psB (tdM M k) h v noon) j)) < tdM M k (7 + j)) then nI j else hiG (tdM M k) (psB (tdM M k) h v noon) j := rfl
                  rw [e, if_neg (fun q => by rw [hz j (by omega)] at q; exact absurd q.1 (by decide))]
                  exact ihj (by omega)
              exact this h (Nat.le_refl h)
            rw [e9]; exact hp _ _ _ _ _
          · rw [if_neg w0, if_neg s0, if_pos w1] at hp; exact hp _ _ _ _ _
        · rw [if_pos w0] at hp; exact hp _ _ _ _ _
      · have eS : mkB (psB (tdM M k) n v noon) (h + 1) = mkB (psB (tdM M k) n v noon) h ||| (if psB (tdM M k) n v noon h = true then bitI h else 0) := rfl
        have eH : hiG (tdM M k) (psB (tdM M k) n v noon) (h + 1) = if psB (tdM M k) n v noon h = true ∧ (hiG (tdM M k) (psB (tdM M k) n v noon) h = -1 ∨ tdM M k (7 + cN (hiG (tdM M k) (psB (tdM M k) n v noon) h)) < tdM M k (7 + h)) then nI h else hiG (tdM M k) (psB (tdM M k) n v noon) h := rfl
        have eL : leN (fun h => RUN (tdM M k) (tdM M k 3) n h v) (psB (tdM M k) n v noon) (h + 1) = if psB (tdM M k) n v noon h = true then min (leN (fun h => RUN (tdM M k) (tdM M k 3) n h v) (psB (tdM M k) n v noon) h) (RUN (tdM M k) (tdM M k 3) n h v) else leN (fun h => RUN (tdM M k) (tdM M k 3) n h v) (psB (tdM M k) n v noon) h := rfl
        have nx : ∀ (run : Nat → Int32) (x y w : Int32), x = mkB (psB (tdM M k) n v noon) (h + 1) → y = hiG (tdM M k) (psB (tdM M k) n v noon) (h + 1) → w = nI (upF (leN (fun h => RUN (tdM M k) (tdM M k 3) n h v) (psB (tdM M k) n v noon) (h + 1))) → q_m_psalm_136 P 0 (M 4) (M 5) (nI k) (tdM M k 0) (tdM M k 1) run (nI v) (nI noon) d x y w (nI h) post := by
          intro run x y w hx hy hw v2 ev
          rw [ev, hx, hy, hw, nI_1]
          exact ih (n - (h + 1)) (by omega) (h + 1) run rfl (by omega)
        refine e_run0M hk hL hO hn hn9 h9 rfl (fun run' hr => ⟨vp_in_nI (by omega) (by omega), ?_⟩)
        have hrv := hr v hv
        rw [nI_clamp (by omega), hrv]
        have l := RUN_le (td := tdM M k) (sh := tdM M k 3) (n := n) (a := h) (b := v)
        have hup : noon < upF (RUN (tdM M k) (tdM M k 3) n h v) ↔ noon < RUN (tdM M k) (tdM M k 3) n h v := by
          unfold upF
          split <;> omega
        have ub : upF (RUN (tdM M k) (tdM M k 3) n h v) < 2 ^ 30 := upF_b
        refine pk_lt noon (upF (RUN (tdM M k) (tdM M k 3) n h v)) (fun hlt => ?_) (fun hle v2 ev => ?_) rfl rfl (by omega) (by omega)
        · have hpf : psB (tdM M k) n v noon h = false := decide_eq_false (by have := hup.mp hlt; omega)
          refine nx run' _ _ _ ?_ ?_ ?_
          · rw [eS, if_neg (by rw [hpf]; decide), or_0]
          · rw [eH, if_neg (fun q => by rw [hpf] at q; exact absurd q.1 (by decide))]
          · rw [eL, if_neg (by rw [hpf]; decide)]
        · have hpt : psB (tdM M k) n v noon h = true := decide_eq_true (by
            apply Classical.byContradiction
            intro h3
            have := hup.mpr (by omega)
            omega)
          have ev' : v2 = mkB (psB (tdM M k) n v noon) (h + 1) := by rw [eS, if_pos hpt, ev]; rfl
          have go : ∀ y : Int32, y = hiG (tdM M k) (psB (tdM M k) n v noon) (h + 1) → q_m_psalm_121 P 0 (M 4) (M 5) (nI k) (tdM M k 0) (tdM M k 1) run' (nI v) (nI noon) d v2 (nI (upF (leN (fun h => RUN (tdM M k) (tdM M k 3) n h v) (psB (tdM M k) n v noon) h))) (nI h) y post := by
            intro y hy
            refine ⟨vp_in_nI (by omega) (by omega), ?_⟩
            rw [nI_clamp (by omega), hrv]
            refine e_lessM upF_b upF_b (nx run' _ _ _ ev' hy ?_)
            rw [upF_min, eL, if_pos hpt]
          refine ⟨fun q1 => go _ ?_, fun q1 => ?_⟩
          · rw [eH, if_pos ⟨hpt, Or.inl q1⟩]
          · rcases hiG_ok (td := tdM M k) (p := psB (tdM M k) n v noon) h with q2 | ⟨j, hj, ej⟩
            · exact absurd q2 q1
            · rw [ej] at eH ⊢
              rw [cN_nI (by omega)] at eH
              refine e_of (i := 7 + h) hk (by omega) (jx 7 h) (e_of (i := 7 + j) hk (by omega) (jx 7 j) ⟨fun hle => go _ ?_, fun hlt => go _ ?_⟩)
              · rw [eH, if_neg (fun q2 => ?_)]
                rcases q2.2 with q3 | q3
                · exact nIm1' (by omega) q3
                · exact absurd hle (Int32.not_le.mpr q3)
              · rw [eH, if_pos ⟨hpt, Or.inr (Int32.not_le.mp hlt)⟩]
  exact loop _ 0 _ rfl (by omega)
set_option maxRecDepth 40000 in
set_option maxHeartbeats 4000000 in
theorem e_x_psalm {T : TT} {M : Nat → Nat → Int32} {a b c d : Int32} {pa_heard : Nat → Int32} {post : Int32 → (Nat → Int32) → Prop} (h : TM T M 0) (hB : tB T) (hK : LK M) (hL : mLand (M 5)) (hp : ∀ z0, post (AN_psalm M a b c d) z0) : q_wx_X10_psalm_0 (T.2 1) (T.1 3) (T.1 6) (T.1 7) (T.2 2) (T.2 4) (T.2 5) (T.2 6) (T.1 10) (T.1 13) (T.1 14) (T.2 10) (T.2 12) (T.2 13) (T.2 14) pa_heard a b c d post := by
  unfold AN_psalm at hp
  rw [TM_cnt h 0 (by decide)] at hp
  refine e_at (hB.2.2.1 0) (fun (hno : ¬ (0 ≤ a ∧ a < T.2 1 0)) => ?_) (fun ea hla => ?_) (fun ea hla => ?_)
  · rw [if_neg hno] at hp
    exact ⟨fun _ => hp _, fun h9 => absurd h9 (by decide), fun h9 => absurd rfl h9⟩
  · rw [if_pos (by rw [ea]; exact ⟨by decide, hla⟩), ea] at hp
    have hR : RNG (rowM M 0 (nI 0)) := RNG_M hL (by decide)
    have hLD : LDR (T.1 3) (T.1 4) (T.1 5) (T.1 6) (T.1 7) (T.1 8) (T.1 9) (T.2 2) (T.2 3) (T.2 4) (T.2 5) (T.2 6) (T.2 7) (T.2 8) (T.2 9) (rowM M 0 (nI 0)) := TM_sl h 0 0 (by decide) (by decide) hla
    have hX := LX_of hR hLD
    have hOK : LOK (rowM M 0 (nI 0)) := LK_row hK (by decide) (by rw [TM_cnt h 0 (by decide)]; exact hla)
    obtain ⟨n, hn, hn9⟩ := ln_of hR
    refine ⟨fun h9 => absurd h9 (by decide), fun h9 => absurd h9 (by decide), fun _ _ => ?_⟩
    refine e_hhX (fun h => iz ?_) (fun h1 => oi ⟨fun c1 => ?_, fun c1 => ⟨fun c2 => ?_, fun c2 => ⟨fun d1 => ?_, fun d1 => ⟨fun d2 => ?_, fun d2 => ?_⟩⟩⟩⟩)
    · rw [if_neg (fun h9 => h (by rw [hX.1]; exact h9.1))] at hp; exact hp _
    · rw [if_neg (fun h9 => absurd c1 (Int32.not_lt.mpr h9.2.1.1))] at hp; exact hp _
    · rw [if_neg (fun h9 => absurd c2 (Int32.not_lt.mpr h9.2.1.2))] at hp; exact hp _
    · rw [if_neg (fun h9 => absurd d1 (Int32.not_lt.mpr h9.2.2.1))] at hp; exact hp _
    · rw [hX.1] at h1
      rw [if_pos ⟨h1, ⟨Int32.not_lt.mp c1, Int32.not_lt.mp c2⟩, Int32.not_lt.mp d1, d2⟩] at hp
      rw [hn] at h1
      obtain ⟨v, hv, eb⟩ := lt_n hn9 h1
      obtain ⟨noon, hno, ec⟩ := nI_of2 (M := 99) (n := 99) (by decide) c1 (Int32.not_lt.mp c2)
      subst eb ec
      rw [hn, cN_nI (by omega), cN_nI (by omega), cN_nI (by omega)] at hp
      unfold PSA at hp
      refine e_hearX hR hX hn hn9 (fun t' ht' => e_fromByX hn9 (hX.1.trans hn) hv rfl rfl (by omega) ht' ⟨fun w0 => ⟨fun s0 => ⟨fun w1 => ?_, fun w1 => ?_⟩, fun s0 => ?_⟩, fun w0 => ?_⟩)
      · rw [if_neg w0, if_neg s0, if_neg w1] at hp
        exact e_sooX hn9 (hX.1.trans hn) hv rfl ht' (hp _)
      · rw [if_neg w0, if_neg s0, if_pos w1] at hp
        refine e_highestX (td := rowM M 0 (nI 0)) hn9 (hX.1.trans hn) (fun j hj => hX.2.2.2.2.2.1 j (by omega) (by rw [hn]; exact nI_lt hj (by omega))) (fun h hh => ?_) (hp _)
        rw [hb_mkB (by omega) n (by omega), decide_eq_true hh, Bool.true_and]
      · rw [if_neg w0, if_pos s0] at hp; exact hp _
      · rw [if_pos w0] at hp; exact hp _
    · rw [if_neg (fun h9 => d2 h9.2.2.2)] at hp; exact hp _
  · rw [if_pos (by rw [ea]; exact ⟨by decide, hla⟩), ea] at hp
    have hR : RNG (rowM M 0 (nI 1)) := RNG_M hL (by decide)
    have hLD : LDR (T.1 10) (T.1 11) (T.1 12) (T.1 13) (T.1 14) (T.1 15) (T.1 16) (T.2 10) (T.2 11) (T.2 12) (T.2 13) (T.2 14) (T.2 15) (T.2 16) (T.2 17) (rowM M 0 (nI 1)) := TM_sl h 0 1 (by decide) (by decide) hla
    have hX := LX_of hR hLD
    have hOK : LOK (rowM M 0 (nI 1)) := LK_row hK (by decide) (by rw [TM_cnt h 0 (by decide)]; exact hla)
    obtain ⟨n, hn, hn9⟩ := ln_of hR
    refine ⟨fun h9 => absurd h9 (by decide), fun _ => ?_, fun _ h9 => absurd rfl h9⟩
    refine e_hhX (fun h => iz ?_) (fun h1 => oi ⟨fun c1 => ?_, fun c1 => ⟨fun c2 => ?_, fun c2 => ⟨fun d1 => ?_, fun d1 => ⟨fun d2 => ?_, fun d2 => ?_⟩⟩⟩⟩)
    · rw [if_neg (fun h9 => h (by rw [hX.1]; exact h9.1))] at hp; exact hp _
    · rw [if_neg (fun h9 => absurd c1 (Int32.not_lt.mpr h9.2.1.1))] at hp; exact hp _
    · rw [if_neg (fun h9 => absurd c2 (Int32.not_lt.mpr h9.2.1.2))] at hp; exact hp _
    · rw [if_neg (fun h9 => absurd d1 (Int32.not_lt.mpr h9.2.2.1))] at hp; exact hp _
    · rw [hX.1] at h1
      rw [if_pos ⟨h1, ⟨Int32.not_lt.mp c1, Int32.not_lt.mp c2⟩, Int32.not_lt.mp d1, d2⟩] at hp
      rw [hn] at h1
      obtain ⟨v, hv, eb⟩ := lt_n hn9 h1
      obtain ⟨noon, hno, ec⟩ := nI_of2 (M := 99) (n := 99) (by decide) c1 (Int32.not_lt.mp c2)
      subst eb ec
      rw [hn, cN_nI (by omega), cN_nI (by omega), cN_nI (by omega)] at hp
      unfold PSA at hp
      refine e_hearX hR hX hn hn9 (fun t' ht' => e_fromByX hn9 (hX.1.trans hn) hv rfl rfl (by omega) ht' ⟨fun w0 => ⟨fun s0 => ⟨fun w1 => ?_, fun w1 => ?_⟩, fun s0 => ?_⟩, fun w0 => ?_⟩)
      · rw [if_neg w0, if_neg s0, if_neg w1] at hp
        exact e_sooX hn9 (hX.1.trans hn) hv rfl ht' (hp _)
      · rw [if_neg w0, if_neg s0, if_pos w1] at hp
        refine e_highestX (td := rowM M 0 (nI 1)) hn9 (hX.1.trans hn) (fun j hj => hX.2.2.2.2.2.1 j (by omega) (by rw [hn]; exact nI_lt hj (by omega))) (fun h hh => ?_) (hp _)
        rw [hb_mkB (by omega) n (by omega), decide_eq_true hh, Bool.true_and]
      · rw [if_neg w0, if_pos s0] at hp; exact hp _
      · rw [if_pos w0] at hp; exact hp _
    · rw [if_neg (fun h9 => d2 h9.2.2.2)] at hp; exact hp _

def JG (td : Nat → Int32) (n a b h : Nat) : Nat := max (RUN td (td 3) n a h) (RUN td (td 3) n b h)
def AN_join (M : Nat → Nat → Int32) (a b c d : Int32) : Int32 := if 0 ≤ a ∧ a < M 4 0 then (if (0 ≤ b ∧ b < rowM M 0 a 0) ∧ (0 ≤ c ∧ c < rowM M 0 a 0) then AM (JG (rowM M 0 a) (cN (rowM M 0 a 0)) (cN b) (cN c)) (cN (rowM M 0 a 0)) d else -1) else -1
theorem RUN_dam {td : Nat → Int32} {n a h : Nat} (hd : dam td a = true) : 1000 ≤ RUN td (td 3) n a h := by
  refine fw_row (t := t0F (EL td (td 3)) (WL td) 1000) (fun b => ?_) n h
  unfold t0F EL
  rw [show hb (td 3) a = true from hd]
  simp
set_option maxRecDepth 40000 in
set_option maxHeartbeats 4000000 in
theorem e_m_join {M : Nat → Nat → Int32} {f_code f_land f_huts f_singers a b c d : Int32} {a_run a_other : Nat → Int32} {post : Int32 → (Int32) → (Int32) → (Int32) → (Int32) → (Nat → Int32) → (Nat → Int32) → Prop} (hc : ∀ o, iv 0 2 (M 4 o)) (hL : mLand (M 5)) (hK : LK M) (hp : ∀ z0 z1 z2 z3 z4 z5, post (AN_join M a b c d) z0 z1 z2 z3 z4 z5) : q_m_join_0 f_code (M 4) (M 5) f_land f_huts f_singers a_run a_other a b c d post := by
  unfold AN_join at hp
  refine e_hand (hc 0) (fun hno => iz ?_) (fun k hk ea hy => oi ?_)
  · rw [if_neg hno] at hp; exact hp _ _ _ _ _ _
  rw [if_pos hy] at hp
  subst ea
  have hO : LOK (rowM M 0 (nI k)) := LK_row hK hk hy.2
  have hR : RNG (rowM M 0 (nI k)) := RNG_M hL hk
  obtain ⟨n, hn, hn9⟩ := ln_of hR
  have b0 : iv 0 9 (tdM M k 0) := hR 0 (by omega)
  refine e_isHutM b0 (fun h => iz ?_) (fun h1 => oi (e_isHutM b0 (fun h => zi ?_) (fun h2 => io ?_)))
  · rw [if_neg (fun h9 => h h9.1)] at hp; exact hp _ _ _ _ _ _
  · rw [if_neg (fun h9 => h h9.2)] at hp; exact hp _ _ _ _ _ _
  rw [if_pos ⟨h1, h2⟩] at hp
  rw [hn] at h1 h2
  obtain ⟨f, hf, eb⟩ := lt_n hn9 h1
  obtain ⟨g, hg, ec⟩ := lt_n hn9 h2
  subst eb ec
  rw [hn, cN_nI (by omega), cN_nI (by omega), cN_nI (by omega)] at hp
  refine e_run0M hk hL hO hn hn9 hf rfl (fun run1 hr1 => ?_)
  intro P hP
  have loop : ∀ m h (ot : Nat → Int32), m = n - h → h ≤ n → (∀ j, j < h → ot j = nI (upF (RUN (tdM M k) (tdM M k 3) n f j))) → P (nI h) ot := by
    intro m
    induction m using Nat.strongRecOn with
    | ind m ih =>
      intro h ot hm hh hI
      apply hP
      refine pk_le n h (fun h9 => ?_) (fun h9 => ?_) hn
      · refine e_run0M hk hL hO hn hn9 hg rfl (fun run2 hr2 => ?_)
        intro P2 hP2
        have loop2 : ∀ m j, m = n - j → j ≤ n → P2 (argm (JG (tdM M k) n f g) j).1 (nI (upF (argm (JG (tdM M k) n f g) j).2)) (nI j) := by
          intro m
          induction m using Nat.strongRecOn with
          | ind m ih2 =>
            intro j hm2 hj
            apply hP2
            obtain ⟨b1, b2⟩ := argm_ok (g := JG (tdM M k) n f g) j
            refine pk_le n j (fun h8 => ?_) (fun h8 => ?_) hn
            · have e : j = n := by omega
              subst e
              unfold AM at hp
              refine ⟨fun q => ?_, fun q => ⟨fun q1 => ?_, fun q1 => ?_⟩⟩
              · rw [if_pos (Or.inl q)] at hp; exact hp _ _ _ _ _ _
              · rw [if_neg (fun q2 => by rcases q2 with q2 | q2; exact q q2; exact q1 q2)] at hp
                rcases b2 with b2 | ⟨_, _, _, b4⟩
                · exact absurd b2 q
                · rw [show upF (argm (JG (tdM M k) j f g) j).2 = (argm (JG (tdM M k) j f g) j).2 by unfold upF; rw [if_pos b4]]
                  exact hp _ _ _ _ _ _
              · rw [if_pos (Or.inr q1)] at hp; exact hp _ _ _ _ _ _
            · have hin : vp_in (nI j) 9 := vp_in_nI (by omega) (by omega)
              refine ⟨hin, hin, ?_⟩
              rw [nI_clamp (by omega), hr2 j h8, hI j (by omega)]
              refine e_grM upF_b upF_b ?_
              rw [upF_max, show max (RUN (tdM M k) (tdM M k 3) n g j) (RUN (tdM M k) (tdM M k 3) n f j) = JG (tdM M k) n f g j by unfold JG; omega]
              have lj : JG (tdM M k) n f g j ≤ 1000 := by
                have := RUN_le (td := tdM M k) (sh := tdM M k 3) (n := n) (a := f) (b := j)
                have := RUN_le (td := tdM M k) (sh := tdM M k 3) (n := n) (a := g) (b := j)
                unfold JG; omega
              have e : argm (JG (tdM M k) n f g) (j + 1) = if JG (tdM M k) n f g j < (argm (JG (tdM M k) n f g) j).2 then (nI j, JG (tdM M k) n f g j) else argm (JG (tdM M k) n f g) j := rfl
              have nx : ∀ x : Int32, x = (argm (JG (tdM M k) n f g) (j + 1)).1 → q_m_join_128 P2 0 (M 4) (M 5) (nI k) (tdM M k 0) (tdM M k 1) run2 ot d (nI (upF (argm (JG (tdM M k) n f g) j).2)) (nI j) (nI (upF (JG (tdM M k) n f g j))) x post := by
                intro x hx
                refine e_lessM upF_b upF_b (fun v ev => ?_)
                rw [ev, hx, nI_1, upF_min, show min (argm (JG (tdM M k) n f g) j).2 (JG (tdM M k) n f g j) = (argm (JG (tdM M k) n f g) (j + 1)).2 by
                  rw [e]
                  by_cases hc : JG (tdM M k) n f g j < (argm (JG (tdM M k) n f g) j).2
                  · rw [if_pos hc]; show min _ _ = JG (tdM M k) n f g j; omega
                  · rw [if_neg hc]; omega]
                exact ih2 (n - (j + 1)) (by omega) (j + 1) rfl (by omega)
              have q1 := upF_lt lj b1
              have q2 : upF (argm (JG (tdM M k) n f g) j).2 < 2 ^ 30 := upF_b
              have q3 : upF (JG (tdM M k) n f g j) < 2 ^ 30 := upF_b
              refine pk_le (upF (argm (JG (tdM M k) n f g) j).2) (upF (JG (tdM M k) n f g j)) (fun hle => nx _ ?_) (fun hlt => nx _ ?_) rfl rfl (by omega) (by omega)
              · rw [e, if_neg (fun q => by have := q1.mpr q; omega)]
              · rw [e, if_pos (q1.mp hlt)]
        exact loop2 _ 0 rfl (by omega)
      · have hin : vp_in (nI h) 9 := vp_in_nI (by omega) (by omega)
        refine ⟨hin, fun v ev => ⟨hin, fun ot' eo v2 ev2 => ?_⟩⟩
        rw [ev2, nI_1]
        rw [nI_clamp (by omega), hr1 h h9] at ev
        rw [nI_clamp (by omega)] at eo
        refine ih (n - (h + 1)) (by omega) (h + 1) ot' rfl (by omega) (fun j hj => ?_)
        rw [eo]
        by_cases e : j = h
        · subst e; rw [up_s, ev]
        · rw [up_n e]; exact hI j (by omega)
  exact loop _ 0 _ rfl (by omega) (fun j hj => absurd hj (Nat.not_lt_zero j))
theorem e_isOpenX {c dm x : Int32} {n : Nat} {post : Int32 → Prop} {td : Nat → Int32} (hn9 : n ≤ 9) (hc : c = nI n) (hd : dm = td 3) (h0 : ¬ (0 ≤ x ∧ x < nI n) → post 0) (h1 : ∀ k, k < n → x = nI k → dam td k = true → post 0) (h2 : ∀ k, k < n → x = nI k → dam td k = false → post 1) : q_wl_X2_isOpen_0 c dm x post := by
  subst hc hd
  unfold q_wl_X2_isOpen_0
  refine e_hhX (fun h => iz (h0 h)) (fun h => oi ?_)
  obtain ⟨k, hk, e⟩ := lt_n hn9 h
  subst e
  exact e_damX (by omega) (fun hd => zi (h2 k hk rfl hd)) (fun hd => io (h1 k hk rfl hd))
set_option maxRecDepth 40000 in
set_option maxHeartbeats 4000000 in
theorem e_x_join {T : TT} {M : Nat → Nat → Int32} {a b c d : Int32} {pa_heard : Nat → Int32} {post : Int32 → (Nat → Int32) → Prop} (h : TM T M 0) (hB : tB T) (hK : LK M) (hL : mLand (M 5)) (hp : ∀ z0, post (AN_join M a b c d) z0) : q_wx_X10_join_0 (T.2 1) (T.1 3) (T.1 6) (T.1 7) (T.2 2) (T.2 4) (T.2 5) (T.2 6) (T.1 10) (T.1 13) (T.1 14) (T.2 10) (T.2 12) (T.2 13) (T.2 14) pa_heard a b c d post := by
  unfold AN_join at hp
  rw [TM_cnt h 0 (by decide)] at hp
  refine e_at (hB.2.2.1 0) (fun (hno : ¬ (0 ≤ a ∧ a < T.2 1 0)) => ?_) (fun ea hla => ?_) (fun ea hla => ?_)
  · rw [if_neg hno] at hp
    exact ⟨fun _ => hp _, fun h9 => absurd h9 (by decide), fun h9 => absurd rfl h9⟩
  · rw [if_pos (by rw [ea]; exact ⟨by decide, hla⟩), ea] at hp
    have hR : RNG (rowM M 0 (nI 0)) := RNG_M hL (by decide)
    have hLD : LDR (T.1 3) (T.1 4) (T.1 5) (T.1 6) (T.1 7) (T.1 8) (T.1 9) (T.2 2) (T.2 3) (T.2 4) (T.2 5) (T.2 6) (T.2 7) (T.2 8) (T.2 9) (rowM M 0 (nI 0)) := TM_sl h 0 0 (by decide) (by decide) hla
    have hX := LX_of hR hLD
    have hOK : LOK (rowM M 0 (nI 0)) := LK_row hK (by decide) (by rw [TM_cnt h 0 (by decide)]; exact hla)
    obtain ⟨n, hn, hn9⟩ := ln_of hR
    refine ⟨fun h9 => absurd h9 (by decide), fun h9 => absurd h9 (by decide), fun _ _ => ?_⟩
    have far : ∀ f g, f < n → g < n → (dam (rowM M 0 (nI 0)) f = true ∨ dam (rowM M 0 (nI 0)) g = true) → AM (JG (rowM M 0 (nI 0)) n f g) n d = -1 := by
      intro f g _ _ hfg
      unfold AM
      rw [argm_far n (fun h _ => by
        unfold JG
        rcases hfg with q | q
        · have := RUN_dam (n := n) (h := h) q; omega
        · have := RUN_dam (n := n) (h := h) q; omega), if_pos (Or.inl rfl)]
    have hb0 : ∀ f, f < n → ¬ (0 ≤ c ∧ c < nI n) → ∀ z0, post (-1) z0 := by
      intro f hf hc z0
      rw [if_neg (fun h9 => hc (by rw [← hn]; exact h9.2))] at hp
      exact hp z0
    refine e_isOpenX hn9 (hX.1.trans hn) hX.2.2.1 (fun h => iz ?_) (fun f hf eb hd => iz ?_) (fun f hf eb hd => oi (e_isOpenX hn9 (hX.1.trans hn) hX.2.2.1 (fun h => zi ?_) (fun g hg ec hd2 => zi ?_) (fun g hg ec hd2 => io ?_)))
    · rw [if_neg (fun h9 => h (by rw [← hn]; exact h9.1))] at hp; exact hp _
    · by_cases hc : 0 ≤ c ∧ c < nI n
      · obtain ⟨g, hg, ec⟩ := lt_n hn9 hc
        subst eb ec
        rw [hn, if_pos ⟨⟨nI_pos' (by omega), nI_lt hf (by omega)⟩, hc⟩, cN_nI (by omega), cN_nI (by omega), cN_nI (by omega), far f g hf hg (Or.inl hd)] at hp
        exact hp _
      · exact hb0 f hf hc _
    · exact hb0 f hf h _
    · subst eb ec
      rw [hn, if_pos ⟨⟨nI_pos' (by omega), nI_lt hf (by omega)⟩, nI_pos' (by omega), nI_lt hg (by omega)⟩, cN_nI (by omega), cN_nI (by omega), cN_nI (by omega), far f g hf hg (Or.inr hd2)] at hp
      exact hp _
    · subst eb ec
      rw [hn, if_pos ⟨⟨nI_pos' (by omega), nI_lt hf (by omega)⟩, nI_pos' (by omega), nI_lt hg (by omega)⟩, cN_nI (by omega), cN_nI (by omega), cN_nI (by omega)] at hp
      exact e_hearX hR hX hn hn9 (fun t' ht' => e_tog1 hn9 (hX.1.trans hn) hf hg rfl rfl (fun h hh => ht' f h hf hh) (fun h hh => ht' g h hg hh) (fun h => RUN_le) (fun h => RUN_le) (fun h _ => rfl) (hp _))
  · rw [if_pos (by rw [ea]; exact ⟨by decide, hla⟩), ea] at hp
    have hR : RNG (rowM M 0 (nI 1)) := RNG_M hL (by decide)
    have hLD : LDR (T.1 10) (T.1 11) (T.1 12) (T.1 13) (T.1 14) (T.1 15) (T.1 16) (T.2 10) (T.2 11) (T.2 12) (T.2 13) (T.2 14) (T.2 15) (T.2 16) (T.2 17) (rowM M 0 (nI 1)) := TM_sl h 0 1 (by decide) (by decide) hla
    have hX := LX_of hR hLD
    have hOK : LOK (rowM M 0 (nI 1)) := LK_row hK (by decide) (by rw [TM_cnt h 0 (by decide)]; exact hla)
    obtain ⟨n, hn, hn9⟩ := ln_of hR
    refine ⟨fun h9 => absurd h9 (by decide), fun _ => ?_, fun _ h9 => absurd rfl h9⟩
    have far : ∀ f g, f < n → g < n → (dam (rowM M 0 (nI 1)) f = true ∨ dam (rowM M 0 (nI 1)) g = true) → AM (JG (rowM M 0 (nI 1)) n f g) n d = -1 := by
      intro f g _ _ hfg
      unfold AM
      rw [argm_far n (fun h _ => by
        unfold JG
        rcases hfg with q | q
        · have := RUN_dam (n := n) (h := h) q; omega
        · have := RUN_dam (n := n) (h := h) q; omega), if_pos (Or.inl rfl)]
    have hb0 : ∀ f, f < n → ¬ (0 ≤ c ∧ c < nI n) → ∀ z0, post (-1) z0 := by
      intro f hf hc z0
      rw [if_neg (fun h9 => hc (by rw [← hn]; exact h9.2))] at hp
      exact hp z0
    refine e_isOpenX hn9 (hX.1.trans hn) hX.2.2.1 (fun h => iz ?_) (fun f hf eb hd => iz ?_) (fun f hf eb hd => oi (e_isOpenX hn9 (hX.1.trans hn) hX.2.2.1 (fun h => zi ?_) (fun g hg ec hd2 => zi ?_) (fun g hg ec hd2 => io ?_)))
    · rw [if_neg (fun h9 => h (by rw [← hn]; exact h9.1))] at hp; exact hp _
    · by_cases hc : 0 ≤ c ∧ c < nI n
      · obtain ⟨g, hg, ec⟩ := lt_n hn9 hc
        subst eb ec
        rw [hn, if_pos ⟨⟨nI_pos' (by omega), nI_lt hf (by omega)⟩, hc⟩, cN_nI (by omega), cN_nI (by omega), cN_nI (by omega), far f g hf hg (Or.inl hd)] at hp
        exact hp _
      · exact hb0 f hf hc _
    · exact hb0 f hf h _
    · subst eb ec
      rw [hn, if_pos ⟨⟨nI_pos' (by omega), nI_lt hf (by omega)⟩, nI_pos' (by omega), nI_lt hg (by omega)⟩, cN_nI (by omega), cN_nI (by omega), cN_nI (by omega), far f g hf hg (Or.inr hd2)] at hp
      exact hp _
    · subst eb ec
      rw [hn, if_pos ⟨⟨nI_pos' (by omega), nI_lt hf (by omega)⟩, nI_pos' (by omega), nI_lt hg (by omega)⟩, cN_nI (by omega), cN_nI (by omega), cN_nI (by omega)] at hp
      exact e_hearX hR hX hn hn9 (fun t' ht' => e_tog1 hn9 (hX.1.trans hn) hf hg rfl rfl (fun h hh => ht' f h hf hh) (fun h hh => ht' g h hg hh) (fun h => RUN_le) (fun h => RUN_le) (fun h _ => rfl) (hp _))
end
section
def E2 (td : Nat → Int32) (a b : Nat) : Bool := decide (a = b) || decide (0 < td (51 + 9 * a + b))
def W2 (td : Nat → Int32) (a b : Nat) : Nat := if a = b then 0 else min 9 (cN (td (51 + 9 * a + b)))
theorem W2_le {td : Nat → Int32} (a b : Nat) : W2 td a b ≤ 9 := by
  unfold W2
  split <;> omega
theorem W2_0 {td : Nat → Int32} (a : Nat) : W2 td a a = 0 := by
  unfold W2
  rw [if_pos rfl]
theorem E2_0 {td : Nat → Int32} (a : Nat) : E2 td a a = true := by
  unfold E2
  rw [decide_eq_true rfl]
  rfl
/-- the way on foot -/
def WK (td : Nat → Int32) (n a b : Nat) : Nat := SD (E2 td) (W2 td) 1000 n a b
theorem WK_le {td : Nat → Int32} {n a b : Nat} : WK td n a b ≤ 1000 := SD_le W2_le (by omega) a b
theorem t0F_le {E : Nat → Nat → Bool} {W : Nat → Nat → Nat} {F : Nat} (hW : ∀ a b, W a b ≤ 9) (hF : 9 ≤ F) (a b : Nat) : t0F E W F a b ≤ F := by
  unfold t0F
  split
  · have := hW a b; omega
  · exact Nat.le_refl _
theorem e_walkW {td t : Nat → Int32} {n : Nat} {huts : Int32} {minutes : Nat → Int32} {post : (Nat → Int32) → Prop} (hR : RNG td) (hn9 : n ≤ 9) (h0 : huts = nI n) (hm : ∀ j, j < 81 → minutes j = td (51 + j)) (hp : ∀ t', (∀ a b, a < n → b < n → t' (9 * a + b) = nI (WK td n a b)) → post t') : q_wp_X7_walk_9_0 t huts minutes post := by
  refine e_fill81_2 (fun t0 ht0 => ?_)
  have ei : ∀ a b : Nat, (nI a * 9) + nI b = nI (9 * a + b) := fun a b => by rw [jx9, Nat.mul_comm]
  intro P hP
  have loop : ∀ m a (t : Nat → Int32), m = n - a → a ≤ n → (∀ a' b, a' < a → b < n → t (9 * a' + b) = nI (t0F (E2 td) (W2 td) 1000 a' b)) → (∀ a' b, a ≤ a' → a' < 9 → b < 9 → t (9 * a' + b) = 1000) → P (nI a) t := by
    intro m
    induction m using Nat.strongRecOn with
    | ind m ih =>
      intro a t hma ha h1 h2
      apply hP
      refine pk_le n a (fun h9 => ?_) (fun h9 => ?_) h0
      · exact e_shorten2 (m := t0F (E2 td) (W2 td) 1000) hn9 h0 (t0F_le W2_le (by omega)) (fun a' b ha' hb1 => h1 a' b (by omega) hb1) hp
      · intro P2 hP2
        have loop2 : ∀ m b (t : Nat → Int32), m = n - b → b ≤ n → (∀ a' b, a' < a → b < n → t (9 * a' + b) = nI (t0F (E2 td) (W2 td) 1000 a' b)) → (∀ a' b, a < a' → a' < 9 → b < 9 → t (9 * a' + b) = 1000) → (∀ b', b' < 9 → t (9 * a + b') = if b' < b ∧ 0 < td (51 + 9 * a + b') then td (51 + 9 * a + b') else 1000) → P2 (nI b) t := by
          intro m
          induction m using Nat.strongRecOn with
          | ind m ih2 =>
            intro b t hm2 hbn g1 g2 g3
            apply hP2
            refine pk_le n b (fun h8 => ?_) (fun h8 => ?_) h0
            · rw [ei]
              refine ⟨vp_in_nI (by omega) (by omega), fun t' et v ev => ?_⟩
              rw [ev, nI_1]
              rw [nI_clamp (by omega)] at et
              refine ih (n - (a + 1)) (by omega) (a + 1) t' rfl (by omega) (fun a' b' ha' hb' => ?_) (fun a' b' ha' h9' hb' => ?_)
              · rw [et]
                by_cases e : a' = a
                · subst e
                  by_cases e2 : b' = a'
                  · subst e2
                    rw [up_s]
                    unfold t0F
                    rw [if_pos (E2_0 b'), W2_0]
                    rfl
                  · rw [up_n (by omega), g3 b' (by omega)]
                    unfold t0F E2 W2
                    rw [decide_eq_false (fun h => e2 h.symm), Bool.false_or]
                    obtain ⟨w, ew, -, hw9, -⟩ := iv_nI (way_iv hR (show a' < 9 by omega) (show b' < 9 by omega)) (by decide)
                    rw [if_neg (fun h : a' = b' => e2 h.symm), ew, cN_nI (by omega), show min 9 w = w by omega]
                    by_cases q : 0 < nI w
                    · rw [if_pos ⟨by omega, q⟩, if_pos (decide_eq_true q)]
                    · rw [if_neg (fun h => q h.2), if_neg (by rw [decide_eq_false q]; decide)]
                      rfl
                · rw [up_n (by omega)]
                  exact g1 a' b' (by omega) hb'
              · rw [et, up_n (by omega)]
                exact g2 a' b' (by omega) h9' hb'
            · rw [ei]
              have nx : ∀ t' : Nat → Int32, (∀ j, ¬ j = 9 * a + b → t' j = t j) → t' (9 * a + b) = (if 0 < td (51 + 9 * a + b) then td (51 + 9 * a + b) else 1000) → q_wp_X7_walk_9_61 P P2 t' huts minutes (nI a) (nI b) post := by
                intro t' k1 k2 v ev
                rw [ev, nI_1]
                refine ih2 (n - (b + 1)) (by omega) (b + 1) t' rfl (by omega) (fun a' b' ha' hb' => ?_) (fun a' b' ha' h9' hb' => ?_) (fun b' hb' => ?_)
                · rw [k1 _ (by omega)]; exact g1 a' b' ha' hb'
                · rw [k1 _ (by omega)]; exact g2 a' b' ha' h9' hb'
                · by_cases e : b' = b
                  · subst e
                    rw [k2]
                    by_cases hl : 0 < td (51 + 9 * a + b')
                    · rw [if_pos hl, if_pos ⟨Nat.lt_succ_self b', hl⟩]
                    · rw [if_neg hl, if_neg (fun q => hl q.2)]
                  · rw [k1 _ (by omega), g3 b' hb']
                    by_cases hl : b' < b ∧ 0 < td (51 + 9 * a + b')
                    · rw [if_pos hl, if_pos ⟨by omega, hl.2⟩]
                    · rw [if_neg hl, if_neg (fun q => hl ⟨by omega, q.2⟩)]
              have hrow := g3 b (by omega)
              rw [if_neg (fun q => absurd q.1 (Nat.lt_irrefl b))] at hrow
              refine ⟨vp_in_nI (by omega) (by omega), fun v ev => ?_⟩
              rw [nI_clamp (by omega), hm (9 * a + b) (by omega), show 51 + (9 * a + b) = 51 + 9 * a + b by omega] at ev
              refine ⟨fun hle => nx t (fun _ _ => rfl) ?_, fun hlt => ⟨vp_in_nI (by omega) (by omega), fun t' et => nx t' (fun j hj => ?_) ?_⟩⟩
              · rw [hrow, if_neg (fun q => ?_)]
                rw [ev] at hle
                exact absurd hle (Int32.not_le.mpr q)
              · rw [et, nI_clamp (by omega), up_n hj]
              · rw [et, nI_clamp (by omega), up_s, ev]
                rw [ev] at hlt
                rw [if_pos (Int32.not_le.mp hlt)]
        exact loop2 _ 0 t rfl (by omega) h1 (fun a' b ha' h9' hb1 => h2 a' b (by omega) h9' hb1) (fun b' hb' => by rw [if_neg (fun q => absurd q.1 (Nat.not_lt_zero b'))]; exact h2 a b' (Nat.le_refl a) (by omega) hb')
  exact loop _ 0 t0 rfl (by omega) (fun a' b ha' => absurd ha' (Nat.not_lt_zero a')) (fun a' b _ ha' hb1 => ht0 _ (by omega))
theorem e_farM {M : Nat → Nat → Int32} {far : Nat → Int32} {k n : Nat} {post : (Nat → Int32) → Prop} (hk : k < 2) (hL : mLand (M 5)) (hn : tdM M k 0 = nI n) (hn9 : n ≤ 9) (hp : ∀ far', (∀ a b, a < n → b < n → far' (9 * a + b) = nI (upF (WK (tdM M k) n a b))) → post far') : q_m_findFar_0 (M 5) (nI k) (tdM M k 0) far post := by
  have hR : RNG (tdM M k) := fun j hj => row_iv hL hk hj
  have ei : ∀ a b : Nat, ((9 : Int32) * nI a) + nI b = nI (9 * a + b) := fun a b => by rw [show (9 : Int32) = nI 9 from rfl, pk_mul, nI_add]
  have hu : ∀ {A B : Prop} (x : Nat), x < 2 ^ 31 → (n ≤ x → A) → (x < n → B) → (tdM M k 0 ≤ nI x → A) ∧ (¬ tdM M k 0 ≤ nI x → B) := fun x hx f g => pk_le n x f g hn rfl (by omega) hx
  have st : ∀ k' a b, fw (t0F (E2 (tdM M k)) (W2 (tdM M k)) 1000000) (k' + 1) a b = min (fw (t0F (E2 (tdM M k)) (W2 (tdM M k)) 1000000) k' a b) (fw (t0F (E2 (tdM M k)) (W2 (tdM M k)) 1000000) k' a k' + fw (t0F (E2 (tdM M k)) (W2 (tdM M k)) 1000000) k' k' b) := fun _ _ _ => rfl
  have le : ∀ k' a b, fw (t0F (E2 (tdM M k)) (W2 (tdM M k)) 1000000) k' a b ≤ 1000000 := fw_le (t0F_le W2_le (by omega))
  -- the stages
  have stages : ∀ far : Nat → Int32, (∀ a b, a < n → b < n → far (9 * a + b) = nI (t0F (E2 (tdM M k)) (W2 (tdM M k)) 1000000 a b)) → q_m_findFar_75 (M 5) (nI k) (tdM M k 0) far 0 post := by
    intro far hf
    intro P hP
    have loop : ∀ w s (t : Nat → Int32), w = n - s → s ≤ n → (∀ a b, a < n → b < n → t (9 * a + b) = nI (fw (t0F (E2 (tdM M k)) (W2 (tdM M k)) 1000000) s a b)) → P (nI s) t := by
      intro w
      induction w using Nat.strongRecOn with
      | ind w ih =>
        intro s t hw hs ht
        apply hP
        refine hu s (by omega) (fun h9 => ?_) (fun h9 => ?_)
        · refine hp t (fun a b ha hb1 => ?_)
          have e : s = n := by omega
          subst e
          rw [ht a b ha hb1]
          have := SD_F (E := E2 (tdM M k)) (W := W2 (tdM M k)) W2_le hn9 (fun a _ => E2_0 a) W2_0 ha hb1
          show nI (SD (E2 (tdM M k)) (W2 (tdM M k)) 1000000 s a b) = _
          rw [this]
          rfl
        · intro P2 hP2
          have loop2 : ∀ w a (t : Nat → Int32), w = n - a → a ≤ n → (∀ a' b, a' < a → b < n → t (9 * a' + b) = nI (fw (t0F (E2 (tdM M k)) (W2 (tdM M k)) 1000000) (s + 1) a' b)) → (∀ a' b, a ≤ a' → a' < n → b < n → t (9 * a' + b) = nI (fw (t0F (E2 (tdM M k)) (W2 (tdM M k)) 1000000) s a' b)) → P2 (nI a) t := by
            intro w
            induction w using Nat.strongRecOn with
            | ind w ih2 =>
              intro a t hw2 ha t1 t2
              apply hP2
              refine hu a (by omega) (fun h8 v ev => ?_) (fun h8 => ?_)
              · rw [ev, nI_1]
                exact ih (n - (s + 1)) (by omega) (s + 1) t rfl (by omega) (fun a' b ha' hb1 => t1 a' b (by omega) hb1)
              · intro P3 hP3
                have loop3 : ∀ w b (t : Nat → Int32), w = n - b → b ≤ n → (∀ a' b, a' < a → b < n → t (9 * a' + b) = nI (fw (t0F (E2 (tdM M k)) (W2 (tdM M k)) 1000000) (s + 1) a' b)) → (∀ b', b' < b → t (9 * a + b') = nI (fw (t0F (E2 (tdM M k)) (W2 (tdM M k)) 1000000) (s + 1) a b')) → (∀ b', b ≤ b' → b' < n → t (9 * a + b') = nI (fw (t0F (E2 (tdM M k)) (W2 (tdM M k)) 1000000) s a b')) → (∀ a' b, a < a' → a' < n → b < n → t (9 * a' + b) = nI (fw (t0F (E2 (tdM M k)) (W2 (tdM M k)) 1000000) s a' b)) → P3 (nI b) t := by
                  intro w
                  induction w using Nat.strongRecOn with
                  | ind w ih3 =>
                    intro b t hw3 hbn r1 r2 r3 r4
                    apply hP3
                    refine hu b (by omega) (fun h7 v ev => ?_) (fun h7 => ?_)
                    · rw [ev, nI_1]
                      exact ih2 (n - (a + 1)) (by omega) (a + 1) t rfl (by omega) (fun a' b' ha' hb' => by
                        by_cases e : a' = a
                        · subst e; exact r2 b' (by omega)
                        · exact r1 a' b' (by omega) hb') (fun a' b' ha' hn' hb' => r4 a' b' (by omega) hn' hb')
                    · rw [ei a b, ei a s, ei s b]
                      have hin1 : vp_in (nI (9 * a + b)) 81 := vp_in_nI (by omega) (by omega)
                      have has : t (9 * a + s) = nI (fw (t0F (E2 (tdM M k)) (W2 (tdM M k)) 1000000) s a s) := by
                        by_cases e : s < b
                        · rw [r2 s e, st]
                          rw [show min (fw (t0F (E2 (tdM M k)) (W2 (tdM M k)) 1000000) s a s) (fw (t0F (E2 (tdM M k)) (W2 (tdM M k)) 1000000) s a s + fw (t0F (E2 (tdM M k)) (W2 (tdM M k)) 1000000) s s s) = fw (t0F (E2 (tdM M k)) (W2 (tdM M k)) 1000000) s a s by omega]
                        · exact r3 s (by omega) h9
                      have hsb : t (9 * s + b) = nI (fw (t0F (E2 (tdM M k)) (W2 (tdM M k)) 1000000) s s b) := by
                        by_cases e1 : s < a
                        · rw [r1 s b e1 h7, st]
                          rw [show min (fw (t0F (E2 (tdM M k)) (W2 (tdM M k)) 1000000) s s b) (fw (t0F (E2 (tdM M k)) (W2 (tdM M k)) 1000000) s s s + fw (t0F (E2 (tdM M k)) (W2 (tdM M k)) 1000000) s s b) = fw (t0F (E2 (tdM M k)) (W2 (tdM M k)) 1000000) s s b by omega]
                        · by_cases e2 : s = a
                          · subst e2; exact r3 b (Nat.le_refl b) h7
                          · exact r4 s b (by omega) h9 h7
                      refine ⟨hin1, vp_in_nI (by omega) (by omega), vp_in_nI (by omega) (by omega), ?_⟩
                      rw [nI_clamp (by omega), nI_clamp (by omega), nI_clamp (by omega), has, hsb, r3 b (Nat.le_refl b) h7, nI_add]
                      have l1 := le s a b
                      have l2 := le s a s
                      have l3 := le s s b
                      refine e_lessM (by omega) (by omega) ⟨hin1, fun t' et v ev => ?_⟩
                      rw [ev, nI_1]
                      refine ih3 (n - (b + 1)) (by omega) (b + 1) t' rfl (by omega) (fun a' b' ha' hb' => ?_) (fun b' hb' => ?_) (fun b' hb1 hb2 => ?_) (fun a' b' ha' hn' hb' => ?_)
                      · rw [et, up_n (by omega)]; exact r1 a' b' ha' hb'
                      · by_cases e : b' = b
                        · subst e; rw [et, up_s, st]
                        · rw [et, up_n (by omega)]; exact r2 b' (by omega)
                      · rw [et, up_n (by omega)]; exact r3 b' (by omega) hb2
                      · rw [et, up_n (by omega)]; exact r4 a' b' ha' hn' hb'
                exact loop3 _ 0 t rfl (by omega) t1 (fun b' hb' => absurd hb' (Nat.not_lt_zero b')) (fun b' _ hb' => t2 a b' (Nat.le_refl a) h8 hb') (fun a' b' ha' hn' hb' => t2 a' b' (by omega) hn' hb')
          exact loop2 _ 0 t rfl (by omega) (fun a' b ha' => absurd ha' (Nat.not_lt_zero a')) (fun a' b _ ha' hb1 => ht a' b ha' hb1)
    exact loop _ 0 far rfl (by omega) hf
  -- the start
  intro P hP
  have loop : ∀ m a (t : Nat → Int32), m = n - a → a ≤ n → (∀ a' b, a' < a → b < n → t (9 * a' + b) = nI (t0F (E2 (tdM M k)) (W2 (tdM M k)) 1000000 a' b)) → P (nI a) t := by
    intro m
    induction m using Nat.strongRecOn with
    | ind m ih =>
      intro a t hma ha h1
      apply hP
      refine hu a (by omega) (fun h9 => stages t (fun a' b ha' hb1 => h1 a' b (by omega) hb1)) (fun h9 => ?_)
      intro P2 hP2
      have loop2 : ∀ m b (t : Nat → Int32), m = n - b → b ≤ n → (∀ a' b, a' < a → b < n → t (9 * a' + b) = nI (t0F (E2 (tdM M k)) (W2 (tdM M k)) 1000000 a' b)) → (∀ b', b' < b → t (9 * a + b') = nI (t0F (E2 (tdM M k)) (W2 (tdM M k)) 1000000 a b')) → P2 (nI b) t := by
        intro m
        induction m using Nat.strongRecOn with
        | ind m ih2 =>
          intro b t hm2 hbn g1 g2
          apply hP2
          refine hu b (by omega) (fun h8 v ev => ?_) (fun h8 => ?_)
          · rw [ev, nI_1]
            exact ih (n - (a + 1)) (by omega) (a + 1) t rfl (by omega) (fun a' b' ha' hb' => by
              by_cases e : a' = a
              · subst e; exact g2 b' (by omega)
              · exact g1 a' b' (by omega) hb')
          · have nx : ∀ z : Int32, z = nI (t0F (E2 (tdM M k)) (W2 (tdM M k)) 1000000 a b) → q_m_findFar_60 P P2 (M 5) (nI k) (tdM M k 0) t (nI a) (nI b) (((9 : Int32) * nI a) + nI b) z post := by
              intro z hz
              unfold q_m_findFar_60
              rw [ei]
              refine ⟨vp_in_nI (by omega) (by omega), fun t' et v ev => ?_⟩
              rw [nI_clamp (by omega)] at et
              rw [ev, nI_1]
              refine ih2 (n - (b + 1)) (by omega) (b + 1) t' rfl (by omega) (fun a' b' ha' hb' => ?_) (fun b' hb' => ?_)
              · rw [et, up_n (by omega)]; exact g1 a' b' ha' hb'
              · by_cases e : b' = b
                · subst e; rw [et, up_s, hz]
                · rw [et, up_n (by omega)]; exact g2 b' (by omega)
            obtain ⟨w, ew, -, hw9, -⟩ := iv_nI (way_iv hR (show a < 9 by omega) (show b < 9 by omega)) (by decide)
            refine ⟨fun hne => ?_, fun heq => nx 0 ?_⟩
            · have hab : ¬ a = b := fun e => hne (by rw [e])
              have et0 : t0F (E2 (tdM M k)) (W2 (tdM M k)) 1000000 a b = if 0 < nI w then w else 1000000 := by
                unfold t0F E2 W2
                rw [decide_eq_false hab, Bool.false_or, if_neg hab, ew, cN_nI (by omega), show min 9 w = w by omega]
                by_cases q : 0 < nI w
                · rw [if_pos q, if_pos (decide_eq_true q)]
                · rw [if_neg q, if_neg (by rw [decide_eq_false q]; decide)]
              have ofw : ∀ {post : Int32 → Prop}, post (nI w) → q_m_way_0 (M 5) (nI k) (nI a) (nI b) post := fun h => e_of (i := 51 + 9 * a + b) hk (by omega) (ix9 a b) (by rw [show rowM M 0 (nI k) (51 + 9 * a + b) = nI w from ew]; exact h)
              refine ofw ⟨fun hle => nx _ ?_, fun hlt => ofw (nx _ ?_)⟩
              · rw [et0, if_neg (fun q => absurd hle (Int32.not_le.mpr q))]; rfl
              · rw [et0, if_pos (Int32.not_le.mp hlt)]
            · have hab : a = b := (nI_eq (by omega) (by omega)).mp heq
              subst hab
              unfold t0F
              rw [if_pos (E2_0 a), W2_0]
              rfl
      exact loop2 _ 0 t rfl (by omega) h1 (fun b' hb' => absurd hb' (Nat.not_lt_zero b'))
  exact loop _ 0 far rfl (by omega) (fun a' b ha' => absurd ha' (Nat.not_lt_zero a'))
end
section
def MG (td : Nat → Int32) (n a b h : Nat) : Nat := max (WK td n a h) (WK td n b h)
def hom (td : Nat → Int32) (s : Nat) : Nat := cN (td (25 + s))
def AN_meet (M : Nat → Nat → Int32) (a b c d : Int32) : Int32 := if 0 ≤ a ∧ a < M 4 0 then (if ((0 ≤ b ∧ b < rowM M 0 a 1) ∧ (0 ≤ c ∧ c < rowM M 0 a 1)) ∧ ¬ b = c then AM (MG (rowM M 0 a) (cN (rowM M 0 a 0)) (hom (rowM M 0 a) (cN b)) (hom (rowM M 0 a) (cN c))) (cN (rowM M 0 a 0)) d else -1) else -1
theorem hom_of {td : Nat → Int32} {n s : Nat} {x : Int32} (hR : RNG td) (hO : LOK td) (hn : td 0 = nI n) (hn9 : n ≤ 9) (h : 0 ≤ x ∧ x < td 1) (hx : x = nI s) (hs : s < 6) : td (25 + s) = nI (hom td s) ∧ hom td s < n := by
  have h8 : iv 0 8 (td (25 + s)) := iv_w (hR (25 + s) (by omega)) (by
    have h2 : s = 0 ∨ s = 1 ∨ s = 2 ∨ s = 3 ∨ s = 4 ∨ s = 5 := by omega
    rcases h2 with rfl | rfl | rfl | rfl | rfl | rfl <;> decide)
  obtain ⟨p, ep, -, hp, -⟩ := iv_nI h8 (by decide)
  have h1 := hO.1 s hs (by rw [← hx]; exact h.2)
  have e : hom td s = p := by unfold hom; rw [ep, cN_nI (by omega)]
  rw [e]
  refine ⟨ep, ?_⟩
  rw [ep, hn] at h1
  exact (nI_ltI (by omega) (by omega)).mp h1
set_option maxRecDepth 40000 in
set_option maxHeartbeats 4000000 in
theorem e_m_meet {M : Nat → Nat → Int32} {f_code f_land f_huts f_singers a b c d : Int32} {a_far : Nat → Int32} {post : Int32 → (Int32) → (Int32) → (Int32) → (Int32) → (Nat → Int32) → Prop} (hc : ∀ o, iv 0 2 (M 4 o)) (hL : mLand (M 5)) (hK : LK M) (hp : ∀ z0 z1 z2 z3 z4, post (AN_meet M a b c d) z0 z1 z2 z3 z4) : q_m_meet_0 f_code (M 4) (M 5) f_land f_huts f_singers a_far a b c d post := by
  unfold AN_meet at hp
  refine e_hand (hc 0) (fun hno => iz ?_) (fun k hk ea hy => oi ?_)
  · rw [if_neg hno] at hp; exact hp _ _ _ _ _
  rw [if_pos hy] at hp
  subst ea
  have hO : LOK (rowM M 0 (nI k)) := LK_row hK hk hy.2
  have hR : RNG (rowM M 0 (nI k)) := RNG_M hL hk
  obtain ⟨n, hn, hn9⟩ := ln_of hR
  have b1' : iv 0 6 (tdM M k 1) := hR 1 (by omega)
  refine e_isSgM b1' (fun h => iz ?_) (fun h1 => oi (e_isSgM b1' (fun h => iz ?_) (fun h2 => oi ⟨fun hne => ?_, fun heq => ?_⟩)))
  · rw [if_neg (fun h9 => h h9.1.1)] at hp; exact hp _ _ _ _ _
  · rw [if_neg (fun h9 => h h9.1.2)] at hp; exact hp _ _ _ _ _
  rotate_left
  · rw [if_neg (fun h9 => h9.2 heq)] at hp; exact hp _ _ _ _ _
  rw [if_pos ⟨⟨h1, h2⟩, hne⟩] at hp
  obtain ⟨s, hs, eb⟩ := lt_nI (m := 6) b1' h1
  obtain ⟨r, hr, ec⟩ := lt_nI (m := 6) b1' h2
  obtain ⟨f1, f2⟩ := hom_of hR hO hn hn9 h1 eb hs
  obtain ⟨g1, g2⟩ := hom_of hR hO hn hn9 h2 ec hr
  subst eb ec
  rw [hn, cN_nI (by omega), cN_nI (by omega), cN_nI (by omega)] at hp
  have hs1 : (25 : Int32) + nI s = nI (25 + s) := jx 25 s
  have hr1 : (25 : Int32) + nI r = nI (25 + r) := jx 25 r
  have ei : ∀ a b : Nat, ((9 : Int32) * nI a) + nI b = nI (9 * a + b) := fun a b => by rw [show (9 : Int32) = nI 9 from rfl, pk_mul, nI_add]
  generalize hom (rowM M 0 (nI k)) s = f at hp f1 f2
  generalize hom (rowM M 0 (nI k)) r = g at hp g1 g2
  refine e_farM hk hL hn hn9 (fun far hf => ?_)
  intro P hP
  have loop : ∀ m j, m = n - j → j ≤ n → P (argm (MG (tdM M k) n f g) j).1 (nI (upF (argm (MG (tdM M k) n f g) j).2)) (nI j) := by
    intro m
    induction m using Nat.strongRecOn with
    | ind m ih2 =>
      intro j hm2 hj
      apply hP
      obtain ⟨b1, b2⟩ := argm_ok (g := MG (tdM M k) n f g) j
      refine pk_le n j (fun h8 => ?_) (fun h8 => ?_) hn
      · have e : j = n := by omega
        subst e
        unfold AM at hp
        refine ⟨fun q => ?_, fun q => ⟨fun q1 => ?_, fun q1 => ?_⟩⟩
        · rw [if_pos (Or.inl q)] at hp; exact hp _ _ _ _ _
        · rw [if_neg (fun q2 => by rcases q2 with q2 | q2; exact q q2; exact q1 q2)] at hp
          rcases b2 with b2 | ⟨_, _, _, b4⟩
          · exact absurd b2 q
          · rw [show upF (argm (MG (tdM M k) j f g) j).2 = (argm (MG (tdM M k) j f g) j).2 by unfold upF; rw [if_pos b4]]
            exact hp _ _ _ _ _
        · rw [if_pos (Or.inr q1)] at hp; exact hp _ _ _ _ _
      · refine e_of (i := 25 + s) hk (by omega) hs1 ?_
        rw [f1, ei]
        refine ⟨vp_in_nI (by omega) (by omega), e_of (i := 25 + r) hk (by omega) hr1 ?_⟩
        rw [g1, ei]
        refine ⟨vp_in_nI (by omega) (by omega), ?_⟩
        rw [nI_clamp (by omega), nI_clamp (by omega), hf f j f2 h8, hf g j g2 h8]
        refine e_grM upF_b upF_b ?_
        rw [upF_max, show max (WK (tdM M k) n f j) (WK (tdM M k) n g j) = MG (tdM M k) n f g j from rfl]
        have lj : MG (tdM M k) n f g j ≤ 1000 := by
          have := WK_le (td := tdM M k) (n := n) (a := f) (b := j)
          have := WK_le (td := tdM M k) (n := n) (a := g) (b := j)
          unfold MG; omega
        have e : argm (MG (tdM M k) n f g) (j + 1) = if MG (tdM M k) n f g j < (argm (MG (tdM M k) n f g) j).2 then (nI j, MG (tdM M k) n f g j) else argm (MG (tdM M k) n f g) j := rfl
        have nx : ∀ x : Int32, x = (argm (MG (tdM M k) n f g) (j + 1)).1 → q_m_meet_117 P 0 (M 4) (M 5) (nI k) (tdM M k 0) (tdM M k 1) far (nI s) (nI r) d (nI (upF (argm (MG (tdM M k) n f g) j).2)) (nI j) (nI (upF (MG (tdM M k) n f g j))) x post := by
          intro x hx
          refine e_lessM upF_b upF_b (fun v ev => ?_)
          rw [ev, hx, nI_1, upF_min, show min (argm (MG (tdM M k) n f g) j).2 (MG (tdM M k) n f g j) = (argm (MG (tdM M k) n f g) (j + 1)).2 by
            rw [e]
            by_cases hc : MG (tdM M k) n f g j < (argm (MG (tdM M k) n f g) j).2
            · rw [if_pos hc]; show min _ _ = MG (tdM M k) n f g j; omega
            · rw [if_neg hc]; omega]
          exact ih2 (n - (j + 1)) (by omega) (j + 1) rfl (by omega)
        have q1 := upF_lt lj b1
        have q2 : upF (argm (MG (tdM M k) n f g) j).2 < 2 ^ 30 := upF_b
        have q3 : upF (MG (tdM M k) n f g j) < 2 ^ 30 := upF_b
        refine pk_le (upF (argm (MG (tdM M k) n f g) j).2) (upF (MG (tdM M k) n f g j)) (fun hle => nx _ ?_) (fun hlt => nx _ ?_) rfl rfl (by omega) (by omega)
        · rw [e, if_neg (fun q => by have := q1.mpr q; omega)]
        · rw [e, if_pos (q1.mp hlt)]
  exact loop _ 0 rfl (by omega)
set_option maxRecDepth 40000 in
set_option maxHeartbeats 4000000 in
theorem e_x_meet {T : TT} {M : Nat → Nat → Int32} {a b c d : Int32} {pa_walked : Nat → Int32} {post : Int32 → (Nat → Int32) → Prop} (h : TM T M 0) (hB : tB T) (hK : LK M) (hL : mLand (M 5)) (hp : ∀ z0, post (AN_meet M a b c d) z0) : q_wx_X10_meet_0 (T.2 1) (T.1 3) (T.1 4) (T.2 4) (T.2 7) (T.1 10) (T.1 11) (T.2 12) (T.2 15) pa_walked a b c d post := by
  unfold AN_meet at hp
  rw [TM_cnt h 0 (by decide)] at hp
  refine e_at (hB.2.2.1 0) (fun (hno : ¬ (0 ≤ a ∧ a < T.2 1 0)) => ?_) (fun ea hla => ?_) (fun ea hla => ?_)
  · rw [if_neg hno] at hp
    exact ⟨fun _ => hp _, fun h9 => absurd h9 (by decide), fun h9 => absurd rfl h9⟩
  · rw [if_pos (by rw [ea]; exact ⟨by decide, hla⟩), ea] at hp
    have hR : RNG (rowM M 0 (nI 0)) := RNG_M hL (by decide)
    have hLD : LDR (T.1 3) (T.1 4) (T.1 5) (T.1 6) (T.1 7) (T.1 8) (T.1 9) (T.2 2) (T.2 3) (T.2 4) (T.2 5) (T.2 6) (T.2 7) (T.2 8) (T.2 9) (rowM M 0 (nI 0)) := TM_sl h 0 0 (by decide) (by decide) hla
    have hX := LX_of hR hLD
    have hOK : LOK (rowM M 0 (nI 0)) := LK_row hK (by decide) (by rw [TM_cnt h 0 (by decide)]; exact hla)
    obtain ⟨n, hn, hn9⟩ := ln_of hR
    refine ⟨fun h9 => absurd h9 (by decide), fun h9 => absurd h9 (by decide), fun _ _ => ?_⟩
    have b1' : iv 0 6 (rowM M 0 (nI 0) 1) := hR 1 (by omega)
    have hh := hLD.2.2.2.2.2.2.2.2.2.2.2.1
    have b16 : iv 0 (6 : Nat) (rowM M 0 (nI 0) 1) := hR 1 (by omega)
    refine e_hsX (fun h => iz ?_) (fun h1 => oi (e_hsX (fun h => iz ?_) (fun h2 => oi ⟨fun hne => ?_, fun heq => ?_⟩)))
    · rw [if_neg (fun h9 => h (by rw [hX.2.1]; exact h9.1.1))] at hp; exact hp _
    · rw [if_neg (fun h9 => h (by rw [hX.2.1]; exact h9.1.2))] at hp; exact hp _
    · rw [hX.2.1] at h1 h2
      rw [if_pos ⟨⟨h1, h2⟩, hne⟩] at hp
      obtain ⟨s, hs, eb⟩ := lt_nI (m := 6) b1' h1
      obtain ⟨r, hr, ec⟩ := lt_nI (m := 6) b1' h2
      obtain ⟨f1, f2⟩ := hom_of hR hOK hn hn9 h1 eb hs
      obtain ⟨g1, g2⟩ := hom_of hR hOK hn hn9 h2 ec hr
      subst eb ec
      rw [hn, cN_nI (by omega), cN_nI (by omega), cN_nI (by omega)] at hp
      refine e_walkW hR hn9 (hX.1.trans hn) hX.2.2.2.2.2.2.2.1 (fun t' ht' => ⟨vp_in_nI hs (by omega), vp_in_nI hr (by omega), ?_⟩)
      rw [nI_clamp (by omega), nI_clamp (by omega), (hh s (lt_cln b16 (by omega) h1.2 (by omega))).1, (hh r (lt_cln b16 (by omega) h2.2 (by omega))).1]
      exact e_tog2 hn9 (hX.1.trans hn) f2 g2 f1 g1 (fun h hh => ht' _ h f2 hh) (fun h hh => ht' _ h g2 hh) (fun h => WK_le) (fun h => WK_le) (fun h _ => rfl) (hp _)
    · rw [if_neg (fun h9 => h9.2 heq)] at hp; exact hp _
  · rw [if_pos (by rw [ea]; exact ⟨by decide, hla⟩), ea] at hp
    have hR : RNG (rowM M 0 (nI 1)) := RNG_M hL (by decide)
    have hLD : LDR (T.1 10) (T.1 11) (T.1 12) (T.1 13) (T.1 14) (T.1 15) (T.1 16) (T.2 10) (T.2 11) (T.2 12) (T.2 13) (T.2 14) (T.2 15) (T.2 16) (T.2 17) (rowM M 0 (nI 1)) := TM_sl h 0 1 (by decide) (by decide) hla
    have hX := LX_of hR hLD
    have hOK : LOK (rowM M 0 (nI 1)) := LK_row hK (by decide) (by rw [TM_cnt h 0 (by decide)]; exact hla)
    obtain ⟨n, hn, hn9⟩ := ln_of hR
    refine ⟨fun h9 => absurd h9 (by decide), fun _ => ?_, fun _ h9 => absurd rfl h9⟩
    have b1' : iv 0 6 (rowM M 0 (nI 1) 1) := hR 1 (by omega)
    have hh := hLD.2.2.2.2.2.2.2.2.2.2.2.1
    have b16 : iv 0 (6 : Nat) (rowM M 0 (nI 1) 1) := hR 1 (by omega)
    refine e_hsX (fun h => iz ?_) (fun h1 => oi (e_hsX (fun h => iz ?_) (fun h2 => oi ⟨fun hne => ?_, fun heq => ?_⟩)))
    · rw [if_neg (fun h9 => h (by rw [hX.2.1]; exact h9.1.1))] at hp; exact hp _
    · rw [if_neg (fun h9 => h (by rw [hX.2.1]; exact h9.1.2))] at hp; exact hp _
    · rw [hX.2.1] at h1 h2
      rw [if_pos ⟨⟨h1, h2⟩, hne⟩] at hp
      obtain ⟨s, hs, eb⟩ := lt_nI (m := 6) b1' h1
      obtain ⟨r, hr, ec⟩ := lt_nI (m := 6) b1' h2
      obtain ⟨f1, f2⟩ := hom_of hR hOK hn hn9 h1 eb hs
      obtain ⟨g1, g2⟩ := hom_of hR hOK hn hn9 h2 ec hr
      subst eb ec
      rw [hn, cN_nI (by omega), cN_nI (by omega), cN_nI (by omega)] at hp
      refine e_walkW hR hn9 (hX.1.trans hn) hX.2.2.2.2.2.2.2.1 (fun t' ht' => ⟨vp_in_nI hs (by omega), vp_in_nI hr (by omega), ?_⟩)
      rw [nI_clamp (by omega), nI_clamp (by omega), (hh s (lt_cln b16 (by omega) h1.2 (by omega))).1, (hh r (lt_cln b16 (by omega) h2.2 (by omega))).1]
      exact e_tog2 hn9 (hX.1.trans hn) f2 g2 f1 g1 (fun h hh => ht' _ h f2 hh) (fun h hh => ht' _ h g2 hh) (fun h => WK_le) (fun h => WK_le) (fun h _ => rfl) (hp _)
    · rw [if_neg (fun h9 => h9.2 heq)] at hp; exact hp _

def CG (td : Nat → Int32) (n f h : Nat) : Nat := if dam td h = true then 1000 else min 1000 (WK td n f h + lastV td n h n)
def AN_carry (M : Nat → Nat → Int32) (a b c : Int32) : Int32 := if 0 ≤ a ∧ a < M 4 0 then (if 0 ≤ b ∧ b < rowM M 0 a 1 then AM (CG (rowM M 0 a) (cN (rowM M 0 a 0)) (hom (rowM M 0 a) (cN b))) (cN (rowM M 0 a 0)) c else -1) else -1
theorem RUN_near {td : Nat → Int32} {sh : Int32} {n a b : Nat} (ha : a < n) (hb1 : b < n) (h : RUN td sh n a b < 1000) : RUN td sh n a b ≤ 9 * n := SD_near WL_le ha hb1 (SD_open (E := EL td sh) (W := WL td) EL_a h) (WL_0 a) h
theorem WK_near {td : Nat → Int32} {n a b : Nat} (ha : a < n) (hb1 : b < n) (h : WK td n a b < 1000) : WK td n a b ≤ 9 * n := SD_near W2_le ha hb1 (E2_0 a) (W2_0 a) h
theorem lastV_near {td : Nat → Int32} {n f : Nat} (hf : f < n) : ∀ m, m ≤ n → lastV td n f m < 1000 → lastV td n f m ≤ 9 * n
  | 0, _, _ => Nat.zero_le _
  | m + 1, hm, h => by
    have e : lastV td n f (m + 1) = if vilB td m = true then max (lastV td n f m) (RUN td (td 3) n f m) else lastV td n f m := rfl
    rw [e] at h ⊢
    by_cases q : vilB td m = true
    · rw [if_pos q] at h ⊢
      have h1 := lastV_near (td := td) hf m (by omega) (by omega)
      have h2 := RUN_near (td := td) (sh := td 3) hf (show m < n by omega) (by omega)
      omega
    · rw [if_neg q] at h ⊢
      exact lastV_near hf m (by omega) h
theorem upF_add {n w l : Nat} (hn : n ≤ 9) (hw : w < 1000 → w ≤ 9 * n) (hl : l < 1000 → l ≤ 9 * n) (hw1 : w ≤ 1000) (hl1 : l ≤ 1000) : ∀ x, x ≤ 1000 → (upF w + upF l < upF x ↔ min 1000 (w + l) < x) ∧ min (upF x) (upF w + upF l) = upF (min x (min 1000 (w + l))) := by
  intro x hx
  unfold upF
  by_cases h1 : w < 1000
  · have := hw h1
    by_cases h2 : l < 1000
    · have := hl h2
      rw [if_pos h1, if_pos h2]
      constructor
      · split <;> omega
      · split <;> split <;> omega
    · rw [if_pos h1, if_neg h2]
      constructor
      · split <;> omega
      · split <;> split <;> omega
  · rw [if_neg h1]
    constructor
    · split <;> split <;> omega
    · split <;> split <;> split <;> omega
set_option maxRecDepth 40000 in
set_option maxHeartbeats 4000000 in
theorem e_m_carry {M : Nat → Nat → Int32} {f_code f_land f_huts f_singers a b c : Int32} {a_run a_far : Nat → Int32} {post : Int32 → (Int32) → (Int32) → (Int32) → (Int32) → (Nat → Int32) → (Nat → Int32) → Prop} (hc : ∀ o, iv 0 2 (M 4 o)) (hL : mLand (M 5)) (hK : LK M) (hp : ∀ z0 z1 z2 z3 z4 z5, post (AN_carry M a b c) z0 z1 z2 z3 z4 z5) : q_m_carry_0 f_code (M 4) (M 5) f_land f_huts f_singers a_run a_far a b c post := by
  unfold AN_carry at hp
  refine e_hand (hc 0) (fun hno => iz ?_) (fun k hk ea hy => oi ?_)
  · rw [if_neg hno] at hp; exact hp _ _ _ _ _ _
  rw [if_pos hy] at hp
  subst ea
  have hO : LOK (rowM M 0 (nI k)) := LK_row hK hk hy.2
  have hR : RNG (rowM M 0 (nI k)) := RNG_M hL hk
  obtain ⟨n, hn, hn9⟩ := ln_of hR
  have b1' : iv 0 6 (tdM M k 1) := hR 1 (by omega)
  refine e_isSgM b1' (fun h => zi ?_) (fun h1 => io ?_)
  · rw [if_neg h] at hp; exact hp _ _ _ _ _ _
  rw [if_pos h1] at hp
  obtain ⟨s, hs, eb⟩ := lt_nI (m := 6) b1' h1
  obtain ⟨f1, f2⟩ := hom_of hR hO hn hn9 h1 eb hs
  subst eb
  rw [hn, cN_nI (by omega), cN_nI (by omega)] at hp
  have hs1 : (25 : Int32) + nI s = nI (25 + s) := jx 25 s
  have ei : ∀ a b : Nat, ((9 : Int32) * nI a) + nI b = nI (9 * a + b) := fun a b => by rw [show (9 : Int32) = nI 9 from rfl, pk_mul, nI_add]
  generalize hom (rowM M 0 (nI k)) s = f at hp f1 f2
  refine e_farM hk hL hn hn9 (fun far hf => ?_)
  intro P hP
  have loop : ∀ m j (run : Nat → Int32), m = n - j → j ≤ n → P (argm (CG (tdM M k) n f) j).1 (nI (upF (argm (CG (tdM M k) n f) j).2)) (nI j) run := by
    intro m
    induction m using Nat.strongRecOn with
    | ind m ih2 =>
      intro j run hm2 hj
      apply hP
      obtain ⟨b1, b2⟩ := argm_ok (g := CG (tdM M k) n f) j
      refine pk_le n j (fun h8 => ?_) (fun h8 => ?_) hn
      · have e : j = n := by omega
        subst e
        unfold AM at hp
        refine ⟨fun q => ?_, fun q => ⟨fun q1 => ?_, fun q1 => ?_⟩⟩
        · rw [if_pos (Or.inl q)] at hp; exact hp _ _ _ _ _ _
        · rw [if_neg (fun q2 => by rcases q2 with q2 | q2; exact q q2; exact q1 q2)] at hp
          rcases b2 with b2 | ⟨_, _, _, b4⟩
          · exact absurd b2 q
          · rw [show upF (argm (CG (tdM M k) j f) j).2 = (argm (CG (tdM M k) j f) j).2 by unfold upF; rw [if_pos b4]]
            exact hp _ _ _ _ _ _
        · rw [if_pos (Or.inr q1)] at hp; exact hp _ _ _ _ _ _
      · have e : argm (CG (tdM M k) n f) (j + 1) = if CG (tdM M k) n f j < (argm (CG (tdM M k) n f) j).2 then (nI j, CG (tdM M k) n f j) else argm (CG (tdM M k) n f) j := rfl
        have q2 : upF (argm (CG (tdM M k) n f) j).2 < 2 ^ 30 := upF_b
        have nx : ∀ (run : Nat → Int32) (y : Nat), y < 2 ^ 30 → (y < upF (argm (CG (tdM M k) n f) j).2 ↔ CG (tdM M k) n f j < (argm (CG (tdM M k) n f) j).2) → min (upF (argm (CG (tdM M k) n f) j).2) y = upF (min (argm (CG (tdM M k) n f) j).2 (CG (tdM M k) n f j)) → ∀ z : Int32, z = nI y → q_m_carry_93 P 0 (M 4) (M 5) (nI k) (tdM M k 0) (tdM M k 1) run far (nI s) c (argm (CG (tdM M k) n f) j).1 (nI (upF (argm (CG (tdM M k) n f) j).2)) (nI j) z post := by
          intro run y hy hlt hmn z hz
          subst hz
          have go : ∀ x : Int32, x = (argm (CG (tdM M k) n f) (j + 1)).1 → q_m_carry_109 P 0 (M 4) (M 5) (nI k) (tdM M k 0) (tdM M k 1) run far (nI s) c (nI (upF (argm (CG (tdM M k) n f) j).2)) (nI j) (nI y) x post := by
            intro x hx
            refine e_lessM (by omega) (by omega) (fun v ev => ?_)
            rw [ev, hx, nI_1, hmn, show min (argm (CG (tdM M k) n f) j).2 (CG (tdM M k) n f j) = (argm (CG (tdM M k) n f) (j + 1)).2 by
              rw [e]
              by_cases hc : CG (tdM M k) n f j < (argm (CG (tdM M k) n f) j).2
              · rw [if_pos hc]; show min _ _ = CG (tdM M k) n f j; omega
              · rw [if_neg hc]; omega]
            exact ih2 (n - (j + 1)) (by omega) (j + 1) run rfl (by omega)
          refine pk_le (upF (argm (CG (tdM M k) n f) j).2) y (fun hle => go _ ?_) (fun hlt2 => go _ ?_) rfl rfl (by omega) (by omega)
          · rw [e, if_neg (fun q => by have := hlt.mpr q; omega)]
          · rw [e, if_pos (hlt.mp hlt2)]
        refine e_run0M hk hL hO hn hn9 h8 rfl (fun run' hr => ?_)
        refine e_damM hk (by omega) (fun hd => iz ?_) (fun hd => oi ?_)
        · have hd' : dam (tdM M k) j = false := hd
          refine e_of (i := 25 + s) hk (by omega) hs1 ?_
          rw [f1, ei]
          refine ⟨vp_in_nI (by omega) (by omega), e_lastVM hk hn hn9 hr ?_⟩
          rw [nI_clamp (by omega), hf f j f2 h8, nI_add]
          have ec : CG (tdM M k) n f j = min 1000 (WK (tdM M k) n f j + lastV (tdM M k) n j n) := by unfold CG; rw [hd', if_neg (by decide)]
          have ad := upF_add hn9 (WK_near (td := tdM M k) f2 h8) (lastV_near (td := tdM M k) h8 n (Nat.le_refl n)) WK_le (lastV_le n) (argm (CG (tdM M k) n f) j).2 b1
          have k1 : upF (WK (tdM M k) n f j) ≤ 1000000 := by unfold upF; split <;> omega
          have k2 : upF (lastV (tdM M k) n j n) ≤ 1000000 := by unfold upF; split <;> omega
          exact nx run' _ (by omega) (by rw [ec]; exact ad.1) (by rw [ec]; exact ad.2) _ rfl
        · have hd' : dam (tdM M k) j = true := hd
          have ec : CG (tdM M k) n f j = 1000 := by unfold CG; rw [hd', if_pos rfl]
          refine nx run' 1000000 (by omega) ?_ ?_ _ rfl
          · rw [ec]
            unfold upF
            split <;> omega
          · rw [ec]
            unfold upF
            split <;> split <;> omega
  exact loop _ 0 _ rfl (by omega)
theorem e_carriedX {td t w : Nat → Int32} {huts villages dams x2 m : Int32} {n f : Nat} {post : Int32 → Prop} (hn : td 0 = nI n) (hn9 : n ≤ 9) (h0 : huts = td 0) (h2 : villages = td 2) (h3 : dams = td 3) (hf : f < n) (hx : x2 = nI f) (ht : ∀ a b, a < n → b < n → t (9 * a + b) = nI (RUN td (td 3) n a b)) (hw : ∀ a b, a < n → b < n → w (9 * a + b) = nI (WK td n a b)) (hp : post (AM (CG td n f) n m)) : q_wp_X7_carried_9_0 t w huts villages dams x2 m post := by
  subst hx
  have ei : ∀ a h : Nat, (nI a * 9) + nI h = nI (9 * a + h) := fun a h => by rw [jx9, Nat.mul_comm]
  intro P hP
  have loop : ∀ s h, s = n - h → h ≤ n → P (argm (CG td n f) h).1 (nI (argm (CG td n f) h).2) (nI h) := by
    intro s
    induction s using Nat.strongRecOn with
    | ind s ih =>
      intro h hs hh
      apply hP
      obtain ⟨b1, b2⟩ := argm_ok (g := CG td n f) h
      refine pk_le n h (fun h9 => ?_) (fun h9 => ?_) (h0.trans hn)
      · have e : h = n := by omega
        subst e
        unfold AM at hp
        refine ⟨fun h8 => ?_, fun h8 => ⟨fun h7 => ?_, fun h7 => ?_⟩⟩
        · rw [if_pos (Or.inl h8)] at hp; exact hp
        · rw [if_pos (Or.inr h7)] at hp; exact hp
        · rw [if_neg (fun q => by rcases q with q | q; exact h8 q; exact h7 q)] at hp; exact hp
      · rw [ei]
        refine ⟨vp_in_nI (by omega) (by omega), e_lastVX hn hn9 h0 h2 h3 h9 rfl ht (fun v ev => ?_)⟩
        rw [nI_clamp (by omega), hw f h hf h9, nI_add] at ev
        have l1 := WK_le (td := td) (n := n) (a := f) (b := h)
        have l2 := lastV_le (td := td) (n := n) (f := h) n
        have e : argm (CG td n f) (h + 1) = if CG td n f h < (argm (CG td n f) h).2 then (nI h, CG td n f h) else argm (CG td n f) h := rfl
        have nx : ∀ x y : Int32, x = (argm (CG td n f) (h + 1)).1 → y = nI (argm (CG td n f) (h + 1)).2 → q_wp_X7_carried_9_66 P t w huts villages dams (nI f) m x y (nI h) post := by
          intro x y hx hy v ev
          rw [ev, hx, hy, nI_1]
          exact ih (n - (h + 1)) (by omega) (h + 1) rfl (by omega)
        refine e_damX (by omega) (fun hd => zi ?_) (fun hd => io ?_)
        · rw [h3] at hd
          have hd' : dam td h = false := hd
          have ec : CG td n f h = min 1000 (WK td n f h + lastV td n h n) := by unfold CG; rw [hd', if_neg (by decide)]
          refine pk_le (argm (CG td n f) h).2 (WK td n f h + lastV td n h n) (fun hle => nx _ _ ?_ ?_) (fun hlt => nx _ _ ?_ ?_) rfl ev (by omega) (by omega)
          · rw [e, if_neg (by omega)]
          · rw [e, if_neg (by omega)]
          · rw [e, if_pos (by omega)]
          · rw [e, if_pos (by omega), ev]
            show _ = nI (CG td n f h)
            rw [ec, show min 1000 (WK td n f h + lastV td n h n) = WK td n f h + lastV td n h n by omega]
        · rw [h3] at hd
          have hd' : dam td h = true := hd
          have ec : CG td n f h = 1000 := by unfold CG; rw [hd', if_pos rfl]
          refine nx _ _ ?_ ?_
          · rw [e, if_neg (by omega)]
          · rw [e, if_neg (by omega)]
  exact loop _ 0 rfl (by omega)
set_option maxRecDepth 40000 in
set_option maxHeartbeats 4000000 in
theorem e_x_carry {T : TT} {M : Nat → Nat → Int32} {a b c : Int32} {pa_heard pa_walked : Nat → Int32} {post : Int32 → (Nat → Int32) → (Nat → Int32) → Prop} (h : TM T M 0) (hB : tB T) (hK : LK M) (hL : mLand (M 5)) (hp : ∀ z0 z1, post (AN_carry M a b c) z0 z1) : q_wx_X10_carry_0 (T.2 1) (T.1 3) (T.1 4) (T.1 5) (T.1 6) (T.1 7) (T.2 2) (T.2 4) (T.2 5) (T.2 6) (T.2 7) (T.1 10) (T.1 11) (T.1 12) (T.1 13) (T.1 14) (T.2 10) (T.2 12) (T.2 13) (T.2 14) (T.2 15) pa_heard pa_walked a b c post := by
  unfold AN_carry at hp
  rw [TM_cnt h 0 (by decide)] at hp
  refine e_at (hB.2.2.1 0) (fun (hno : ¬ (0 ≤ a ∧ a < T.2 1 0)) => ?_) (fun ea hla => ?_) (fun ea hla => ?_)
  · rw [if_neg hno] at hp
    exact ⟨fun _ => hp _ _, fun h9 => absurd h9 (by decide), fun h9 => absurd rfl h9⟩
  · rw [if_pos (by rw [ea]; exact ⟨by decide, hla⟩), ea] at hp
    have hR : RNG (rowM M 0 (nI 0)) := RNG_M hL (by decide)
    have hLD : LDR (T.1 3) (T.1 4) (T.1 5) (T.1 6) (T.1 7) (T.1 8) (T.1 9) (T.2 2) (T.2 3) (T.2 4) (T.2 5) (T.2 6) (T.2 7) (T.2 8) (T.2 9) (rowM M 0 (nI 0)) := TM_sl h 0 0 (by decide) (by decide) hla
    have hX := LX_of hR hLD
    have hOK : LOK (rowM M 0 (nI 0)) := LK_row hK (by decide) (by rw [TM_cnt h 0 (by decide)]; exact hla)
    obtain ⟨n, hn, hn9⟩ := ln_of hR
    refine ⟨fun h9 => absurd h9 (by decide), fun h9 => absurd h9 (by decide), fun _ _ => ?_⟩
    have b1' : iv 0 6 (rowM M 0 (nI 0) 1) := hR 1 (by omega)
    have hh := hLD.2.2.2.2.2.2.2.2.2.2.2.1
    have b16 : iv 0 (6 : Nat) (rowM M 0 (nI 0) 1) := hR 1 (by omega)
    refine e_hsX (fun h => zi ?_) (fun h1 => io ?_)
    · rw [if_neg (fun h9 => h (by rw [hX.2.1]; exact h9))] at hp; exact hp _ _
    · rw [hX.2.1] at h1
      rw [if_pos h1] at hp
      obtain ⟨s, hs, eb⟩ := lt_nI (m := 6) b1' h1
      obtain ⟨f1, f2⟩ := hom_of hR hOK hn hn9 h1 eb hs
      subst eb
      rw [hn, cN_nI (by omega), cN_nI (by omega)] at hp
      refine e_hearX hR hX hn hn9 (fun t' ht' => e_walkW hR hn9 (hX.1.trans hn) hX.2.2.2.2.2.2.2.1 (fun w' hw' => ⟨vp_in_nI hs (by omega), ?_⟩))
      rw [nI_clamp (by omega), (hh s (lt_cln b16 (by omega) h1.2 (by omega))).1]
      exact e_carriedX hn hn9 hX.1 hLD.2.2.1 hX.2.2.1 f2 f1 ht' hw' (hp _ _)
  · rw [if_pos (by rw [ea]; exact ⟨by decide, hla⟩), ea] at hp
    have hR : RNG (rowM M 0 (nI 1)) := RNG_M hL (by decide)
    have hLD : LDR (T.1 10) (T.1 11) (T.1 12) (T.1 13) (T.1 14) (T.1 15) (T.1 16) (T.2 10) (T.2 11) (T.2 12) (T.2 13) (T.2 14) (T.2 15) (T.2 16) (T.2 17) (rowM M 0 (nI 1)) := TM_sl h 0 1 (by decide) (by decide) hla
    have hX := LX_of hR hLD
    have hOK : LOK (rowM M 0 (nI 1)) := LK_row hK (by decide) (by rw [TM_cnt h 0 (by decide)]; exact hla)
    obtain ⟨n, hn, hn9⟩ := ln_of hR
    refine ⟨fun h9 => absurd h9 (by decide), fun _ => ?_, fun _ h9 => absurd rfl h9⟩
    have b1' : iv 0 6 (rowM M 0 (nI 1) 1) := hR 1 (by omega)
    have hh := hLD.2.2.2.2.2.2.2.2.2.2.2.1
    have b16 : iv 0 (6 : Nat) (rowM M 0 (nI 1) 1) := hR 1 (by omega)
    refine e_hsX (fun h => zi ?_) (fun h1 => io ?_)
    · rw [if_neg (fun h9 => h (by rw [hX.2.1]; exact h9))] at hp; exact hp _ _
    · rw [hX.2.1] at h1
      rw [if_pos h1] at hp
      obtain ⟨s, hs, eb⟩ := lt_nI (m := 6) b1' h1
      obtain ⟨f1, f2⟩ := hom_of hR hOK hn hn9 h1 eb hs
      subst eb
      rw [hn, cN_nI (by omega), cN_nI (by omega)] at hp
      refine e_hearX hR hX hn hn9 (fun t' ht' => e_walkW hR hn9 (hX.1.trans hn) hX.2.2.2.2.2.2.2.1 (fun w' hw' => ⟨vp_in_nI hs (by omega), ?_⟩))
      rw [nI_clamp (by omega), (hh s (lt_cln b16 (by omega) h1.2 (by omega))).1]
      exact e_carriedX hn hn9 hX.1 hLD.2.2.1 hX.2.2.1 f2 f1 ht' hw' (hp _ _)
end
section
/-- how many are in a set -/
def cS (s : Int32) : Nat := cntB (hb s) 9
theorem hb_nI {s k : Nat} (hs : s < 2 ^ 31) : hb (nI s) k = s.testBit k := by
  unfold hb
  rw [BitVec.getLsbD, iv_tn hs]
theorem pow_b {n : Nat} (hn : n ≤ 9) : 2 ^ n ≤ 512 := Nat.le_trans (Nat.pow_le_pow_right (by decide) hn) (by decide)
theorem hb_lo {s n k : Nat} (hs : s < 2 ^ n) (hn : n ≤ 9) (hk : n ≤ k) : hb (nI s) k = false := by
  have := pow_b hn
  rw [hb_nI (by omega)]
  exact Nat.testBit_lt_two_pow (Nat.lt_of_lt_of_le hs (Nat.pow_le_pow_right (by decide) hk))
theorem cntB_cut {p : Nat → Bool} {n : Nat} (h : ∀ k, n ≤ k → p k = false) : ∀ m, cntB p (n + m) = cntB p n
  | 0 => rfl
  | m + 1 => by
    show cntB p (n + m) + (if p (n + m) = true then 1 else 0) = _
    rw [h (n + m) (by omega), if_neg (by decide), cntB_cut h m]
    rfl
theorem cS_le {s n : Nat} (hs : s < 2 ^ n) (hn : n ≤ 9) : cS (nI s) ≤ n := by
  unfold cS
  have e : cntB (hb (nI s)) (n + (9 - n)) = cntB (hb (nI s)) n := cntB_cut (fun k hk => hb_lo hs hn hk) (9 - n)
  rw [show n + (9 - n) = 9 by omega] at e
  rw [e]
  exact cnt_le _ n
/-- of the sets that do, the first of the fewest -/
def FS (ok : Nat → Bool) : Nat → Int32
  | 0 => -1
  | s + 1 => if ok s = true ∧ (FS ok s = -1 ∨ cS (nI s) < cS (FS ok s)) then nI s else FS ok s
theorem FS_ok {ok : Nat → Bool} : ∀ m, (FS ok m = -1 ∧ ∀ s, s < m → ok s = false) ∨ ∃ s, s < m ∧ FS ok m = nI s ∧ ok s = true
  | 0 => Or.inl ⟨rfl, fun s hs => absurd hs (Nat.not_lt_zero s)⟩
  | m + 1 => by
    have e : FS ok (m + 1) = if ok m = true ∧ (FS ok m = -1 ∨ cS (nI m) < cS (FS ok m)) then nI m else FS ok m := rfl
    rw [e]
    by_cases hc : ok m = true ∧ (FS ok m = -1 ∨ cS (nI m) < cS (FS ok m))
    · rw [if_pos hc]
      exact Or.inr ⟨m, by omega, rfl, hc.1⟩
    · rw [if_neg hc]
      rcases FS_ok (ok := ok) m with ⟨h1, h2⟩ | ⟨s, a, b, c⟩
      · refine Or.inl ⟨h1, fun s hs => ?_⟩
        by_cases q : s = m
        · subst q
          rw [← Bool.not_eq_true]
          exact fun h => hc ⟨h, Or.inl h1⟩
        · exact h2 s (by omega)
      · exact Or.inr ⟨s, by omega, b, c⟩
/-- what a set covers -/
def cvd (cov : Nat → Int32) (s : Int32) : Nat → Int32
  | 0 => 0
  | m + 1 => if hb s m = true then cvd cov s m ||| cov m else cvd cov s m
theorem cvd_ext {cov cov' : Nat → Int32} {s : Int32} : ∀ m, (∀ h, h < m → cov h = cov' h) → cvd cov s m = cvd cov' s m
  | 0, _ => rfl
  | m + 1, h => by
    show (if hb s m = true then cvd cov s m ||| cov m else cvd cov s m) = (if hb s m = true then cvd cov' s m ||| cov' m else cvd cov' s m)
    rw [cvd_ext m (fun k hk => h k (by omega)), h m (by omega)]
theorem hb_cvd {cov : Nat → Int32} {s : Int32} {k : Nat} : ∀ m, (∃ h, h < m ∧ hb s h = true ∧ hb (cov h) k = true) → hb (cvd cov s m) k = true
  | 0, ⟨h, hh, _⟩ => absurd hh (Nat.not_lt_zero h)
  | m + 1, ⟨h, hh, h1, h2⟩ => by
    have e : cvd cov s (m + 1) = if hb s m = true then cvd cov s m ||| cov m else cvd cov s m := rfl
    rw [e]
    by_cases q : h = m
    · subst q
      rw [if_pos h1, hb_or, h2, Bool.or_true]
    · have ih := hb_cvd (cov := cov) (s := s) (k := k) m ⟨h, by omega, h1, h2⟩
      split
      · rw [hb_or, ih]; rfl
      · exact ih
def cvB (R : Nat → Nat → Nat) (n k a : Nat) : Int32 := mkB (fun b => decide (R a b ≤ k)) n
def okM (R : Nat → Nat → Nat) (n k : Nat) (need : Int32) (s : Nat) : Bool := decide ((need &&& (cvd (cvB R n k) (nI s) n ^^^ (-1))) = 0)
def MSS (td : Nat → Int32) (n k : Nat) (c : Int32) : Int32 := if c = 0 then nI (cS (FS (okM (WK td n) n k (td 2)) (2 ^ n))) else FS (okM (WK td n) n k (td 2)) (2 ^ n)
def AN_masses (M : Nat → Nat → Int32) (a b c : Int32) : Int32 := if 0 ≤ a ∧ a < M 4 0 then (if 0 ≤ b ∧ b ≤ 99 then MSS (rowM M 0 a) (cN (rowM M 0 a 0)) (cN b) c else -1) else -1
theorem sh_pow {n : Nat} (hn : n ≤ 9) : (1 : Int32) <<< (nI n &&& 31) = nI (2 ^ n) := iv_sh1 n (by omega)
theorem WK_0 {td : Nat → Int32} {n a : Nat} : WK td n a a = 0 := by
  have := SD_e (E := E2 td) (W := W2 td) (F := 1000) (n := n) (E2_0 a)
  have h2 := W2_0 (td := td) a
  have h3 : WK td n a a = SD (E2 td) (W2 td) 1000 n a a := rfl
  omega
theorem full_bit {n k : Nat} (hn : n ≤ 9) (hk : k < n) : hb (nI (2 ^ n - 1)) k = true := by
  have := pow_b hn
  rw [hb_nI (by omega), Nat.testBit_two_pow_sub_one]
  exact decide_eq_true hk
theorem okM_all {td : Nat → Int32} {n k : Nat} (hn9 : n ≤ 9) (hn : td 0 = nI n) (hO : LOK td) : okM (WK td n) n k (td 2) (2 ^ n - 1) = true := by
  refine decide_eq_true (hb_eq (fun h hh => ?_))
  rw [hb_0, hb_and, hb_not _ hh]
  cases hv : hb (td 2) h with
  | false => rfl
  | true =>
    have h1 := hO.2.2 h hh hv
    rw [hn] at h1
    have hhn : h < n := (nI_ltI (by omega) (by omega)).mp h1
    rw [hb_cvd n ⟨h, hhn, full_bit hn9 hhn, by unfold cvB; rw [hb_mkB hh n (by omega), decide_eq_true hhn, Bool.true_and]; exact decide_eq_true (by rw [WK_0]; omega)⟩]
    rfl
theorem FS_M {td : Nat → Int32} {n k : Nat} (hn9 : n ≤ 9) (hn : td 0 = nI n) (hO : LOK td) : ∃ s, s < 2 ^ n ∧ FS (okM (WK td n) n k (td 2)) (2 ^ n) = nI s := by
  have hp : 0 < 2 ^ n := Nat.two_pow_pos n
  rcases FS_ok (ok := okM (WK td n) n k (td 2)) (2 ^ n) with ⟨_, h2⟩ | ⟨s, a, b, _⟩
  · have := h2 (2 ^ n - 1) (by omega)
    rw [okM_all hn9 hn hO] at this
    exact absurd this (by decide)
  · exact ⟨s, a, b⟩
theorem e_coverBy2 {t cov : Nat → Int32} {R : Nat → Nat → Nat} {n k : Nat} {x2 x3 : Int32} {post : (Nat → Int32) → Prop} (hn9 : n ≤ 9) (h2 : x2 = nI n) (h3 : x3 = nI k) (hk : k < 1000) (hR : ∀ a b, R a b ≤ 1000) (ht : ∀ a b, a < n → b < n → t (9 * a + b) = nI (R a b)) (hp : ∀ cov', (∀ a, a < n → cov' a = cvB R n k a) → post cov') : q_wp_X7_coverBy_2_0 t cov x2 x3 post := by
  subst h2 h3
  have ei : ∀ a h : Nat, (nI a * 9) + nI h = nI (9 * a + h) := fun a h => by rw [jx9, Nat.mul_comm]
  intro P hP
  have loop : ∀ m a (cov : Nat → Int32), m = n - a → a ≤ n → (∀ a', a' < a → cov a' = cvB R n k a') → P (nI a) cov := by
    intro m
    induction m using Nat.strongRecOn with
    | ind m ih =>
      intro a cov hm ha hI
      apply hP
      refine pk_le n a (fun h9 => hp cov (fun a' ha' => hI a' (by omega))) (fun h9 => ⟨vp_in_nI (by omega) (by omega), fun cov1 e1 => ?_⟩)
      rw [nI_clamp (by omega)] at e1
      intro P2 hP2
      have loop2 : ∀ m b (cov : Nat → Int32), m = n - b → b ≤ n → (∀ a', a' < a → cov a' = cvB R n k a') → cov a = mkB (fun b => decide (R a b ≤ k)) b → P2 (nI b) cov := by
        intro m
        induction m using Nat.strongRecOn with
        | ind m ih2 =>
          intro b cov hm2 hbn hI2 hrow
          apply hP2
          refine pk_le n b (fun h8 v ev => ?_) (fun h8 => ?_)
          · rw [ev, nI_1]
            refine ih (n - (a + 1)) (by omega) (a + 1) cov rfl (by omega) (fun a' ha' => ?_)
            by_cases e : a' = a
            · subst e
              rw [hrow, show b = n by omega]
              rfl
            · exact hI2 a' (by omega)
          · have nx : ∀ cov' : Nat → Int32, (∀ a', a' < a → cov' a' = cvB R n k a') → cov' a = mkB (fun b => decide (R a b ≤ k)) (b + 1) → q_wp_X7_coverBy_2_54 P P2 t cov' (nI n) (nI k) (nI a) (nI b) post := by
              intro cov' k1 k2 v ev
              rw [ev, nI_1]
              exact ih2 (n - (b + 1)) (by omega) (b + 1) cov' rfl (by omega) k1 k2
            have e : mkB (fun b => decide (R a b ≤ k)) (b + 1) = mkB (fun b => decide (R a b ≤ k)) b ||| (if decide (R a b ≤ k) = true then bitI b else 0) := rfl
            have l := hR a b
            have hina : vp_in (nI a) 9 := vp_in_nI (by omega) (by omega)
            rw [ei]
            refine ⟨vp_in_nI (by omega) (by omega), ?_⟩
            rw [nI_clamp (by omega), ht a b h9 h8]
            refine pk_lt k (R a b) (fun hlt => nx cov hI2 ?_) (fun hle => ⟨hina, fun v ev => ⟨hina, fun cov' ec => nx cov' (fun a' ha' => ?_) ?_⟩⟩) rfl rfl (by omega) (by omega)
            · rw [e, if_neg (by rw [decide_eq_false (by omega)]; decide), or_0]; exact hrow
            · rw [ec, nI_clamp (by omega), up_n (by omega)]; exact hI2 a' ha'
            · rw [nI_clamp (by omega)] at ev ec
              rw [ec, up_s, e, if_pos (decide_eq_true (by omega)), ev, hrow]; rfl
      exact loop2 _ 0 cov1 rfl (by omega) (fun a' ha' => by rw [e1, up_n (by omega)]; exact hI a' ha') (by rw [e1, up_s]; rfl)
  exact loop _ 0 cov rfl (by omega) (fun a' ha' => absurd ha' (Nat.not_lt_zero a'))
theorem e_coveredX {cov : Nat → Int32} {s x2 : Int32} {n : Nat} {post : Int32 → Prop} (hn9 : n ≤ 9) (h2 : x2 = nI n) (hp : post (cvd cov s n)) : q_wp_X7_covered_0 cov s x2 post := by
  subst h2
  intro P hP
  have loop : ∀ m h, m = n - h → h ≤ n → P (cvd cov s h) (nI h) := by
    intro m
    induction m using Nat.strongRecOn with
    | ind m ih =>
      intro h hm hh
      apply hP
      refine pk_le n h (fun h9 => by rw [show h = n by omega]; exact hp) (fun h9 => ?_)
      have e : cvd cov s (h + 1) = if hb s h = true then cvd cov s h ||| cov h else cvd cov s h := rfl
      have nx : ∀ y : Int32, y = cvd cov s (h + 1) → q_wp_X7_covered_30 P cov s (nI n) y (nI h) post := by
        intro y hy v ev
        rw [ev, hy, nI_1]
        exact ih (n - (h + 1)) (by omega) (h + 1) rfl (by omega)
      refine e_hasX (by omega) (fun q => iz (nx _ ?_)) (fun q => oi ⟨vp_in_nI (by omega) (by omega), fun v ev => nx _ ?_⟩)
      · rw [e, if_neg (by rw [q]; decide)]
      · rw [nI_clamp (by omega)] at ev
        rw [e, if_pos q, ev]
  exact loop _ 0 rfl (by omega)
theorem e_fewestX {cov : Nat → Int32} {R : Nat → Nat → Nat} {need x1 x2 : Int32} {n k : Nat} {post : Int32 → Prop} (hn9 : n ≤ 9) (h1 : x1 = need) (h2 : x2 = nI n) (hc : ∀ a, a < n → cov a = cvB R n k a) (hp : post (FS (okM R n k need) (2 ^ n))) : q_wp_X7_fewestCovering_0 cov x1 x2 post := by
  subst h1 h2
  have hpw := pow_b hn9
  intro v1 ev1
  rw [nI_1] at ev1
  subst ev1
  intro P hP
  have loop : ∀ m s (z : Nat), m = 2 ^ n - s → s ≤ 2 ^ n → z = (if FS (okM R n k x1) s = -1 then n + 1 else cS (FS (okM R n k x1) s)) → P (FS (okM R n k x1) s) (nI z) (nI s) := by
    intro m
    induction m using Nat.strongRecOn with
    | ind m ih =>
      intro s z hm hs hz
      apply hP
      refine pk_le (2 ^ n) s (fun h9 => by rw [show s = 2 ^ n by omega]; exact hp) (fun h9 => ?_) (sh_pow hn9) rfl (by omega) (by omega)
      have e : FS (okM R n k x1) (s + 1) = if okM R n k x1 s = true ∧ (FS (okM R n k x1) s = -1 ∨ cS (nI s) < cS (FS (okM R n k x1) s)) then nI s else FS (okM R n k x1) s := rfl
      have cs := cS_le h9 hn9
      have zb : z ≤ 10 := by
        rw [hz]
        split
        · omega
        · exact Nat.le_trans (cnt_le _ 9) (by omega)
      have hlt : cS (nI s) < z ↔ (FS (okM R n k x1) s = -1 ∨ cS (nI s) < cS (FS (okM R n k x1) s)) := by
        rw [hz]
        split
        · next q => exact ⟨fun _ => Or.inl q, fun _ => by omega⟩
        · next q => exact ⟨Or.inr, fun h => h.elim (fun h => absurd h q) id⟩
      have ivs : iv 0 511 (nI s) := iv_ofN (by omega) (by omega) (by omega)
      have ocv : okM R n k x1 s = decide ((x1 &&& (cvd cov (nI s) n ^^^ (-1))) = 0) := by
        unfold okM
        rw [cvd_ext n (fun h hh => (hc h hh).symm)]
      have nx : ∀ (x : Int32) (y : Nat), x = FS (okM R n k x1) (s + 1) → y = (if FS (okM R n k x1) (s + 1) = -1 then n + 1 else cS (FS (okM R n k x1) (s + 1))) → q_wp_X7_fewestCovering_52 P cov x1 (nI n) x (nI y) (nI s) post := by
        intro x y hx hy v ev
        rw [ev, hx, nI_1]
        exact ih (2 ^ n - (s + 1)) (by omega) (s + 1) y rfl (by omega) hy
      have stay : ¬ (okM R n k x1 s = true ∧ (FS (okM R n k x1) s = -1 ∨ cS (nI s) < cS (FS (okM R n k x1) s))) → q_wp_X7_fewestCovering_52 P cov x1 (nI n) (FS (okM R n k x1) s) (nI z) (nI s) post := fun hno => nx _ _ (by rw [e, if_neg hno]) (by rw [e, if_neg hno]; exact hz)
      refine e_bc ivs (pk_le z (cS (nI s)) (fun hle => stay (fun q => by have := hlt.mpr q.2; omega)) (fun hl => ?_) rfl rfl (by omega) (by omega))
      refine e_coveredX hn9 rfl ⟨fun hne => stay (fun q => by rw [ocv] at q; exact hne (of_decide_eq_true q.1)), fun heq => e_bc ivs (nx _ _ ?_ ?_)⟩
      · rw [e, if_pos ⟨by rw [ocv]; exact decide_eq_true heq, hlt.mp hl⟩]
      · have e2 : FS (okM R n k x1) (s + 1) = nI s := by rw [e, if_pos ⟨by rw [ocv]; exact decide_eq_true heq, hlt.mp hl⟩]
        rw [e2, if_neg (nIm1' (by omega))]
        rfl
  exact loop _ 0 (n + 1) rfl (Nat.zero_le _) (by rw [show FS (okM R n k x1) 0 = -1 from rfl, if_pos rfl])
theorem e_fewestM {huts : Int32} {cov : Nat → Int32} {R : Nat → Nat → Nat} {some_ need : Int32} {n k : Nat} {post : Int32 → Prop} (hn9 : n ≤ 9) (h0 : huts = nI n) (hs : ∀ s, s < 2 ^ n → (nI s &&& (some_ ^^^ (-1))) = 0) (hc : ∀ a, a < n → cov a = cvB R n k a) (hp : post (FS (okM R n k need) (2 ^ n))) : q_m_fewest_0 huts cov some_ need post := by
  subst h0
  have hpw := pow_b hn9
  intro P hP
  have loop : ∀ m s, m = 2 ^ n - s → s ≤ 2 ^ n → P (FS (okM R n k need) s) (nI s) := by
    intro m
    induction m using Nat.strongRecOn with
    | ind m ih =>
      intro s hm hs2
      apply hP
      refine pk_le (2 ^ n) s (fun h9 => by rw [show s = 2 ^ n by omega]; exact hp) (fun h9 => ?_) (sh_pow hn9) rfl (by omega) (by omega)
      have e : FS (okM R n k need) (s + 1) = if okM R n k need s = true ∧ (FS (okM R n k need) s = -1 ∨ cS (nI s) < cS (FS (okM R n k need) s)) then nI s else FS (okM R n k need) s := rfl
      have nx : ∀ x : Int32, x = FS (okM R n k need) (s + 1) → q_m_fewest_116 P (nI n) cov some_ need (nI s) x post := by
        intro x hx v ev
        rw [ev, hx, nI_1]
        exact ih (2 ^ n - (s + 1)) (by omega) (s + 1) rfl (by omega)
      have ocv : okM R n k need s = decide ((need &&& (cvd cov (nI s) n ^^^ (-1))) = 0) := by
        unfold okM
        rw [cvd_ext n (fun h hh => (hc h hh).symm)]
      have fin : ∀ y0 : Int32, (y0 = 0 → okM R n k need s = false) → (¬ y0 = 0 → okM R n k need s = true) → q_m_fewest_86 P (nI n) cov some_ need (FS (okM R n k need) s) (nI s) y0 post := by
        intro y0 f0 f1
        refine ⟨fun q => nx _ ?_, fun q => ⟨fun q1 => nx _ ?_, fun q1 => e_onesM (e_onesM ?_)⟩⟩
        · rw [e, if_neg (fun h => by rw [f0 q] at h; exact absurd h.1 (by decide))]
        · rw [e, if_pos ⟨f1 q, Or.inl q1⟩]
        · have c1 : cS (nI s) ≤ 9 := cnt_le _ 9
          have c2 : cS (FS (okM R n k need) s) ≤ 9 := cnt_le _ 9
          refine pk_le (cS (FS (okM R n k need) s)) (cS (nI s)) (fun hle => nx _ ?_) (fun hlt => nx _ ?_) rfl rfl (by omega) (by omega)
          · rw [e, if_neg (fun h => by rcases h.2 with h2 | h2; exact q1 h2; omega)]
          · rw [e, if_pos ⟨f1 q, Or.inr hlt⟩]
      intro P2 hP2
      have loop2 : ∀ m h, m = n - h → h ≤ n → P2 (cvd cov (nI s) h) (nI h) := by
        intro m
        induction m using Nat.strongRecOn with
        | ind m ih2 =>
          intro h hm2 hh
          apply hP2
          refine pk_le n h (fun h8 => ?_) (fun h8 => ?_)
          · refine ⟨fun q => absurd (hs s h9) q, fun _ => ⟨fun q => fin 0 (fun _ => ?_) (fun q2 => absurd rfl q2), fun q => fin 1 (fun q2 => absurd q2 (by decide)) (fun _ => ?_)⟩⟩
            · rw [ocv, show n = h by omega]; exact decide_eq_false q
            · rw [ocv, show n = h by omega]; exact decide_eq_true q
          · have e2 : cvd cov (nI s) (h + 1) = if hb (nI s) h = true then cvd cov (nI s) h ||| cov h else cvd cov (nI s) h := rfl
            have nx2 : ∀ y : Int32, cvd cov (nI s) h ||| y = cvd cov (nI s) (h + 1) → q_m_fewest_54 P P2 (nI n) cov some_ need (FS (okM R n k need) s) (nI s) (nI h) (cvd cov (nI s) h) y post := by
              intro y hy v ev v2 ev2
              rw [ev, ev2, hy, nI_1]
              exact ih2 (n - (h + 1)) (by omega) (h + 1) rfl (by omega)
            refine e_hasM (by omega) (fun q => iz (nx2 0 ?_)) (fun q => oi ⟨vp_in_nI (by omega) (by omega), nx2 _ ?_⟩)
            · rw [or_0, e2, if_neg (by rw [q]; decide)]
            · rw [nI_clamp (by omega), e2, if_pos q]
      exact loop2 _ 0 rfl (by omega)
  exact loop _ 0 rfl (Nat.zero_le _)
set_option maxRecDepth 40000 in
set_option maxHeartbeats 4000000 in
theorem e_m_masses {M : Nat → Nat → Int32} {f_code f_land f_huts f_singers a b c : Int32} {a_covers a_far : Nat → Int32} {post : Int32 → (Int32) → (Int32) → (Int32) → (Int32) → (Nat → Int32) → (Nat → Int32) → Prop} (hc : ∀ o, iv 0 2 (M 4 o)) (hL : mLand (M 5)) (hK : LK M) (hp : ∀ z0 z1 z2 z3 z4 z5, post (AN_masses M a b c) z0 z1 z2 z3 z4 z5) : q_m_masses_0 f_code (M 4) (M 5) f_land f_huts f_singers a_covers a_far a b c post := by
  unfold AN_masses at hp
  refine e_hand (hc 0) (fun hno => iz ?_) (fun k hk ea hy => oi ?_)
  · rw [if_neg hno] at hp; exact hp _ _ _ _ _ _
  rw [if_pos hy] at hp
  subst ea
  have hO : LOK (rowM M 0 (nI k)) := LK_row hK hk hy.2
  have hR : RNG (rowM M 0 (nI k)) := RNG_M hL hk
  obtain ⟨n, hn, hn9⟩ := ln_of hR
  refine sp_in (fun h => zi ?_) (fun c1 c2 => io ?_)
  · rw [if_neg h] at hp; exact hp _ _ _ _ _ _
  rw [if_pos ⟨c1, c2⟩] at hp
  obtain ⟨q, hq, eb⟩ := nI_of2 (M := 99) (n := 99) (by decide) (Int32.not_lt.mpr c1) c2
  subst eb
  rw [hn, cN_nI (by omega), cN_nI (by omega)] at hp
  have ei : ∀ a b : Nat, ((9 : Int32) * nI a) + nI b = nI (9 * a + b) := fun a b => by rw [show (9 : Int32) = nI 9 from rfl, pk_mul, nI_add]
  refine e_farM hk hL hn hn9 (fun far hf => ?_)
  obtain ⟨s, hs, es⟩ := FS_M (k := q) hn9 hn hO
  have hpw := pow_b hn9
  intro P hP
  have loop : ∀ m a (cov : Nat → Int32), m = n - a → a ≤ n → (∀ a', a' < a → cov a' = cvB (WK (tdM M k) n) n q a') → P (nI a) cov := by
    intro m
    induction m using Nat.strongRecOn with
    | ind m ih =>
      intro a cov hm ha hI
      apply hP
      refine pk_le n a (fun h9 => ?_) (fun h9 => ⟨vp_in_nI (by omega) (by omega), fun cov1 e1 => ?_⟩) hn
      · refine e_of (i := 2) hk (by omega) rfl (e_fewestM (R := WK (tdM M k) n) (k := q) hn9 hn (fun s' hs' => ?_) (fun a' ha' => hI a' (by omega)) ?_)
        · rw [hn, sh_pow hn9, show nI (2 ^ n) - 1 = nI (2 ^ n - 1) from pk_sub (b := 1) (Nat.two_pow_pos n)]
          apply hb_eq
          intro h hh
          rw [hb_and, hb_not _ hh, hb_0]
          by_cases q2 : h < n
          · rw [full_bit hn9 q2, Bool.not_true, Bool.and_false]
          · rw [hb_lo hs' hn9 (by omega), Bool.false_and]
        · unfold MSS at hp
          refine ⟨fun w => e_onesM ?_, fun w => ?_⟩
          · rw [if_pos w] at hp; exact hp _ _ _ _ _ _
          · rw [if_neg w] at hp; exact hp _ _ _ _ _ _
      · rw [nI_clamp (by omega)] at e1
        intro P2 hP2
        have loop2 : ∀ m b (cov : Nat → Int32), m = n - b → b ≤ n → (∀ a', a' < a → cov a' = cvB (WK (tdM M k) n) n q a') → cov a = mkB (fun b => decide (WK (tdM M k) n a b ≤ q)) b → P2 (nI b) cov := by
          intro m
          induction m using Nat.strongRecOn with
          | ind m ih2 =>
            intro b cov hm2 hbn hI2 hrow
            apply hP2
            refine pk_le n b (fun h8 v ev => ?_) (fun h8 => ?_) hn
            · rw [ev, nI_1]
              refine ih (n - (a + 1)) (by omega) (a + 1) cov rfl (by omega) (fun a' ha' => ?_)
              by_cases e : a' = a
              · subst e
                rw [hrow, show b = n by omega]
                rfl
              · exact hI2 a' (by omega)
            · have hina : vp_in (nI a) 9 := vp_in_nI (by omega) (by omega)
              have e : mkB (fun b => decide (WK (tdM M k) n a b ≤ q)) (b + 1) = mkB (fun b => decide (WK (tdM M k) n a b ≤ q)) b ||| (if decide (WK (tdM M k) n a b ≤ q) = true then bitI b else 0) := rfl
              have nx : ∀ y : Int32, y = (if decide (WK (tdM M k) n a b ≤ q) = true then bitI b else 0) → q_m_masses_94 P P2 0 (M 4) (M 5) (nI k) (tdM M k 0) (tdM M k 1) cov far (nI q) c (nI a) (nI b) (nI a) (cov a) y post := by
                intro y hy v ev
                refine ⟨hina, fun cov' ec v2 ev2 => ?_⟩
                rw [ev2, nI_1]
                rw [nI_clamp (by omega)] at ec
                refine ih2 (n - (b + 1)) (by omega) (b + 1) cov' rfl (by omega) (fun a' ha' => ?_) ?_
                · rw [ec, up_n (by omega)]; exact hI2 a' ha'
                · rw [ec, up_s, ev, hrow, hy, e]
              have l := WK_le (td := tdM M k) (n := n) (a := a) (b := b)
              have hup : q < upF (WK (tdM M k) n a b) ↔ q < WK (tdM M k) n a b := by
                unfold upF
                split <;> omega
              have ub : upF (WK (tdM M k) n a b) < 2 ^ 30 := upF_b
              rw [ei]
              refine ⟨hina, vp_in_nI (by omega) (by omega), ?_⟩
              rw [nI_clamp (by omega), nI_clamp (by omega), hf a b h9 h8]
              refine pk_lt q (upF (WK (tdM M k) n a b)) (fun hlt => nx _ ?_) (fun hle => nx _ ?_) rfl rfl (by omega) (by omega)
              · have := hup.mp hlt
                rw [if_neg (by rw [decide_eq_false (by omega)]; decide)]
              · rw [if_pos (decide_eq_true (by
                  apply Classical.byContradiction
                  intro h3
                  have := hup.mpr (by omega)
                  omega))]
                rfl
        exact loop2 _ 0 cov1 rfl (by omega) (fun a' ha' => by rw [e1, up_n (by omega)]; exact hI a' ha') (by rw [e1, up_s]; rfl)
  exact loop _ 0 _ rfl (by omega) (fun a' ha' => absurd ha' (Nat.not_lt_zero a'))
set_option maxRecDepth 40000 in
set_option maxHeartbeats 4000000 in
theorem e_x_masses {T : TT} {M : Nat → Nat → Int32} {a b c : Int32} {pa_walked pa_cover : Nat → Int32} {post : Int32 → (Nat → Int32) → (Nat → Int32) → Prop} (h : TM T M 0) (hB : tB T) (hK : LK M) (hL : mLand (M 5)) (hp : ∀ z0 z1, post (AN_masses M a b c) z0 z1) : q_wx_X10_masses_0 (T.2 1) (T.1 3) (T.1 5) (T.2 4) (T.1 10) (T.1 12) (T.2 12) pa_walked pa_cover a b c post := by
  unfold AN_masses at hp
  rw [TM_cnt h 0 (by decide)] at hp
  refine e_at (hB.2.2.1 0) (fun (hno : ¬ (0 ≤ a ∧ a < T.2 1 0)) => ?_) (fun ea hla => ?_) (fun ea hla => ?_)
  · rw [if_neg hno] at hp
    exact ⟨fun _ => hp _ _, fun h9 => absurd h9 (by decide), fun h9 => absurd rfl h9⟩
  · rw [if_pos (by rw [ea]; exact ⟨by decide, hla⟩), ea] at hp
    have hR : RNG (rowM M 0 (nI 0)) := RNG_M hL (by decide)
    have hLD : LDR (T.1 3) (T.1 4) (T.1 5) (T.1 6) (T.1 7) (T.1 8) (T.1 9) (T.2 2) (T.2 3) (T.2 4) (T.2 5) (T.2 6) (T.2 7) (T.2 8) (T.2 9) (rowM M 0 (nI 0)) := TM_sl h 0 0 (by decide) (by decide) hla
    have hX := LX_of hR hLD
    have hOK : LOK (rowM M 0 (nI 0)) := LK_row hK (by decide) (by rw [TM_cnt h 0 (by decide)]; exact hla)
    obtain ⟨n, hn, hn9⟩ := ln_of hR
    refine ⟨fun h9 => absurd h9 (by decide), fun h9 => absurd h9 (by decide), fun _ _ => ?_⟩
    refine ⟨fun c1 => ?_, fun c1 => ⟨fun c2 => ?_, fun c2 => ?_⟩⟩
    · rw [if_neg (fun h9 => absurd c1 (Int32.not_lt.mpr h9.1))] at hp; exact hp _ _
    · rw [if_pos ⟨Int32.not_lt.mp c1, c2⟩] at hp
      obtain ⟨q, hq, eb⟩ := nI_of2 (M := 99) (n := 99) (by decide) c1 c2
      subst eb
      rw [hn, cN_nI (by omega), cN_nI (by omega)] at hp
      obtain ⟨s, hs, es⟩ := FS_M (k := q) hn9 hn hOK
      have hpw := pow_b hn9
      unfold MSS at hp
      refine e_walkW hR hn9 (hX.1.trans hn) hX.2.2.2.2.2.2.2.1 (fun w' hw' => e_coverBy2 (R := WK (rowM M 0 (nI 0)) n) (k := q) hn9 (hX.1.trans hn) rfl (by omega) (fun _ _ => WK_le) hw' (fun cov' hc' => e_fewestX (R := WK (rowM M 0 (nI 0)) n) (k := q) hn9 hLD.2.2.1 (hX.1.trans hn) hc' ⟨fun w0 => ?_, fun w0 => ?_⟩))
      · rw [if_pos w0] at hp
        exact e_bc (by rw [es]; exact iv_ofN (by omega) (by omega) (by omega)) (hp _ _)
      · rw [if_neg w0] at hp; exact hp _ _
    · rw [if_neg (fun h9 => c2 h9.2)] at hp; exact hp _ _
  · rw [if_pos (by rw [ea]; exact ⟨by decide, hla⟩), ea] at hp
    have hR : RNG (rowM M 0 (nI 1)) := RNG_M hL (by decide)
    have hLD : LDR (T.1 10) (T.1 11) (T.1 12) (T.1 13) (T.1 14) (T.1 15) (T.1 16) (T.2 10) (T.2 11) (T.2 12) (T.2 13) (T.2 14) (T.2 15) (T.2 16) (T.2 17) (rowM M 0 (nI 1)) := TM_sl h 0 1 (by decide) (by decide) hla
    have hX := LX_of hR hLD
    have hOK : LOK (rowM M 0 (nI 1)) := LK_row hK (by decide) (by rw [TM_cnt h 0 (by decide)]; exact hla)
    obtain ⟨n, hn, hn9⟩ := ln_of hR
    refine ⟨fun h9 => absurd h9 (by decide), fun _ => ?_, fun _ h9 => absurd rfl h9⟩
    refine ⟨fun c1 => ?_, fun c1 => ⟨fun c2 => ?_, fun c2 => ?_⟩⟩
    · rw [if_neg (fun h9 => absurd c1 (Int32.not_lt.mpr h9.1))] at hp; exact hp _ _
    · rw [if_pos ⟨Int32.not_lt.mp c1, c2⟩] at hp
      obtain ⟨q, hq, eb⟩ := nI_of2 (M := 99) (n := 99) (by decide) c1 c2
      subst eb
      rw [hn, cN_nI (by omega), cN_nI (by omega)] at hp
      obtain ⟨s, hs, es⟩ := FS_M (k := q) hn9 hn hOK
      have hpw := pow_b hn9
      unfold MSS at hp
      refine e_walkW hR hn9 (hX.1.trans hn) hX.2.2.2.2.2.2.2.1 (fun w' hw' => e_coverBy2 (R := WK (rowM M 0 (nI 1)) n) (k := q) hn9 (hX.1.trans hn) rfl (by omega) (fun _ _ => WK_le) hw' (fun cov' hc' => e_fewestX (R := WK (rowM M 0 (nI 1)) n) (k := q) hn9 hLD.2.2.1 (hX.1.trans hn) hc' ⟨fun w0 => ?_, fun w0 => ?_⟩))
      · rw [if_pos w0] at hp
        exact e_bc (by rw [es]; exact iv_ofN (by omega) (by omega) (by omega)) (hp _ _)
      · rw [if_neg w0] at hp; exact hp _ _
    · rw [if_neg (fun h9 => c2 h9.2)] at hp; exact hp _ _
end
section
def SGr (sd : Nat → Int32) : Prop := iv 0 10 (sd 0) ∧ ∀ j, j < 10 → iv 0 1 (sd (1 + 3 * j)) ∧ iv 0 8 (sd (2 + 3 * j)) ∧ iv 0 60 (sd (3 + 3 * j))
theorem sgM_row {M : Nat → Nat → Int32} {k j : Nat} (hk : k < 2) : rowM M 2 (nI k) j = M 7 (31 * k + j) := by
  unfold rowM
  rw [nI_clamp (by omega)]
  rfl
theorem SGr_of {M : Nat → Nat → Int32} {k : Nat} (hS : mSig (M 7)) (hk : k < 2) : SGr (rowM M 2 (nI k)) := by
  have g := hS k (by omega)
  refine ⟨by rw [sgM_row hk]; exact g.1, fun j hj => ?_⟩
  have g2 := g.2 j hj
  refine ⟨?_, ?_, ?_⟩
  · rw [sgM_row hk, show 31 * k + (1 + 3 * j) = 31 * k + 1 + 3 * j by omega]; exact g2.1
  · rw [sgM_row hk, show 31 * k + (2 + 3 * j) = 31 * k + 1 + 3 * j + 1 by omega]; exact g2.2.1
  · rw [sgM_row hk, show 31 * k + (3 + 3 * j) = 31 * k + 1 + 3 * j + 2 by omega]; exact g2.2.2
theorem e_factsM {M : Nat → Nat → Int32} {k : Nat} {post : Int32 → Prop} (hk : k < 2) (hp : post (rowM M 2 (nI k) 0)) : q_m_facts_0 (M 7) (nI k) post := by
  have e : (31 : Int32) * nI k = nI (31 * k) := pk_mul 31 k
  refine ⟨by rw [e]; exact vp_in_nI (by omega) (by omega), ?_⟩
  rw [e, nI_clamp (by omega)]
  rw [sgM_row hk, Nat.add_zero] at hp
  exact hp
theorem e_factOfM {M : Nat → Nat → Int32} {k j i z : Nat} {x : Int32} {post : Int32 → Prop} (hk : k < 2) (hj : j < 10) (hi : i < 3) (hx : x = nI i) (hz : z = 1 + i + 3 * j) (hp : post (rowM M 2 (nI k) z)) : q_m_factOf_0 (M 7) (nI k) (nI j) x post := by
  subst hx hz
  have e : ((((31 : Int32) * nI k) + (1 : Int32)) + ((3 : Int32) * nI j)) + nI i = nI (31 * k + 1 + 3 * j + i) := by
    rw [show (31 : Int32) * nI k = nI (31 * k) from pk_mul 31 k, show (3 : Int32) * nI j = nI (3 * j) from pk_mul 3 j, nI_1, nI_add, nI_add]
  refine ⟨by rw [e]; exact vp_in_nI (by omega) (by omega), ?_⟩
  rw [e, nI_clamp (by omega)]
  rw [sgM_row hk, show 31 * k + (1 + i + 3 * j) = 31 * k + 1 + 3 * j + i by omega] at hp
  exact hp
theorem e_hasSig {M : Nat → Nat → Int32} {sg x : Int32} {post : Int32 → Int32 → Prop} (hc : iv 0 2 (M 4 2)) (h0 : ¬ (0 ≤ x ∧ x < M 4 2) → post 0 x) (h1 : ∀ k, k < 2 → x = nI k → 0 ≤ x ∧ x < M 4 2 → post 1 (nI k)) : q_m_hasSight_0 (M 4) sg x post := by
  refine e_is (o := 2) (by decide) hc (fun hn => ⟨rfl, h0 hn⟩) (fun hy => ⟨rfl, ?_⟩)
  obtain ⟨k, hk, ea⟩ := lt_nI (m := 2) hc hy
  have g := h1 k hk ea hy
  rw [ea]
  exact g
/-- one fact against the runs from a hut -/
def agK (td sd : Nat → Int32) (n h j : Nat) : Bool := decide (RUN td (td 3) n h (cN (sd (2 + 3 * j))) ≤ cN (sd (3 + 3 * j))) == decide (sd (1 + 3 * j) = 1)
def agB (td sd : Nat → Int32) (n h : Nat) : Nat → Bool
  | 0 => true
  | m + 1 => agB td sd n h m && agK td sd n h m
theorem agB_no {td sd : Nat → Int32} {n h j : Nat} (h0 : agK td sd n h j = false) : ∀ m, j < m → agB td sd n h m = false
  | 0, hj => absurd hj (Nat.not_lt_zero j)
  | m + 1, hj => by
    show (agB td sd n h m && agK td sd n h m) = false
    by_cases e : j = m
    · rw [← e, h0, Bool.and_false]
    · rw [agB_no h0 m (by omega), Bool.false_and]
theorem agB_s {td sd : Nat → Int32} {n h m : Nat} (h0 : agB td sd n h m = true) (h1 : agK td sd n h m = true) : agB td sd n h (m + 1) = true := by
  show (agB td sd n h m && agK td sd n h m) = true
  rw [h0, h1]; rfl
def stB (td sd : Nat → Int32) : Nat → Bool
  | 0 => true
  | m + 1 => stB td sd m && decide (sd (2 + 3 * m) < td 0)
theorem stB_no {td sd : Nat → Int32} {j : Nat} (h0 : ¬ sd (2 + 3 * j) < td 0) : ∀ m, j < m → stB td sd m = false
  | 0, hj => absurd hj (Nat.not_lt_zero j)
  | m + 1, hj => by
    show (stB td sd m && decide (sd (2 + 3 * m) < td 0)) = false
    by_cases e : j = m
    · rw [← e, decide_eq_false h0, Bool.and_false]
    · rw [stB_no h0 m (by omega), Bool.false_and]
theorem stB_s {td sd : Nat → Int32} {m : Nat} (h0 : stB td sd m = true) (h1 : sd (2 + 3 * m) < td 0) : stB td sd (m + 1) = true := by
  show (stB td sd m && decide (sd (2 + 3 * m) < td 0)) = true
  rw [h0, decide_eq_true h1]; rfl
theorem stB_at {td sd : Nat → Int32} {j m : Nat} (h0 : stB td sd m = true) (hj : j < m) : sd (2 + 3 * j) < td 0 := by
  apply Classical.byContradiction
  intro h
  rw [stB_no h m hj] at h0
  exact absurd h0 (by decide)
def FM (td sd : Nat → Int32) (n : Nat) : Int32 := mkB (fun h => !dam td h && agB td sd n h (cN (sd 0))) n
/-- the greater part of a set, asked whether the note is there by minute t at hut u -/
def prC (td : Nat → Int32) (n : Nat) (s : Int32) (u t : Nat) : Nat := cntB (fun h => hb s h && decide (RUN td (td 3) n h u ≤ t)) n
def prt (td : Nat → Int32) (n : Nat) (s : Int32) (u t : Nat) : Nat := max (prC td n s u t) (cS s - prC td n s u t)
def qb (td : Nat → Int32) (n : Nat) (s : Int32) : Nat → Int32 × Nat
  | 0 => (-1, 1000)
  | j + 1 => if j % 10 < n ∧ prt td n s (j % 10) (j / 10) < (qb td n s j).2 then (nI j, prt td n s (j % 10) (j / 10)) else qb td n s j
theorem prt_le {td : Nat → Int32} {n : Nat} {s : Int32} {u t : Nat} (hn : n ≤ 9) : prt td n s u t ≤ 9 := by
  have h1 : prC td n s u t ≤ n := cnt_le _ n
  have h2 : cS s ≤ 9 := cnt_le _ 9
  unfold prt
  omega
theorem qb_le {td : Nat → Int32} {n : Nat} {s : Int32} (hn : n ≤ 9) : ∀ j, (qb td n s j).2 ≤ 1000
  | 0 => Nat.le_refl _
  | j + 1 => by
    have ih := qb_le (td := td) (s := s) hn j
    have p := prt_le (td := td) (s := s) (u := j % 10) (t := j / 10) hn
    show (if j % 10 < n ∧ prt td n s (j % 10) (j / 10) < (qb td n s j).2 then ((nI j, prt td n s (j % 10) (j / 10)) : Int32 × Nat) else qb td n s j).2 ≤ 1000
    split
    · show prt td n s (j % 10) (j / 10) ≤ 1000
      omega
    · exact ih
theorem qb_skip {td : Nat → Int32} {n : Nat} {s : Int32} {t u : Nat} (hu : n ≤ u) : ∀ d, u + d ≤ 10 → qb td n s (10 * t + (u + d)) = qb td n s (10 * t + u)
  | 0, _ => rfl
  | d + 1, hd => by
    rw [← qb_skip hu d (by omega)]
    show (if (10 * t + (u + d)) % 10 < n ∧ _ then _ else _) = _
    rw [if_neg (fun h => by have := h.1; omega)]
    rfl
def FIT (td sd : Nat → Int32) (c : Int32) : Int32 := if stB td sd (cN (sd 0)) = true then (if c = 0 then FM td sd (cN (td 0)) else if FM td sd (cN (td 0)) = 0 then -1 else (qb td (cN (td 0)) (FM td sd (cN (td 0))) 609).1) else -2
def AN_fits (M : Nat → Nat → Int32) (a b c : Int32) : Int32 := if (0 ≤ a ∧ a < M 4 0) ∧ (0 ≤ b ∧ b < M 4 2) then FIT (rowM M 0 a) (rowM M 2 b) c else -2
theorem ag_st {y0 y1 : Int32} (a b : Bool) (h0 : y0 = if a = true then 1 else 0) (h1 : y1 = if b = true then 1 else 0) : y0 = y1 ↔ (a == b) = true := by
  subst h0 h1
  cases a <;> cases b <;> decide
theorem cnt_and {s : Int32} {p : Nat → Bool} {n : Nat} (hn : n ≤ 9) : cntB (hb (s &&& mkB p n)) 9 = cntB (fun h => hb s h && p h) n := by
  have e := cntB_cut (p := hb (s &&& mkB p n)) (n := n) (fun k hk => by
    rw [hb_and]
    by_cases q : k < 32
    · rw [hb_mkB q n (by omega), decide_eq_false (by omega), Bool.false_and, Bool.and_false]
    · have : hb s k = false := by
        unfold hb
        exact BitVec.getLsbD_of_ge _ _ (by omega)
      rw [this, Bool.false_and]) (9 - n)
  rw [show n + (9 - n) = 9 by omega] at e
  rw [e]
  exact cnt_ext n (fun k hk => by rw [hb_and, hb_mkB (by omega) n (by omega), decide_eq_true hk, Bool.true_and])
theorem cnt_anB {s : Int32} {p : Nat → Bool} {n : Nat} (hn : n ≤ 9) : cntB (fun h => hb s h && p h) n ≤ cS s := by
  have h1 : cntB (fun h => hb s h && p h) n ≤ cntB (hb s) n := cnt_mono n (fun k _ h => (Bool.and_eq_true _ _ ▸ h).1)
  have h2 : ∀ d, cntB (hb s) n ≤ cntB (hb s) (n + d) := by
    intro d
    induction d with
    | zero => exact Nat.le_refl _
    | succ d ih =>
      have : cntB (hb s) (n + (d + 1)) = cntB (hb s) (n + d) + (if hb s (n + d) = true then 1 else 0) := rfl
      omega
  have h3 := h2 (9 - n)
  rw [show n + (9 - n) = 9 by omega] at h3
  exact Nat.le_trans h1 h3
theorem e_agreesX {td sd t : Nat → Int32} {sf : Int32} {he hu mi : Nat → Int32} {n h : Nat} {post : Int32 → Prop} (hn9 : n ≤ 9) (hh : h < n) (hV : R3 sf he hu mi sd) (hS : SGr sd) (hin : ∀ j, j < cN (sd 0) → cN (sd (2 + 3 * j)) < n) (ht : ∀ a b, a < n → b < n → t (9 * a + b) = nI (RUN td (td 3) n a b)) (h0 : agB td sd n h (cN (sd 0)) = false → post 0) (h1 : agB td sd n h (cN (sd 0)) = true → post 1) : q_wp_X7_agrees_18_0 t sf he hu mi (nI h) post := by
  obtain ⟨m, em, -, hm10, -⟩ := iv_nI hS.1 (by decide)
  have hsf : sf = nI m := hV.1.trans em
  rw [em, cN_nI (by omega)] at h0 h1 hin
  have hV2 := hV.2
  rw [em, nI_clamp (by omega)] at hV2
  intro P hP
  have loop : ∀ d j, d = m - j → j ≤ m → agB td sd n h j = true → P (nI j) := by
    intro d
    induction d using Nat.strongRecOn with
    | ind d ih =>
      intro j hd hj hI
      apply hP
      refine pk_le m j (fun h9 => h1 (by rw [show m = j by omega]; exact hI)) (fun h9 => ?_) hsf
      have hij : vp_in (nI j) 10 := vp_in_nI (by omega) (by omega)
      obtain ⟨r1, r2, r3⟩ := hV2 j h9
      obtain ⟨s1, s2, s3⟩ := hS.2 j (by omega)
      obtain ⟨u, eu, -, hu8, -⟩ := iv_nI s2 (by decide)
      obtain ⟨w, ew, -, hw60, -⟩ := iv_nI s3 (by decide)
      have hun := hin j h9
      rw [eu, cN_nI (by omega)] at hun
      have l := RUN_le (td := td) (sh := td 3) (n := n) (a := h) (b := u)
      have ea : agK td sd n h j = (decide (RUN td (td 3) n h u ≤ w) == decide (sd (1 + 3 * j) = 1)) := by
        unfold agK
        rw [eu, ew, cN_nI (by omega), cN_nI (by omega)]
      rw [nI_clamp (by omega), r2, eu, r3, ew]
      have ei : (nI h * 9) + nI u = nI (9 * h + u) := by rw [jx9, Nat.mul_comm]
      rw [ei]
      refine ⟨hij, vp_in_nI (by omega) (by omega), hij, ?_⟩
      rw [nI_clamp (by omega), ht h u hh hun]
      have fin2 : ∀ y0 y1 : Int32, y0 = (if decide (RUN td (td 3) n h u ≤ w) = true then 1 else 0) → y1 = (if decide (sd (1 + 3 * j) = 1) = true then 1 else 0) → q_wp_X7_agrees_18_59 P t sf he hu mi (nI h) (nI j) y0 y1 post := by
        intro y0 y1 e0 e1
        have g := ag_st _ _ e0 e1
        refine ⟨fun q v ev => ?_, fun q => h0 (agB_no (by rw [ea, ← Bool.not_eq_true]; exact fun h => q (g.mpr h)) m h9)⟩
        rw [ev, nI_1]
        exact ih (m - (j + 1)) (by omega) (j + 1) rfl (by omega) (agB_s hI (by rw [ea]; exact g.mp q))
      have fin : ∀ y0 : Int32, y0 = (if decide (RUN td (td 3) n h u ≤ w) = true then 1 else 0) → q_wp_X7_agrees_18_40 P t sf he hu mi (nI h) (nI j) y0 post := by
        intro y0 e0
        refine ⟨hij, ?_⟩
        rw [nI_clamp (by omega), r1]
        exact ⟨fun q => fin2 _ _ e0 (by rw [if_neg (by rw [decide_eq_false q]; decide)]), fun q => fin2 _ _ e0 (by rw [if_pos (decide_eq_true q)])⟩
      exact pk_lt w (RUN td (td 3) n h u) (fun q => fin _ (by rw [if_neg (by rw [decide_eq_false (by omega)]; decide)])) (fun q => fin _ (by rw [if_pos (decide_eq_true q)])) rfl rfl (by omega) (by omega)
  exact loop _ 0 rfl (by omega) rfl
theorem e_fittingX {td sd t : Nat → Int32} {huts dams sf : Int32} {he hu mi : Nat → Int32} {n : Nat} {post : Int32 → Prop} (h0 : huts = nI n) (h3 : dams = td 3) (hn9 : n ≤ 9) (hV : R3 sf he hu mi sd) (hS : SGr sd) (hin : ∀ j, j < cN (sd 0) → cN (sd (2 + 3 * j)) < n) (ht : ∀ a b, a < n → b < n → t (9 * a + b) = nI (RUN td (td 3) n a b)) (hp : post (FM td sd n)) : q_wp_X7_fitting_9_18_0 t huts dams sf he hu mi post := by
  subst h3
  intro P hP
  have loop : ∀ d h, d = n - h → h ≤ n → P (mkB (fun h => !dam td h && agB td sd n h (cN (sd 0))) h) (nI h) := by
    intro d
    induction d using Nat.strongRecOn with
    | ind d ih =>
      intro h hd hh
      apply hP
      refine pk_le n h (fun h9 => by rw [show h = n by omega]; exact hp) (fun h9 => ?_) h0
      have e : mkB (fun h => !dam td h && agB td sd n h (cN (sd 0))) (h + 1) = mkB (fun h => !dam td h && agB td sd n h (cN (sd 0))) h ||| (if (!dam td h && agB td sd n h (cN (sd 0))) = true then bitI h else 0) := rfl
      have nx : ∀ x : Int32, x = mkB (fun h => !dam td h && agB td sd n h (cN (sd 0))) (h + 1) → q_wp_X7_fitting_9_18_40 P t huts (td 3) sf he hu mi x (nI h) post := by
        intro x hx v ev
        rw [ev, hx, nI_1]
        exact ih (n - (h + 1)) (by omega) (h + 1) rfl (by omega)
      refine e_damX (by omega) (fun q => zi (e_agreesX hn9 h9 hV hS hin ht (fun g => iz (nx _ ?_)) (fun g => oi (fun v ev => nx _ ?_)))) (fun q => io (nx _ ?_))
      · rw [e, if_neg (by rw [g, Bool.and_false]; decide), or_0]
      · rw [e, if_pos (by unfold dam; rw [q, g]; rfl), ev]; rfl
      · rw [e, if_neg (by unfold dam; rw [q]; exact (by simp)), or_0]
  exact loop _ 0 rfl (by omega)
theorem e_fromByX3 {td t : Nat → Int32} {huts x2 x3 : Int32} {n u w : Nat} {post : Int32 → Prop} (h0 : huts = nI n) (hn9 : n ≤ 9) (hu : u < n) (e2 : x2 = nI u) (e3 : x3 = nI w) (hw : w ≤ 999) (ht : ∀ a b, a < n → b < n → t (9 * a + b) = nI (RUN td (td 3) n a b)) (hp : post (mkB (fun h => decide (RUN td (td 3) n h u ≤ w)) n)) : q_wp_X7_fromBy_9_0 t huts x2 x3 post := by
  subst e2 e3
  intro P hP
  have loop : ∀ d h, d = n - h → h ≤ n → P (mkB (fun h => decide (RUN td (td 3) n h u ≤ w)) h) (nI h) := by
    intro d
    induction d using Nat.strongRecOn with
    | ind d ih =>
      intro h hd hh
      apply hP
      refine pk_le n h (fun h9 => by rw [show h = n by omega]; exact hp) (fun h9 => ?_) h0
      have e : mkB (fun h => decide (RUN td (td 3) n h u ≤ w)) (h + 1) = mkB (fun h => decide (RUN td (td 3) n h u ≤ w)) h ||| (if decide (RUN td (td 3) n h u ≤ w) = true then bitI h else 0) := rfl
      have nx : ∀ x : Int32, x = mkB (fun h => decide (RUN td (td 3) n h u ≤ w)) (h + 1) → q_wp_X7_fromBy_9_40 P t huts (nI u) (nI w) x (nI h) post := by
        intro x hx v ev
        rw [ev, hx, nI_1]
        exact ih (n - (h + 1)) (by omega) (h + 1) rfl (by omega)
      have ei : (nI h * 9) + nI u = nI (9 * h + u) := by rw [jx9, Nat.mul_comm]
      have l := RUN_le (td := td) (sh := td 3) (n := n) (a := h) (b := u)
      rw [ei]
      refine ⟨vp_in_nI (by omega) (by omega), ?_⟩
      rw [nI_clamp (by omega), ht h u h9 hu]
      refine pk_lt w (RUN td (td 3) n h u) (fun q => nx _ ?_) (fun q v ev => nx _ ?_) rfl rfl (by omega) (by omega)
      · rw [e, if_neg (by rw [decide_eq_false (by omega)]; decide), or_0]
      · rw [e, if_pos (decide_eq_true q), ev]; rfl
  exact loop _ 0 rfl (by omega)
theorem e_questionX {td t : Nat → Int32} {huts s : Int32} {n : Nat} {post : Int32 → Prop} (h0 : huts = nI n) (hn9 : n ≤ 9) (hs : iv 0 511 s) (ht : ∀ a b, a < n → b < n → t (9 * a + b) = nI (RUN td (td 3) n a b)) (hp0 : s = 0 → post (-1)) (hp : ¬ s = 0 → post (qb td n s 609).1) : q_wp_X7_question_9_0 t huts s post := by
  refine ⟨fun hne => ?_, hp0⟩
  replace hp := hp hne
  intro P hP
  have lq : ∀ d w, d = 61 - w → w ≤ 61 → P (qb td n s (10 * w)).1 (nI (qb td n s (10 * w)).2) (nI w) := by
    intro d
    induction d using Nat.strongRecOn with
    | ind d ih =>
      intro w hd hw
      apply hP
      refine pk_lt 60 w (fun h9 => ?_) (fun h9 => ?_)
      · have e1 : qb td n s (10 * 60 + (9 + 1)) = qb td n s (10 * 60 + 9) := qb_skip (by omega) 1 (by omega)
        rw [show 10 * w = 10 * 60 + (9 + 1) by omega, e1]
        exact hp
      · intro P2 hP2
        have lu : ∀ d2 u, d2 = n - u → u ≤ n → P2 (qb td n s (10 * w + u)).1 (nI (qb td n s (10 * w + u)).2) (nI u) := by
          intro d2
          induction d2 using Nat.strongRecOn with
          | ind d2 ih2 =>
            intro u hd2 hu
            apply hP2
            refine pk_le n u (fun h8 v ev => ?_) (fun h8 => ?_) h0
            · rw [ev, nI_1]
              have e1 := qb_skip (td := td) (s := s) (t := w) h8 (10 - u) (by omega)
              rw [show 10 * w + (u + (10 - u)) = 10 * (w + 1) by omega] at e1
              rw [← e1]
              exact ih (61 - (w + 1)) (by omega) (w + 1) rfl (by omega)
            · have st : qb td n s (10 * w + (u + 1)) = if u < n ∧ prt td n s u w < (qb td n s (10 * w + u)).2 then (nI (10 * w + u), prt td n s u w) else qb td n s (10 * w + u) := by
                show (if (10 * w + u) % 10 < n ∧ prt td n s ((10 * w + u) % 10) ((10 * w + u) / 10) < (qb td n s (10 * w + u)).2 then ((nI (10 * w + u), prt td n s ((10 * w + u) % 10) ((10 * w + u) / 10)) : Int32 × Nat) else qb td n s (10 * w + u)) = _
                rw [show (10 * w + u) % 10 = u by omega, show (10 * w + u) / 10 = w by omega]
              have nx : ∀ (x y : Int32), x = (qb td n s (10 * w + (u + 1))).1 → y = nI (qb td n s (10 * w + (u + 1))).2 → q_wp_X7_question_9_67 P P2 t huts s x y (nI w) (nI u) post := by
                intro x y hx hy v ev
                rw [ev, nI_1, hx, hy]
                exact ih2 (n - (u + 1)) (by omega) (u + 1) rfl (by omega)
              have pl := prt_le (td := td) (s := s) (u := u) (t := w) hn9
              have ql := qb_le (td := td) (s := s) hn9 (10 * w + u)
              refine e_fromByX3 h0 hn9 h8 rfl rfl (by omega) ht ?_
              have hmi : iv 0 511 (s &&& mkB (fun h => decide (RUN td (td 3) n h u ≤ w)) n) := iv_andl hs (by decide)
              refine e_bc hmi (e_bc hs ?_)
              rw [cnt_and hn9]
              have pc : prC td n s u w = cntB (fun h => hb s h && decide (RUN td (td 3) n h u ≤ w)) n := rfl
              have cl : prC td n s u w ≤ cS s := cnt_anB hn9
              have c9 : cS s ≤ 9 := cnt_le _ 9
              have em : (if nI (prC td n s u w) < (nI (cS s) - nI (prC td n s u w)) then (nI (cS s) - nI (prC td n s u w)) else nI (prC td n s u w)) = nI (prt td n s u w) := by
                rw [pk_sub cl]
                unfold prt
                by_cases q : prC td n s u w < cS s - prC td n s u w
                · rw [if_pos (nI_lt q (by omega)), show max (prC td n s u w) (cS s - prC td n s u w) = cS s - prC td n s u w by omega]
                · rw [if_neg (fun q2 => q ((nI_ltI (by omega) (by omega)).mp q2)), show max (prC td n s u w) (cS s - prC td n s u w) = prC td n s u w by omega]
              show ((_ ≤ (if nI (prC td n s u w) < (nI (cS s) - nI (prC td n s u w)) then (nI (cS s) - nI (prC td n s u w)) else nI (prC td n s u w))) → _) ∧ (¬ (_ ≤ (if nI (prC td n s u w) < (nI (cS s) - nI (prC td n s u w)) then (nI (cS s) - nI (prC td n s u w)) else nI (prC td n s u w))) → ∀ v_2, _ → q_wp_X7_question_9_67 P P2 t huts s v_2 (if nI (prC td n s u w) < (nI (cS s) - nI (prC td n s u w)) then (nI (cS s) - nI (prC td n s u w)) else nI (prC td n s u w)) (nI w) (nI u) post)
              rw [em]
              refine pk_le (qb td n s (10 * w + u)).2 (prt td n s u w) (fun q => nx _ _ ?_ ?_) (fun q v ev => nx _ _ ?_ ?_) rfl rfl (by omega) (by omega)
              · rw [st, if_neg (fun h => by have := h.2; omega)]
              · rw [st, if_neg (fun h => by have := h.2; omega)]
              · rw [st, if_pos ⟨h8, q⟩, ev, show ((10 : Int32) * nI w) = nI (10 * w) from pk_mul 10 w, nI_add]
              · rw [st, if_pos ⟨h8, q⟩]
        exact lu _ 0 rfl (by omega)
  exact lq _ 0 rfl (by omega)
theorem e_staysX {td sd : Nat → Int32} {sf : Int32} {he hu mi : Nat → Int32} {x : Int32} {post : Int32 → Prop} (hV : R3 sf he hu mi sd) (hS : SGr sd) (hx : x = td 0) (h0 : stB td sd (cN (sd 0)) = false → post 0) (h1 : stB td sd (cN (sd 0)) = true → post 1) : q_ws_X6_staysWithin_0 sf hu x post := by
  subst hx
  obtain ⟨m, em, -, hm10, -⟩ := iv_nI hS.1 (by decide)
  have hsf : sf = nI m := hV.1.trans em
  rw [em, cN_nI (by omega)] at h0 h1
  have hV2 := hV.2
  rw [em, nI_clamp (by omega)] at hV2
  intro P hP
  have loop : ∀ d j, d = m - j → j ≤ m → stB td sd j = true → P (nI j) := by
    intro d
    induction d using Nat.strongRecOn with
    | ind d ih =>
      intro j hd hj hI
      apply hP
      refine pk_le m j (fun h9 => h1 (by rw [show m = j by omega]; exact hI)) (fun h9 => ⟨vp_in_nI (by omega) (by omega), ?_⟩) hsf
      rw [nI_clamp (by omega), (hV2 j h9).2.1]
      refine ⟨fun q v ev => ?_, fun q => h0 (stB_no q m h9)⟩
      rw [ev, nI_1]
      exact ih (m - (j + 1)) (by omega) (j + 1) rfl (by omega) (stB_s hI q)
  exact loop _ 0 rfl (by omega) rfl

theorem st_in {td sd : Nat → Int32} {n m : Nat} (hn : td 0 = nI n) (hn9 : n ≤ 9) (hm : m ≤ 10) (hS : SGr sd) (h : stB td sd m = true) : ∀ j, j < m → cN (sd (2 + 3 * j)) < n := by
  intro j hj
  have g := stB_at h hj
  obtain ⟨u, eu, -, hu8, -⟩ := iv_nI (hS.2 j (by omega)).2.1 (by decide)
  rw [eu, hn] at g
  rw [eu, cN_nI (by omega)]
  exact (nI_ltI (by omega) (by omega)).mp g
theorem e_isDamM {M : Nat → Nat → Int32} {k h : Nat} {post : Int32 → Prop} (hk : k < 2) (hh : h < 31) (h0 : dam (tdM M k) h = false → post 0) (h1 : dam (tdM M k) h = true → post 1) : q_m_isDam_0 (M 5) (nI k) (nI h) post :=
  e_of (i := 3) hk (by omega) rfl (e_hasM hh (fun q => ⟨rfl, h0 q⟩) (fun q => ⟨rfl, h1 q⟩))
theorem e_isFitM {M : Nat → Nat → Int32} {run runs : Nat → Int32} {k e n h : Nat} {post : Int32 → (Nat → Int32) → (Nat → Int32) → Prop} (hk : k < 2) (he : e < 2) (hL : mLand (M 5)) (hS : mSig (M 7)) (hO : LOK (tdM M k)) (hn : tdM M k 0 = nI n) (hn9 : n ≤ 9) (hh : h < n) (hin : ∀ j, j < cN (rowM M 2 (nI e) 0) → cN (rowM M 2 (nI e) (2 + 3 * j)) < n) (hp : ∀ run' runs', (∀ u, u < n → runs' (9 * h + u) = nI (upF (RUN (tdM M k) (tdM M k 3) n h u))) → (∀ j, (∀ u, u < n → ¬ j = 9 * h + u) → runs' j = runs j) → post (if (!dam (tdM M k) h && agB (tdM M k) (rowM M 2 (nI e)) n h (cN (rowM M 2 (nI e) 0))) = true then 1 else 0) run' runs') : q_m_isFit_0 (M 5) (M 7) (nI k) (tdM M k 0) run (nI e) runs (nI h) post := by
  have hSG := SGr_of hS he
  obtain ⟨m, em, -, hm10, -⟩ := iv_nI hSG.1 (by decide)
  rw [em, cN_nI (by omega)] at hp hin
  refine e_run0M hk hL hO hn hn9 hh rfl (fun run' hr => ?_)
  intro P hP
  have loop : ∀ d x (rs : Nat → Int32), d = n - x → x ≤ n → (∀ u, u < x → rs (9 * h + u) = nI (upF (RUN (tdM M k) (tdM M k 3) n h u))) → (∀ j, (∀ u, u < n → ¬ j = 9 * h + u) → rs j = runs j) → P (nI x) rs := by
    intro d
    induction d using Nat.strongRecOn with
    | ind d ih =>
      intro x rs hd hx hI hJ
      apply hP
      refine pk_le n x (fun h9 => ?_) (fun h9 => ⟨vp_in_nI (by omega) (by omega), fun v ev => ?_⟩) hn
      · intro P2 hP2
        have lf : ∀ d2 j, d2 = m - j → j ≤ m → agB (tdM M k) (rowM M 2 (nI e)) n h j = true → P2 (nI j) := by
          intro d2
          induction d2 using Nat.strongRecOn with
          | ind d2 ih2 =>
            intro j hd2 hj hG
            apply hP2
            refine e_factsM he (pk_le m j (fun h8 => e_isDamM hk (by omega) (fun q => zi ?_) (fun q => io ?_)) (fun h8 => ?_) em)
            · have g := hp run' rs (fun u hu => hI u (by omega)) hJ
              rw [show j = m by omega] at hG
              rw [q, hG] at g
              exact g
            · have g := hp run' rs (fun u hu => hI u (by omega)) hJ
              rw [q] at g
              exact g
            · obtain ⟨s1, s2, s3⟩ := hSG.2 j (by omega)
              obtain ⟨u, eu, -, hu8, -⟩ := iv_nI s2 (by decide)
              obtain ⟨w, ew, -, hw60, -⟩ := iv_nI s3 (by decide)
              have hun := hin j h8
              rw [eu, cN_nI (by omega)] at hun
              have l := RUN_le (td := tdM M k) (sh := tdM M k 3) (n := n) (a := h) (b := u)
              have ea : agK (tdM M k) (rowM M 2 (nI e)) n h j = (decide (RUN (tdM M k) (tdM M k 3) n h u ≤ w) == decide (rowM M 2 (nI e) (1 + 3 * j) = 1)) := by
                unfold agK
                rw [eu, ew, cN_nI (by omega), cN_nI (by omega)]
              have no : agK (tdM M k) (rowM M 2 (nI e)) n h j = false → post 0 run' rs := fun q => by
                have g := hp run' rs (fun u hu => hI u (by omega)) hJ
                rw [agB_no q m h8, Bool.and_false] at g
                exact g
              have fin2 : ∀ y0 y1 : Int32, y0 = (if decide (RUN (tdM M k) (tdM M k 3) n h u ≤ w) = true then 1 else 0) → y1 = (if decide (rowM M 2 (nI e) (1 + 3 * j) = 1) = true then 1 else 0) → q_m_isFit_89 P2 (M 5) (M 7) (nI k) (tdM M k 0) run' (nI e) rs (nI h) (nI j) y0 y1 post := by
                intro y0 y1 e0 e1
                have g := ag_st _ _ e0 e1
                refine ⟨fun q v ev => ?_, fun q => no (by rw [ea, ← Bool.not_eq_true]; exact fun h => q (g.mpr h))⟩
                rw [ev, nI_1]
                exact ih2 (m - (j + 1)) (by omega) (j + 1) rfl (by omega) (agB_s hG (by rw [ea]; exact g.mp q))
              have fin : ∀ y0 : Int32, y0 = (if decide (RUN (tdM M k) (tdM M k 3) n h u ≤ w) = true then 1 else 0) → q_m_isFit_74 P2 (M 5) (M 7) (nI k) (tdM M k 0) run' (nI e) rs (nI h) (nI j) y0 post := by
                intro y0 e0
                exact e_factOfM he (by omega) (i := 0) (z := 1 + 3 * j) (by omega) rfl (by omega) ⟨fun q => fin2 _ _ e0 (by rw [if_neg (by rw [decide_eq_false q]; decide)]), fun q => fin2 _ _ e0 (by rw [if_pos (decide_eq_true q)])⟩
              refine e_factOfM he (by omega) (i := 1) (z := 2 + 3 * j) (by omega) rfl (by omega) ⟨by rw [eu]; exact vp_in_nI (by omega) (by omega), e_factOfM he (by omega) (i := 2) (z := 3 + 3 * j) (by omega) rfl (by omega) ?_⟩
              rw [eu, ew, nI_clamp (by omega), hr u hun]
              have hup : w < upF (RUN (tdM M k) (tdM M k 3) n h u) ↔ w < RUN (tdM M k) (tdM M k 3) n h u := by
                unfold upF
                split <;> omega
              have ub : upF (RUN (tdM M k) (tdM M k 3) n h u) < 2 ^ 30 := upF_b
              exact pk_lt w (upF (RUN (tdM M k) (tdM M k 3) n h u)) (fun q => fin _ (by have := hup.mp q; rw [if_neg (by rw [decide_eq_false (by omega)]; decide)])) (fun q => fin _ (by rw [if_pos (decide_eq_true (Nat.le_of_not_lt (fun q2 => by have := hup.mpr q2; omega)))])) rfl rfl (by omega) (by omega)
        exact lf _ 0 rfl (by omega) rfl
      · have ei : ((9 : Int32) * nI h) + nI x = nI (9 * h + x) := by rw [show (9 : Int32) = nI 9 from rfl, pk_mul, nI_add]
        rw [ei]
        refine ⟨vp_in_nI (by omega) (by omega), fun rs' ers v2 ev2 => ?_⟩
        rw [ev2, nI_1]
        rw [nI_clamp (by omega)] at ers ev
        refine ih (n - (x + 1)) (by omega) (x + 1) rs' rfl (by omega) (fun u hu => ?_) (fun j hj => ?_)
        · by_cases q : u = x
          · subst q
            rw [ers, up_s, ev]
            exact hr u h9
          · rw [ers, up_n (by omega)]; exact hI u (by omega)
        · rw [ers, up_n (hj x h9)]
          exact hJ j hj
  exact loop _ 0 runs rfl (by omega) (fun u hu => absurd hu (Nat.not_lt_zero u)) (fun _ _ => rfl)
theorem e_askOfM {td runs : Nat → Int32} {huts s : Int32} {n : Nat} {post : Int32 → Prop} (h0 : huts = nI n) (hn9 : n ≤ 9) (ht : ∀ a b, a < n → b < n → runs (9 * a + b) = nI (upF (RUN td (td 3) n a b))) (hp : post (qb td n s 609).1) : q_m_askOf_0 huts runs s post := by
  intro P hP
  have loop : ∀ d j, d = 609 - j → j ≤ 609 → P (qb td n s j).1 (nI (upF (qb td n s j).2)) (nI j) := by
    intro d
    induction d using Nat.strongRecOn with
    | ind d ih =>
      intro j hd hj
      apply hP
      refine pk_lt 608 j (fun h9 => by rw [show j = 609 by omega]; exact hp) (fun h9 v ev => ?_)
      rw [show (nI j - nI j / (10 : Int32) * (10 : Int32)) = nI (j % 10) from pk_rem (by omega) (d := 10) (by omega) (by omega)] at ev
      subst ev
      have st : qb td n s (j + 1) = if j % 10 < n ∧ prt td n s (j % 10) (j / 10) < (qb td n s j).2 then (nI j, prt td n s (j % 10) (j / 10)) else qb td n s j := rfl
      have nx : ∀ (x y : Int32), x = (qb td n s (j + 1)).1 → y = nI (upF (qb td n s (j + 1)).2) → q_m_askOf_128 P huts runs s x y (nI j) post := by
        intro x y hx hy v ev
        rw [ev, nI_1, hx, hy]
        exact ih (609 - (j + 1)) (by omega) (j + 1) rfl (by omega)
      refine e_isH (k := j % 10) (by omega) (by rw [h0]; exact iv_ofN (by omega) (by omega) (by omega)) (fun q => iz (nx _ _ ?_ ?_)) (fun q => oi ?_)
      · rw [st, if_neg (fun h => q (by rw [h0]; exact nI_lt h.1 (by omega)))]
      · rw [st, if_neg (fun h => q (by rw [h0]; exact nI_lt h.1 (by omega)))]
      · rw [h0] at q
        have hu : j % 10 < n := (nI_ltI (by omega) (by omega)).mp q
        intro P2 hP2
        have lh : ∀ d2 h, d2 = n - h → h ≤ n → P2 (nI (cntB (fun h => hb s h && decide (RUN td (td 3) n h (j % 10) ≤ j / 10)) h)) (nI h) := by
          intro d2
          induction d2 using Nat.strongRecOn with
          | ind d2 ih2 =>
            intro h hd2 hh
            apply hP2
            refine pk_le n h (fun h8 => e_onesM ?_) (fun h8 => ?_) h0
            · have cl : prC td n s (j % 10) (j / 10) ≤ cS s := cnt_anB hn9
              have c9 : cS s ≤ 9 := cnt_le _ 9
              have pl := prt_le (td := td) (s := s) (u := j % 10) (t := j / 10) hn9
              have ql := qb_le (td := td) (s := s) hn9 j
              have ub : upF (qb td n s j).2 < 2 ^ 30 := upF_b
              rw [show h = n by omega]
              show q_m_greater_0 (nI (prC td n s (j % 10) (j / 10))) (nI (cS s) - nI (prC td n s (j % 10) (j / 10))) _
              rw [pk_sub cl]
              refine e_grM (by omega) (by omega) ?_
              show ((_ ≤ nI (prt td n s (j % 10) (j / 10))) → q_m_askOf_120 P huts runs s _ _ (nI (prt td n s (j % 10) (j / 10))) _ post) ∧ ((¬ _ ≤ nI (prt td n s (j % 10) (j / 10))) → q_m_askOf_120 P huts runs s _ _ (nI (prt td n s (j % 10) (j / 10))) _ post)
              have hlt : prt td n s (j % 10) (j / 10) < upF (qb td n s j).2 ↔ prt td n s (j % 10) (j / 10) < (qb td n s j).2 := by
                unfold upF
                split <;> omega
              refine pk_le (upF (qb td n s j).2) (prt td n s (j % 10) (j / 10)) (fun q => e_lessM ub (by omega) (nx _ _ ?_ ?_)) (fun q => e_lessM ub (by omega) (nx _ _ ?_ ?_)) rfl rfl (by omega) (by omega)
              · rw [st, if_neg (fun h => by have := hlt.mpr h.2; omega)]
              · rw [st, if_neg (fun h => by have := hlt.mpr h.2; omega), show min (upF (qb td n s j).2) (prt td n s (j % 10) (j / 10)) = upF (qb td n s j).2 by omega]
              · rw [st, if_pos ⟨hu, hlt.mp q⟩]
              · rw [st, if_pos ⟨hu, hlt.mp q⟩, show min (upF (qb td n s j).2) (prt td n s (j % 10) (j / 10)) = prt td n s (j % 10) (j / 10) by omega]
                show nI (prt td n s (j % 10) (j / 10)) = nI (upF (prt td n s (j % 10) (j / 10)))
                unfold upF
                rw [if_pos (by omega)]
            · have e : cntB (fun h => hb s h && decide (RUN td (td 3) n h (j % 10) ≤ j / 10)) (h + 1) = cntB (fun h => hb s h && decide (RUN td (td 3) n h (j % 10) ≤ j / 10)) h + (if (hb s h && decide (RUN td (td 3) n h (j % 10) ≤ j / 10)) = true then 1 else 0) := rfl
              have nx2 : ∀ (y1 : Nat), y1 = (if (hb s h && decide (RUN td (td 3) n h (j % 10) ≤ j / 10)) = true then 1 else 0) → q_m_askOf_85 P P2 huts runs s (qb td n s j).1 (nI (upF (qb td n s j).2)) (nI j) (nI (j % 10)) (nI h) (nI (cntB (fun h => hb s h && decide (RUN td (td 3) n h (j % 10) ≤ j / 10)) h)) (nI y1) post := by
                intro y1 hy v1 ev1 v2 ev2
                rw [ev1, ev2, nI_add, nI_1, hy, ← e]
                exact ih2 (n - (h + 1)) (by omega) (h + 1) rfl (by omega)
              have ei : ((9 : Int32) * nI h) + nI (j % 10) = nI (9 * h + j % 10) := by rw [show (9 : Int32) = nI 9 from rfl, pk_mul, nI_add]
              refine e_hasM (by omega) (fun q => iz (nx2 0 ?_)) (fun q => oi ?_)
              · rw [q, Bool.false_and, if_neg (by decide)]
              · rw [ei]
                refine ⟨vp_in_nI (by omega) (by omega), ?_⟩
                rw [nI_clamp (by omega), ht h (j % 10) h8 hu, show nI j / (10 : Int32) = nI (j / 10) from pk_div (d := 10) (by omega) (by omega) (by omega)]
                have l := RUN_le (td := td) (sh := td 3) (n := n) (a := h) (b := j % 10)
                have hup : j / 10 < upF (RUN td (td 3) n h (j % 10)) ↔ j / 10 < RUN td (td 3) n h (j % 10) := by
                  unfold upF
                  split <;> omega
                have ub : upF (RUN td (td 3) n h (j % 10)) < 2 ^ 30 := upF_b
                refine pk_lt (j / 10) (upF (RUN td (td 3) n h (j % 10))) (fun q2 => nx2 0 ?_) (fun q2 => nx2 1 ?_) rfl rfl (by omega) (by omega)
                · have := hup.mp q2
                  rw [q, Bool.true_and, decide_eq_false (by omega), if_neg (by decide)]
                · rw [q, Bool.true_and, if_pos (decide_eq_true (Nat.le_of_not_lt (fun q3 => by have := hup.mpr q3; omega)))]
        exact lh _ 0 rfl (by omega)
  exact loop _ 0 rfl (by omega)
set_option maxRecDepth 40000 in
set_option maxHeartbeats 4000000 in
theorem e_m_fits {M : Nat → Nat → Int32} {f_code f_land f_huts f_singers f_sight a b c : Int32} {a_run a_runs : Nat → Int32} {post : Int32 → (Int32) → (Int32) → (Int32) → (Int32) → (Nat → Int32) → (Int32) → (Nat → Int32) → Prop} (hc : ∀ o, iv 0 2 (M 4 o)) (hL : mLand (M 5)) (hS : mSig (M 7)) (hK : LK M) (hp : ∀ z0 z1 z2 z3 z4 z5 z6, post (AN_fits M a b c) z0 z1 z2 z3 z4 z5 z6) : q_m_fits_0 f_code (M 4) (M 5) (M 7) f_land f_huts f_singers a_run f_sight a_runs a b c post := by
  unfold AN_fits at hp
  refine e_hasSig (hc 2) (fun hno => iz ?_) (fun e he eb hy2 => oi (e_hand (hc 0) (fun hno => zi ?_) (fun k hk ea hy => io ?_)))
  · rw [if_neg (fun h9 => hno h9.2)] at hp; exact hp _ _ _ _ _ _ _
  · rw [if_neg (fun h9 => hno h9.1)] at hp; exact hp _ _ _ _ _ _ _
  rw [if_pos ⟨hy, hy2⟩] at hp
  subst ea eb
  have hO : LOK (rowM M 0 (nI k)) := LK_row hK hk hy.2
  have hR : RNG (rowM M 0 (nI k)) := RNG_M hL hk
  obtain ⟨n, hn, hn9⟩ := ln_of hR
  have hSG := SGr_of hS he
  obtain ⟨m, em, -, hm10, -⟩ := iv_nI hSG.1 (by decide)
  unfold FIT at hp
  rw [hn, cN_nI (by omega)] at hp
  intro P hP
  have loop : ∀ d j, d = m - j → j ≤ m → stB (tdM M k) (rowM M 2 (nI e)) j = true → P (nI j) := by
    intro d
    induction d using Nat.strongRecOn with
    | ind d ih =>
      intro j hd hj hI
      apply hP
      refine e_factsM he (pk_le m j (fun h9 => ?_) (fun h9 => ?_) em)
      · have hst : stB (tdM M k) (rowM M 2 (nI e)) (cN (rowM M 2 (nI e) 0)) = true := by rw [em, cN_nI (by omega), show m = j by omega]; exact hI
        have hin : ∀ j, j < cN (rowM M 2 (nI e) 0) → cN (rowM M 2 (nI e) (2 + 3 * j)) < n := st_in hn hn9 (by rw [em, cN_nI (by omega)]; omega) hSG hst
        rw [if_pos (show stB (rowM M 0 (nI k)) (rowM M 2 (nI e)) (cN (rowM M 2 (nI e) 0)) = true from hst)] at hp
        intro P2 hP2
        have lh : ∀ d2 h (run runs : Nat → Int32), d2 = n - h → h ≤ n → (∀ a u, a < h → u < n → runs (9 * a + u) = nI (upF (RUN (tdM M k) (tdM M k 3) n a u))) → P2 (mkB (fun h => !dam (tdM M k) h && agB (tdM M k) (rowM M 2 (nI e)) n h (cN (rowM M 2 (nI e) 0))) h) (nI h) run runs := by
          intro d2
          induction d2 using Nat.strongRecOn with
          | ind d2 ih2 =>
            intro h run runs hd2 hh hJ
            apply hP2
            refine pk_le n h (fun h8 => ?_) (fun h8 => ?_) hn
            · have ef : mkB (fun h => !dam (tdM M k) h && agB (tdM M k) (rowM M 2 (nI e)) n h (cN (rowM M 2 (nI e) 0))) h = FM (rowM M 0 (nI k)) (rowM M 2 (nI e)) n := by rw [show h = n by omega]; rfl
              rw [ef]
              refine ⟨fun c0 => ⟨fun f0 => ?_, fun f0 => ?_⟩, fun c0 => ?_⟩
              · rw [if_neg c0, if_neg f0] at hp
                exact e_askOfM (td := rowM M 0 (nI k)) hn hn9 (fun a b ha hb1 => hJ a b (by omega) hb1) (hp _ _ _ _ _ _ _)
              · rw [if_neg c0, if_pos f0] at hp; exact hp _ _ _ _ _ _ _
              · rw [if_pos c0] at hp; exact hp _ _ _ _ _ _ _
            · refine e_isFitM hk he hL hS hO hn hn9 h8 hin (fun run' runs' h1 h2 => ?_)
              have nx : ∀ y : Int32, y = (if (!dam (tdM M k) h && agB (tdM M k) (rowM M 2 (nI e)) n h (cN (rowM M 2 (nI e) 0))) = true then bitI h else 0) → q_m_fits_93 P2 0 (M 4) (M 5) (M 7) (nI k) (tdM M k 0) (tdM M k 1) run' (nI e) runs' c (nI h) (mkB (fun h => !dam (tdM M k) h && agB (tdM M k) (rowM M 2 (nI e)) n h (cN (rowM M 2 (nI e) 0))) h) y post := by
                intro y hy v1 ev1 v2 ev2
                rw [ev1, ev2, nI_1, hy]
                refine ih2 (n - (h + 1)) (by omega) (h + 1) run' runs' rfl (by omega) (fun a u2 ha hu => ?_)
                by_cases q : a = h
                · subst q; exact h1 u2 hu
                · rw [h2 _ (fun u3 hu3 => by omega)]; exact hJ a u2 (by omega) hu
              by_cases q : (!dam (tdM M k) h && agB (tdM M k) (rowM M 2 (nI e)) n h (cN (rowM M 2 (nI e) 0))) = true
              · rw [if_pos q]
                exact oi (nx _ (by rw [if_pos q]; rfl))
              · rw [if_neg q]
                exact iz (nx _ (by rw [if_neg q]))
        exact lh _ 0 a_run a_runs rfl (by omega) (fun a u2 ha => absurd ha (Nat.not_lt_zero a))
      · obtain ⟨s1, s2, s3⟩ := hSG.2 j (by omega)
        obtain ⟨w, ew, -, hw8, -⟩ := iv_nI s2 (by decide)
        refine e_factOfM he (by omega) (i := 1) (z := 2 + 3 * j) (by omega) rfl (by omega) ?_
        rw [ew]
        refine e_isH (k := w) (by omega) (by rw [hn]; exact iv_ofN (by omega) (by omega) (by omega)) (fun q => zi ?_) (fun q => io (fun v ev => ?_))
        · have q2 : stB (rowM M 0 (nI k)) (rowM M 2 (nI e)) (cN (rowM M 2 (nI e) 0)) = false := by
            rw [em, cN_nI (by omega)]
            exact stB_no (j := j) (by rw [ew]; exact q) m h9
          rw [if_neg (by rw [q2]; decide)] at hp
          exact hp _ _ _ _ _ _ _
        · rw [ev, nI_1]
          exact ih (m - (j + 1)) (by omega) (j + 1) rfl (by omega) (stB_s hI (by rw [ew]; exact q))
  exact loop _ 0 rfl (by omega) rfl
set_option maxRecDepth 40000 in
set_option maxHeartbeats 4000000 in
theorem e_x_fits {T : TT} {M : Nat → Nat → Int32} {a b c : Int32} {pa_heard : Nat → Int32} {post : Int32 → (Nat → Int32) → Prop} (h : TM T M 0) (hB : tB T) (hK : LK M) (hL : mLand (M 5)) (hS : mSig (M 7)) (hp : ∀ z0, post (AN_fits M a b c) z0) : q_wx_X10_fits_0 (T.2 1) (T.1 3) (T.1 6) (T.1 7) (T.2 2) (T.2 4) (T.2 5) (T.2 6) (T.1 10) (T.1 13) (T.1 14) (T.2 10) (T.2 12) (T.2 13) (T.2 14) (T.1 19) (T.2 24) (T.2 25) (T.2 26) (T.1 20) (T.2 27) (T.2 28) (T.2 29) pa_heard a b c post := by
  unfold AN_fits at hp
  rw [TM_cnt h 0 (by decide), TM_cnt h 2 (by decide)] at hp
  refine e_at (hB.2.2.1 0) (fun (hn : ¬ (0 ≤ a ∧ a < T.2 1 0)) => ?_) (fun ea hla => ?_) (fun ea hla => ?_)
  · rw [if_neg (fun h9 => hn h9.1)] at hp
    refine ⟨fun _ => ?_, fun h9 => absurd h9 (by decide), fun h9 => absurd rfl h9⟩
    refine e_at (hB.2.2.1 2) (fun (hm : ¬ (0 ≤ b ∧ b < T.2 1 2)) => ?_) (fun eb hlb => ?_) (fun eb hlb => ?_)
    · exact ⟨fun _ => hp _, fun h9 => absurd h9 (by decide), fun h9 => absurd rfl h9⟩
    · exact ⟨fun h9 => absurd h9 (by decide), fun h9 => absurd h9 (by decide), fun _ _ => hp _⟩
    · exact ⟨fun h9 => absurd h9 (by decide), fun _ => hp _, fun _ h9 => absurd rfl h9⟩
  · refine ⟨fun h9 => absurd h9 (by decide), fun h9 => absurd h9 (by decide), fun _ _ => ?_⟩
    refine e_at (hB.2.2.1 2) (fun (hm : ¬ (0 ≤ b ∧ b < T.2 1 2)) => ?_) (fun eb hlb => ?_) (fun eb hlb => ?_)
    · rw [if_neg (fun h9 => hm h9.2)] at hp
      exact ⟨fun _ => hp _, fun h9 => absurd h9 (by decide), fun h9 => absurd rfl h9⟩
    · rw [if_pos (by rw [ea, eb]; exact ⟨⟨by decide, hla⟩, by decide, hlb⟩), ea, eb] at hp
      have hLD : LDR (T.1 3) (T.1 4) (T.1 5) (T.1 6) (T.1 7) (T.1 8) (T.1 9) (T.2 2) (T.2 3) (T.2 4) (T.2 5) (T.2 6) (T.2 7) (T.2 8) (T.2 9) (rowM M 0 (nI 0)) := TM_sl h 0 0 (by decide) (by decide) hla
      have hEV : R3 (T.1 19) (T.2 24) (T.2 25) (T.2 26) (rowM M 2 (nI 0)) := TM_sl h 2 0 (by decide) (by decide) hlb
      have hOK : LOK (rowM M 0 (nI 0)) := LK_row hK (by decide) (by rw [TM_cnt h 0 (by decide)]; exact hla)
      refine ⟨fun h9 => absurd h9 (by decide), fun h9 => absurd h9 (by decide), fun _ _ => ?_⟩
      have hR : RNG (rowM M 0 (nI 0)) := RNG_M hL (by decide)
      have hX := LX_of hR hLD
      have hSG : SGr (rowM M 2 (nI 0)) := SGr_of hS (by decide)
      obtain ⟨n, hn, hn9⟩ := ln_of hR
      obtain ⟨m, em, -, hm10, -⟩ := iv_nI hSG.1 (by decide)
      unfold FIT at hp
      rw [hn, cN_nI (by omega)] at hp
      refine e_staysX (td := rowM M 0 (nI 0)) hEV hSG hX.1 (fun q => zi ?_) (fun q => io ?_)
      · rw [if_neg (by rw [q]; decide)] at hp; exact hp _
      · rw [if_pos q] at hp
        have hin : ∀ j, j < cN (rowM M 2 (nI 0) 0) → cN (rowM M 2 (nI 0) (2 + 3 * j)) < n := st_in hn hn9 (by rw [em, cN_nI (by omega)]; omega) hSG q
        refine e_hearX hR hX hn hn9 (fun t' ht => e_fittingX (td := rowM M 0 (nI 0)) (hX.1.trans hn) hX.2.2.1 hn9 hEV hSG hin ht ⟨fun c0 => ?_, fun c0 => e_questionX (td := rowM M 0 (nI 0)) (hX.1.trans hn) hn9 (mkB_iv n hn9) ht (fun f0 => ?_) (fun f0 => ?_)⟩)
        · rw [if_pos c0] at hp; exact hp _
        · rw [if_neg c0, if_pos f0] at hp; exact hp _
        · rw [if_neg c0, if_neg f0] at hp; exact hp _
    · rw [if_pos (by rw [ea, eb]; exact ⟨⟨by decide, hla⟩, by decide, hlb⟩), ea, eb] at hp
      have hLD : LDR (T.1 3) (T.1 4) (T.1 5) (T.1 6) (T.1 7) (T.1 8) (T.1 9) (T.2 2) (T.2 3) (T.2 4) (T.2 5) (T.2 6) (T.2 7) (T.2 8) (T.2 9) (rowM M 0 (nI 0)) := TM_sl h 0 0 (by decide) (by decide) hla
      have hEV : R3 (T.1 20) (T.2 27) (T.2 28) (T.2 29) (rowM M 2 (nI 1)) := TM_sl h 2 1 (by decide) (by decide) hlb
      have hOK : LOK (rowM M 0 (nI 0)) := LK_row hK (by decide) (by rw [TM_cnt h 0 (by decide)]; exact hla)
      refine ⟨fun h9 => absurd h9 (by decide), fun _ => ?_, fun _ h9 => absurd rfl h9⟩
      have hR : RNG (rowM M 0 (nI 0)) := RNG_M hL (by decide)
      have hX := LX_of hR hLD
      have hSG : SGr (rowM M 2 (nI 1)) := SGr_of hS (by decide)
      obtain ⟨n, hn, hn9⟩ := ln_of hR
      obtain ⟨m, em, -, hm10, -⟩ := iv_nI hSG.1 (by decide)
      unfold FIT at hp
      rw [hn, cN_nI (by omega)] at hp
      refine e_staysX (td := rowM M 0 (nI 0)) hEV hSG hX.1 (fun q => zi ?_) (fun q => io ?_)
      · rw [if_neg (by rw [q]; decide)] at hp; exact hp _
      · rw [if_pos q] at hp
        have hin : ∀ j, j < cN (rowM M 2 (nI 1) 0) → cN (rowM M 2 (nI 1) (2 + 3 * j)) < n := st_in hn hn9 (by rw [em, cN_nI (by omega)]; omega) hSG q
        refine e_hearX hR hX hn hn9 (fun t' ht => e_fittingX (td := rowM M 0 (nI 0)) (hX.1.trans hn) hX.2.2.1 hn9 hEV hSG hin ht ⟨fun c0 => ?_, fun c0 => e_questionX (td := rowM M 0 (nI 0)) (hX.1.trans hn) hn9 (mkB_iv n hn9) ht (fun f0 => ?_) (fun f0 => ?_)⟩)
        · rw [if_pos c0] at hp; exact hp _
        · rw [if_neg c0, if_pos f0] at hp; exact hp _
        · rw [if_neg c0, if_neg f0] at hp; exact hp _
  · refine ⟨fun h9 => absurd h9 (by decide), fun _ => ?_, fun _ h9 => absurd rfl h9⟩
    refine e_at (hB.2.2.1 2) (fun (hm : ¬ (0 ≤ b ∧ b < T.2 1 2)) => ?_) (fun eb hlb => ?_) (fun eb hlb => ?_)
    · rw [if_neg (fun h9 => hm h9.2)] at hp
      exact ⟨fun _ => hp _, fun h9 => absurd h9 (by decide), fun h9 => absurd rfl h9⟩
    · rw [if_pos (by rw [ea, eb]; exact ⟨⟨by decide, hla⟩, by decide, hlb⟩), ea, eb] at hp
      have hLD : LDR (T.1 10) (T.1 11) (T.1 12) (T.1 13) (T.1 14) (T.1 15) (T.1 16) (T.2 10) (T.2 11) (T.2 12) (T.2 13) (T.2 14) (T.2 15) (T.2 16) (T.2 17) (rowM M 0 (nI 1)) := TM_sl h 0 1 (by decide) (by decide) hla
      have hEV : R3 (T.1 19) (T.2 24) (T.2 25) (T.2 26) (rowM M 2 (nI 0)) := TM_sl h 2 0 (by decide) (by decide) hlb
      have hOK : LOK (rowM M 0 (nI 1)) := LK_row hK (by decide) (by rw [TM_cnt h 0 (by decide)]; exact hla)
      refine ⟨fun h9 => absurd h9 (by decide), fun h9 => absurd h9 (by decide), fun _ _ => ?_⟩
      have hR : RNG (rowM M 0 (nI 1)) := RNG_M hL (by decide)
      have hX := LX_of hR hLD
      have hSG : SGr (rowM M 2 (nI 0)) := SGr_of hS (by decide)
      obtain ⟨n, hn, hn9⟩ := ln_of hR
      obtain ⟨m, em, -, hm10, -⟩ := iv_nI hSG.1 (by decide)
      unfold FIT at hp
      rw [hn, cN_nI (by omega)] at hp
      refine e_staysX (td := rowM M 0 (nI 1)) hEV hSG hX.1 (fun q => zi ?_) (fun q => io ?_)
      · rw [if_neg (by rw [q]; decide)] at hp; exact hp _
      · rw [if_pos q] at hp
        have hin : ∀ j, j < cN (rowM M 2 (nI 0) 0) → cN (rowM M 2 (nI 0) (2 + 3 * j)) < n := st_in hn hn9 (by rw [em, cN_nI (by omega)]; omega) hSG q
        refine e_hearX hR hX hn hn9 (fun t' ht => e_fittingX (td := rowM M 0 (nI 1)) (hX.1.trans hn) hX.2.2.1 hn9 hEV hSG hin ht ⟨fun c0 => ?_, fun c0 => e_questionX (td := rowM M 0 (nI 1)) (hX.1.trans hn) hn9 (mkB_iv n hn9) ht (fun f0 => ?_) (fun f0 => ?_)⟩)
        · rw [if_pos c0] at hp; exact hp _
        · rw [if_neg c0, if_pos f0] at hp; exact hp _
        · rw [if_neg c0, if_neg f0] at hp; exact hp _
    · rw [if_pos (by rw [ea, eb]; exact ⟨⟨by decide, hla⟩, by decide, hlb⟩), ea, eb] at hp
      have hLD : LDR (T.1 10) (T.1 11) (T.1 12) (T.1 13) (T.1 14) (T.1 15) (T.1 16) (T.2 10) (T.2 11) (T.2 12) (T.2 13) (T.2 14) (T.2 15) (T.2 16) (T.2 17) (rowM M 0 (nI 1)) := TM_sl h 0 1 (by decide) (by decide) hla
      have hEV : R3 (T.1 20) (T.2 27) (T.2 28) (T.2 29) (rowM M 2 (nI 1)) := TM_sl h 2 1 (by decide) (by decide) hlb
      have hOK : LOK (rowM M 0 (nI 1)) := LK_row hK (by decide) (by rw [TM_cnt h 0 (by decide)]; exact hla)
      refine ⟨fun h9 => absurd h9 (by decide), fun _ => ?_, fun _ h9 => absurd rfl h9⟩
      have hR : RNG (rowM M 0 (nI 1)) := RNG_M hL (by decide)
      have hX := LX_of hR hLD
      have hSG : SGr (rowM M 2 (nI 1)) := SGr_of hS (by decide)
      obtain ⟨n, hn, hn9⟩ := ln_of hR
      obtain ⟨m, em, -, hm10, -⟩ := iv_nI hSG.1 (by decide)
      unfold FIT at hp
      rw [hn, cN_nI (by omega)] at hp
      refine e_staysX (td := rowM M 0 (nI 1)) hEV hSG hX.1 (fun q => zi ?_) (fun q => io ?_)
      · rw [if_neg (by rw [q]; decide)] at hp; exact hp _
      · rw [if_pos q] at hp
        have hin : ∀ j, j < cN (rowM M 2 (nI 1) 0) → cN (rowM M 2 (nI 1) (2 + 3 * j)) < n := st_in hn hn9 (by rw [em, cN_nI (by omega)]; omega) hSG q
        refine e_hearX hR hX hn hn9 (fun t' ht => e_fittingX (td := rowM M 0 (nI 1)) (hX.1.trans hn) hX.2.2.1 hn9 hEV hSG hin ht ⟨fun c0 => ?_, fun c0 => e_questionX (td := rowM M 0 (nI 1)) (hX.1.trans hn) hn9 (mkB_iv n hn9) ht (fun f0 => ?_) (fun f0 => ?_)⟩)
        · rw [if_pos c0] at hp; exact hp _
        · rw [if_neg c0, if_pos f0] at hp; exact hp _
        · rw [if_neg c0, if_neg f0] at hp; exact hp _
end
section
section
variable {td : Nat → Int32} {huts singers villages dams echoes deep slide : Int32} {heights ladders minutes echoFrom echoTo homes talls known : Nat → Int32}
theorem e_earX2 {h : Nat} {post : Int32 → Prop} (hR : RNG td) (hd : dams = td 3) (he : echoes = td 4) (hf : ∀ j : Nat, j < 4 → nI j < td 4 → echoFrom j = td (43 + 2 * j) ∧ echoTo j = td (44 + 2 * j)) (hh : h < 9) (hp : ∀ set, (∀ x, x < 32 → hb set x = hear td h x) → post set) : q_wl_X2_earshot_0 dams echoes echoFrom echoTo (nI h) post := by
  have h4 : iv 0 4 (td 4) := hR 4 (by omega)
  obtain ⟨c, hc, -, hc4, -⟩ := iv_nI h4 (by decide)
  have st : ∀ y : Int32, (∀ x, x < 32 → hb y x = (!dam td x && decide (x = h))) → q_wl_X2_earshot_15 dams echoes echoFrom echoTo (nI h) y post := by
    intro y hy P hP
    have loop : ∀ m j (x2 : Int32), m = c - j → j ≤ c → (∀ x, x < 32 → hb x2 x = (!dam td x && (decide (x = h) || ech td h x j))) → P x2 (nI j) := by
      intro m
      induction m using Nat.strongRecOn with
      | ind m ih =>
        intro j x2 hm hj hx
        apply hP
        rw [he, hc]
        refine pk_le c j (fun h9 => ?_) (fun h9 => ?_)
        · refine hp x2 (fun x hx9 => ?_)
          rw [hx x hx9]
          unfold hear
          rw [hc, cN_nI (by omega), show j = c by omega]
        · have hin : vp_in (nI j) 4 := vp_in_nI (by omega) (by omega)
          have hl4 : nI j < td 4 := by rw [hc]; exact nI_lt h9 (by omega)
          obtain ⟨f1, f2⟩ := hf j (by omega) hl4
          have nx : ∀ x2' : Int32, (∀ x, x < 32 → hb x2' x = (!dam td x && (decide (x = h) || ech td h x (j + 1)))) → q_wl_X2_earshot_60 P dams (nI c) echoFrom echoTo (nI h) x2' (nI j) post := by
            intro x2' h2 v ev
            rw [ev, nI_1]
            exact ih (c - (j + 1)) (by omega) (j + 1) x2' rfl (by omega) h2
          have st1 : ∀ x, ech td h x (j + 1) = (ech td h x j || (decide (td (43 + 2 * j) = nI h) && decide (td (44 + 2 * j) = nI x))) := fun x => rfl
          refine ⟨hin, ?_⟩
          rw [nI_clamp (by omega), f1, f2]
          refine ⟨fun hne => nx x2 (fun x hx9 => ?_), fun heq => ⟨hin, ?_⟩⟩
          · rw [hx x hx9, st1, decide_eq_false hne, Bool.false_and, Bool.or_false]
          · have hy8 : iv 0 8 (td (44 + 2 * j)) := iv_w (hR (44 + 2 * j) (by omega)) (by
              have hcs : j = 0 ∨ j = 1 ∨ j = 2 ∨ j = 3 := by omega
              rcases hcs with rfl | rfl | rfl | rfl <;> decide)
            obtain ⟨y2, ey, -, hy2, -⟩ := iv_nI hy8 (by decide)
            rw [ey]
            have ex : ∀ x, x < 32 → (decide (td (43 + 2 * j) = nI h) && decide (td (44 + 2 * j) = nI x)) = decide (y2 = x) := by
              intro x hx9
              rw [decide_eq_true heq, Bool.true_and, ey]
              by_cases e : y2 = x
              · subst e; rw [decide_eq_true rfl, decide_eq_true rfl]
              · rw [decide_eq_false e, decide_eq_false (fun h8 => e ((nI_eq (by omega) (by omega)).mp h8))]
            refine e_damX (by omega) (fun hd0 => zi ⟨hin, fun v ev => nx v (fun x hx9 => ?_)⟩) (fun hd1 => io (nx x2 (fun x hx9 => ?_)))
            · rw [ev, hb_or, hx x hx9, show ∀ i, hb ((1 : Int32) <<< (nI i &&& 31)) x = hb (bitI i) x from fun _ => rfl, hb_b32' (by omega) hx9, st1, ex x hx9]
              rw [hd] at hd0
              by_cases e : y2 = x
              · subst e
                unfold dam
                rw [hd0, decide_eq_true rfl]
                simp
              · rw [decide_eq_false e, Bool.or_false, Bool.or_false]
            · rw [hx x hx9, st1, ex x hx9]
              rw [hd] at hd1
              by_cases e : y2 = x
              · subst e
                unfold dam
                rw [hd1]
                rfl
              · rw [decide_eq_false e, Bool.or_false]
    exact loop _ 0 y rfl (by omega) (fun x hx9 => by rw [hy x hx9]; show _ = (!dam td x && (decide (x = h) || false)); rw [Bool.or_false])
  refine e_damX (by omega) (fun hd0 => iz (st _ (fun x hx9 => ?_))) (fun hd1 => oi (st 0 (fun x hx9 => ?_)))
  · rw [show ∀ i, hb ((1 : Int32) <<< (nI i &&& 31)) x = hb (bitI i) x from fun _ => rfl, hb_b32' (by omega) hx9]
    rw [hd] at hd0
    by_cases e : h = x
    · subst e
      unfold dam
      rw [hd0, decide_eq_true rfl]
      rfl
    · rw [decide_eq_false e, de_ne e, Bool.and_false]
  · rw [hb_0]
    rw [hd] at hd1
    by_cases e : h = x
    · subst e
      unfold dam
      rw [hd1]
      rfl
    · rw [de_ne e, Bool.and_false]
/-- the way the sound goes on, at once or by a way down -/
def NXT (td : Nat → Int32) (a b : Nat) : Bool := !dam td a && (hear td a b || leadB td a b)
theorem NXT_EL {td : Nat → Int32} {a b : Nat} : EL td (td 3) a b = NXT td a b := by
  unfold EL NXT hear leadB echB dam
  cases hb (td 3) a <;> cases hb (td 3) b <;> cases decide (0 < td (51 + 9 * a + b)) <;> cases decide (td (7 + b) < td (7 + a)) <;> cases ech td a b (cN (td 4)) <;> (by_cases e : a = b) <;> simp [e, eq_comm]
theorem EL_sh {td : Nat → Int32} {x : Int32} {a b : Nat} : EL td (td 3 ||| x) a b = (NXT td a b && (!hb x a && !hb x b)) := by
  rw [← NXT_EL]
  unfold EL
  rw [hb_or, hb_or]
  cases hb (td 3) a <;> cases hb (td 3) b <;> cases hb x a <;> cases hb x b <;> simp
theorem e_linkX {t : Nat → Int32} {n : Nat} {post : (Nat → Int32) → Prop} (hR : RNG td) (hD : LX td huts singers dams echoes deep heights ladders minutes echoFrom echoTo talls) (hO : LOK td) (hn : td 0 = nI n) (hn9 : n ≤ 9) (hp : ∀ t', (∀ a b, a < n → b < 32 → hb (t' a) b = (decide (b < n) && NXT td a b)) → post t') : q_wp_X7_link_9_0 t huts dams echoes heights minutes echoFrom echoTo post := by
  have h0 : huts = nI n := hD.1.trans hn
  have hlt : ∀ a b, a < n → b < 32 → hear td a b = true → b < n := by
    intro a b ha hb1 h
    unfold hear at h
    rw [Bool.and_eq_true, Bool.or_eq_true] at h
    rcases h.2 with h | h
    · have := of_decide_eq_true h
      omega
    · obtain ⟨k, hk, -, e2⟩ := (ech_iff _).mp h
      have h4 : iv 0 4 (td 4) := hR 4 (by omega)
      obtain ⟨c, hc, -, hc4, -⟩ := iv_nI h4 (by decide)
      rw [hc, cN_nI (by omega)] at hk
      have g := (hO.2.1 k (by omega) (by rw [hc]; exact nI_lt hk (by omega))).2
      rw [e2, hn] at g
      exact (nI_ltI (by omega) (by omega)).mp g
  intro P hP
  have loop : ∀ d a (t : Nat → Int32), d = n - a → a ≤ n → (∀ a' b, a' < a → b < 32 → hb (t a') b = (decide (b < n) && NXT td a' b)) → P (nI a) t := by
    intro d
    induction d using Nat.strongRecOn with
    | ind d ih =>
      intro a t hd ha hI
      apply hP
      refine pk_le n a (fun h9 => hp t (fun a' b ha' hb1 => hI a' b (by omega) hb1)) (fun h9 => ?_) h0
      have row : ∀ y : Int32, (∀ b, b < 32 → hb y b = (!dam td a && hear td a b)) → q_wp_X7_link_9_32 P t huts dams echoes heights minutes echoFrom echoTo (nI a) (nI a) y post := by
        intro y hy
        refine ⟨vp_in_nI (by omega) (by omega), fun t1 e1 => ?_⟩
        rw [nI_clamp (by omega)] at e1
        intro P2 hP2
        have loop2 : ∀ d b (t : Nat → Int32), d = n - b → b ≤ n → (∀ a' b, a' < a → b < 32 → hb (t a') b = (decide (b < n) && NXT td a' b)) → (∀ b', b' < 32 → hb (t a) b' = ((!dam td a && hear td a b') || (decide (b' < b) && leadB td a b'))) → P2 (nI b) t := by
          intro d
          induction d using Nat.strongRecOn with
          | ind d ih2 =>
            intro b t hd2 hbn hI2 hrow
            apply hP2
            refine pk_le n b (fun h8 v ev => ?_) (fun h8 => ?_) h0
            · rw [ev, nI_1]
              refine ih (n - (a + 1)) (by omega) (a + 1) t rfl (by omega) (fun a' b' ha' hb1 => ?_)
              by_cases e : a' = a
              · subst e
                rw [hrow b' hb1, show b = n by omega]
                unfold NXT
                by_cases q : b' < n
                · rw [decide_eq_true q]
                  unfold leadB
                  cases dam td a' <;> simp
                · rw [decide_eq_false q]
                  have : hear td a' b' = false := by
                    rw [← Bool.not_eq_true]
                    exact fun h => q (hlt a' b' h9 hb1 h)
                  rw [this]
                  simp
              · exact hI2 a' b' (by omega) hb1
            · have nx : ∀ t' : Nat → Int32, (∀ a' b, a' < a → b < 32 → hb (t' a') b = (decide (b < n) && NXT td a' b)) → (∀ b', b' < 32 → hb (t' a) b' = ((!dam td a && hear td a b') || (decide (b' < b + 1) && leadB td a b'))) → q_wp_X7_link_9_64 P P2 t' huts dams echoes heights minutes echoFrom echoTo (nI a) (nI b) post := by
                intro t' k1 k2 v ev
                rw [ev, nI_1]
                exact ih2 (n - (b + 1)) (by omega) (b + 1) t' rfl (by omega) k1 k2
              have hina : vp_in (nI a) 9 := vp_in_nI (by omega) (by omega)
              refine e_leadsX hD hn hn9 h9 h8 (fun q => iz (nx t hI2 (fun b' hb1 => ?_))) (fun q => oi ⟨hina, fun v ev => ⟨hina, fun t' et => nx t' (fun a' b' ha' hb1 => ?_) (fun b' hb1 => ?_)⟩⟩)
              · rw [hrow b' hb1]
                by_cases e : b' = b
                · subst e; rw [q, Bool.and_false, Bool.and_false]
                · by_cases e2 : b' < b
                  · rw [decide_eq_true e2, decide_eq_true (by omega)]
                  · rw [decide_eq_false e2, decide_eq_false (by omega)]
              · rw [et, nI_clamp (by omega), up_n (by omega)]; exact hI2 a' b' ha' hb1
              · rw [nI_clamp (by omega)] at ev et
                rw [et, up_s, ev, hb_or, hrow b' hb1, show hb ((1 : Int32) <<< (nI b &&& 31)) b' = decide (b = b') from hb_b32' (by omega) hb1]
                by_cases e : b' = b
                · subst e
                  rw [q, decide_eq_true (rfl : b' = b'), decide_eq_true (by omega : b' < b' + 1)]
                  simp
                · rw [decide_eq_false (show ¬ b = b' from fun h => e h.symm)]
                  by_cases e2 : b' < b
                  · rw [decide_eq_true e2, decide_eq_true (by omega), Bool.or_false]
                  · rw [decide_eq_false e2, decide_eq_false (by omega), Bool.or_false]
        refine loop2 _ 0 t1 rfl (by omega) (fun a' b ha' hb1 => by rw [e1, up_n (by omega)]; exact hI a' b ha' hb1) (fun b' hb1 => ?_)
        rw [e1, up_s, hy b' hb1, decide_eq_false (Nat.not_lt_zero b'), Bool.false_and, Bool.or_false]
      refine e_damX (by omega) (fun q => iz ?_) (fun q => oi (row 0 (fun b hb1 => ?_)))
      · rw [hD.2.2.1] at q ⊢
        refine e_earX2 hR rfl hD.2.2.2.1 hD.2.2.2.2.2.2.2.2.1 (by omega) (fun set hset => ?_)
        have g := row set (fun b hb1 => by rw [hset b hb1]; unfold dam; rw [q]; rfl)
        rw [hD.2.2.1] at g
        exact g
      · rw [hD.2.2.1] at q
        rw [hb_0]
        unfold dam
        rw [q]
        rfl
  exact loop _ 0 t rfl (by omega) (fun a' b ha' => absurd ha' (Nat.not_lt_zero a'))
end
/-- whom the sound reaches when x too is dammed -/
def RSB (td : Nat → Int32) (x : Int32) (n f h : Nat) : Bool := decide (RUN td (td 3 ||| x) n f h < 1000)
theorem clB_f {E : Nat → Nat → Bool} {n f : Nat} : clB E n f f = true := @decide_eq_true _ (Classical.propDecidable _) (fun _ c1 _ => c1)
theorem clB_s {E : Nat → Nat → Bool} {n f a b : Nat} (ha : a < n) (hb1 : b < n) (h : clB E n f a = true) (he : E a b = true) : clB E n f b = true := by
  have g := @of_decide_eq_true _ (Classical.propDecidable _) h
  exact @decide_eq_true _ (Classical.propDecidable _) (fun C c1 c2 => c2 a b ha hb1 (g C c1 c2) he)
theorem clB_i {E : Nat → Nat → Bool} {n f h : Nat} (hc : clB E n f h = true) (C : Nat → Bool) (c1 : C f = true) (c2 : ∀ a b, a < n → b < n → C a = true → E a b = true → C b = true) : C h = true :=
  (@of_decide_eq_true _ (Classical.propDecidable _) hc) C c1 c2
theorem RS_cl {td : Nat → Int32} {x : Int32} {n f h : Nat} (hn9 : n ≤ 9) (hf : f < n) (hh : h < n) (hd : dam td f = false) (hx : hb x f = false) : RSB td x n f h = clB (fun a b => NXT td a b && !hb x b) n f h := by
  have hE : ∀ a b, EL td (td 3 ||| x) a b = (NXT td a b && (!hb x a && !hb x b)) := fun a b => EL_sh
  have hff : EL td (td 3 ||| x) f f = true := by
    rw [hE, hx]
    unfold NXT hear
    rw [hd, decide_eq_true (rfl : f = f)]
    rfl
  have e1 : RSB td x n f h = true ↔ clB (fun a b => NXT td a b && !hb x b) n f h = true := by
    constructor
    · intro h1
      refine SD_cl (E := EL td (td 3 ||| x)) (W := WL td) (F := 1000) (C := fun u => clB (fun a b => NXT td a b && !hb x b) n f u = true) hf hh (fun a b ha hb1 hc he => clB_s ha hb1 hc ?_) (of_decide_eq_true h1) clB_f
      rw [hE, Bool.and_eq_true, Bool.and_eq_true] at he
      show (NXT td a b && !hb x b) = true
      rw [he.1, he.2.2]
      rfl
    · intro h1
      have g := clB_i h1 (fun u => RSB td x n f u && !hb x u) ?_ ?_
      · exact (Bool.and_eq_true _ _ ▸ g).1
      · show (RSB td x n f f && !hb x f) = true
        have := SD_e (E := EL td (td 3 ||| x)) (W := WL td) (F := 1000) (n := n) hff
        have h0 := WL_0 (td := td) f
        rw [hx, Bool.not_false, Bool.and_true]
        exact decide_eq_true (show SD (EL td (td 3 ||| x)) (WL td) 1000 n f f < 1000 by omega)
      · intro a b ha hb1 hc he
        have hc2 : RSB td x n f a = true ∧ (!hb x a) = true := by
          have := hc
          rw [Bool.and_eq_true] at this
          exact this
        rw [Bool.and_eq_true] at he
        have hab : EL td (td 3 ||| x) a b = true := by
          rw [hE, he.1, hc2.2, he.2]
          rfl
        show (RSB td x n f b && !hb x b) = true
        rw [he.2, Bool.and_true]
        exact decide_eq_true (SD_fin WL_le (by omega) hn9 hf ha hff (WL_0 f) hab (of_decide_eq_true hc2.1))
  cases h1 : clB (fun a b => NXT td a b && !hb x b) n f h with
  | true => exact e1.mpr h1
  | false =>
    rw [← Bool.not_eq_true]
    intro h2
    rw [e1.mp h2] at h1
    exact absurd h1 (by decide)
theorem e_reachP {links : Nat → Int32} {bar : Int32} {n f : Nat} {x0 x2 : Int32} {post : Int32 → Prop} (hn : n ≤ 9) (hf : f < n) (hx : x0 = nI f) (hb2 : x2 = bar) (hl : ∀ a, a < n → ∀ b, b < 32 → hb (links a) b = true → b < n) (hp : ∀ set, (∀ h, h < 32 → hb set h = (decide (h < n) && clB (fun a b => hb (links a) b && !hb bar b) n f h)) → post set) : q_wp_X7_reach_5_0 links x0 x2 post := by
  subst hx
  subst hb2
  intro v1 e1
  have e1' : v1 = bitI f := e1
  intro P hP
  have dn : ∀ (s : Int32), hb s f = true → (∀ k, k < 32 → hb s k = true → k < n) → (∀ C : Nat → Bool, C f = true → (∀ a b, a < n → b < n → C a = true → (hb (links a) b && !hb x2 b) = true → C b = true) → ∀ h, h < n → hb s h = true → C h = true) → (∀ a b, a < n → b < n → hb s a = true → (hb (links a) b && !hb x2 b) = true → hb s b = true) → post s := by
    intro s s1 s2 s3 s4
    refine hp s (fun h hh => ?_)
    by_cases hhn : h < n
    · rw [decide_eq_true hhn, Bool.true_and]
      exact cl_eq (S := hb s) s1 s4 s3 h hhn
    · rw [decide_eq_false hhn, Bool.false_and, ← Bool.not_eq_true]
      exact fun h9 => hhn (s2 h hh h9)
  have loop : ∀ m r (s : Int32), m = 9 - r → r ≤ 9 → hb s f = true → (∀ k, k < 32 → hb s k = true → k < n) → (∀ C : Nat → Bool, C f = true → (∀ a b, a < n → b < n → C a = true → (hb (links a) b && !hb x2 b) = true → C b = true) → ∀ h, h < n → hb s h = true → C h = true) → r + 1 ≤ cntB (hb s) 9 → P s (nI r) := by
    intro m
    induction m using Nat.strongRecOn with
    | ind m ih =>
      intro r s hm hr s1 s2 s3 hc
      apply hP
      refine pk_le 9 r (fun h9 => ?_) (fun h9 => ?_)
      · have := cnt_le (hb s) 9
        omega
      · intro P2 hP2
        have loop2 : ∀ m j (x : Int32), m = 9 - j → j ≤ 9 → (∀ k, k < 32 → hb s k = true → hb x k = true) → (∀ k, k < 32 → hb x k = true → k < n) → (∀ C : Nat → Bool, C f = true → (∀ a b, a < n → b < n → C a = true → (hb (links a) b && !hb x2 b) = true → C b = true) → ∀ h, h < n → hb x h = true → C h = true) → (∀ a b, a < j → b < 32 → hb s a = true → (hb (links a) b && !hb x2 b) = true → hb x b = true) → P2 x (nI j) := by
          intro m
          induction m using Nat.strongRecOn with
          | ind m ih2 =>
            intro j x hm2 hj x1 x2' x3 x4
            apply hP2
            refine pk_le 9 j (fun h8 => ?_) (fun h8 => ?_)
            · refine ⟨fun hne => fun v ev => ?_, fun heq => ?_⟩
              · rw [ev, nI_1]
                refine ih (9 - (r + 1)) (by omega) (r + 1) x rfl (by omega) (x1 f (by omega) s1) x2' x3 ?_
                have hd : ∃ k, k < 9 ∧ hb x k = true ∧ hb s k = false := by
                  apply Classical.byContradiction
                  intro hno
                  apply hne
                  apply hb_eq
                  intro k hk
                  by_cases hsk : hb s k = true
                  · rw [hsk, x1 k hk hsk]
                  · rw [Bool.not_eq_true] at hsk
                    rw [hsk, ← Bool.not_eq_true]
                    intro hxk
                    exact hno ⟨k, by have := x2' k hk hxk; omega, hxk, hsk⟩
                have := cnt_lt 9 (fun k hk => x1 k (by omega)) hd
                omega
              · refine dn s s1 s2 s3 (fun a b ha hb1 hsa hE => ?_)
                rw [← heq]
                exact x4 a b (by omega) (by omega) hsa hE
            · have nx : ∀ y : Int32, (∀ k, k < 32 → hb s k = true → hb y k = true) → (∀ k, k < 32 → hb y k = true → k < n) → (∀ C : Nat → Bool, C f = true → (∀ a b, a < n → b < n → C a = true → (hb (links a) b && !hb x2 b) = true → C b = true) → ∀ h, h < n → hb y h = true → C h = true) → (∀ a b, a < j + 1 → b < 32 → hb s a = true → (hb (links a) b && !hb x2 b) = true → hb y b = true) → q_wp_X7_reach_5_49 P P2 links x2 s (nI r) y (nI j) post := by
                intro y y1 y2 y3 y4 v ev
                rw [ev, nI_1]
                exact ih2 (9 - (j + 1)) (by omega) (j + 1) y rfl (by omega) y1 y2 y3 y4
              refine e_hasX (by omega) (fun hh0 => iz (nx x x1 x2' x3 (fun a b ha hb1 hsa hE => ?_))) (fun hh1 => oi ⟨vp_in_nI h8 (by omega), fun v ev => ?_⟩)
              · by_cases e : a = j
                · subst e; rw [hh0] at hsa; exact absurd hsa (by decide)
                · exact x4 a b (by omega) hb1 hsa hE
              · rw [nI_clamp (by omega)] at ev
                have hv : ∀ k, k < 32 → hb v k = (hb x k || (hb (links j) k && !hb x2 k)) := fun k hk => by rw [ev, hb_or, hb_and, hb_not _ hk]
                have hjn : j < n := s2 j (by omega) hh1
                refine nx v (fun k hk h => by rw [hv k hk, x1 k hk h]; rfl) (fun k hk h => ?_) (fun C c1 c2 k hk h => ?_) (fun a b ha hb1 hsa hE => ?_)
                · rw [hv k hk, Bool.or_eq_true] at h
                  rcases h with h | h
                  · exact x2' k hk h
                  · rw [Bool.and_eq_true] at h
                    exact hl j hjn k hk h.1
                · rw [hv k (by omega), Bool.or_eq_true] at h
                  rcases h with h | h
                  · exact x3 C c1 c2 k hk h
                  · exact c2 j k hjn hk (s3 C c1 c2 j hjn hh1) h
                · rw [hv b hb1]
                  by_cases e : a = j
                  · subst e; rw [hE, Bool.or_true]
                  · rw [x4 a b (by omega) hb1 hsa hE]; rfl
        exact loop2 _ 0 s rfl (by omega) (fun k _ h => h) s2 s3 (fun a b ha => absurd ha (Nat.not_lt_zero a))
  have hbf : ∀ k, k < 32 → hb v1 k = decide (f = k) := fun k hk => by rw [e1']; exact hb_b32 (by omega) hk
  refine loop _ 0 v1 rfl (by omega) (by rw [hbf f (by omega), decide_eq_true rfl]) (fun k hk h => ?_) (fun C c1 c2 h hh hs => ?_) ?_
  · rw [hbf k hk] at h
    have := of_decide_eq_true h
    omega
  · rw [hbf h (by omega)] at hs
    rw [← of_decide_eq_true hs]
    exact c1
  · have g := cnt_lt (p := fun _ => false) (q := hb v1) 9 (fun _ _ h => absurd h (by decide)) ⟨f, by omega, by rw [hbf f (by omega), decide_eq_true rfl], rfl⟩
    omega
theorem e_reachRS {td links : Nat → Int32} {x x0 x2 : Int32} {n f : Nat} {post : Int32 → Prop} (hn9 : n ≤ 9) (hf : f < n) (hd : dam td f = false) (hx : hb x f = false) (h0 : x0 = nI f) (h2 : x2 = x) (hl : ∀ a b, a < n → b < 32 → hb (links a) b = (decide (b < n) && NXT td a b)) (hp : post (mkB (RSB td x n f) n)) : q_wp_X7_reach_5_0 links x0 x2 post := by
  refine e_reachP (bar := x) hn9 hf h0 h2 (fun a ha b hb1 h => ?_) (fun set hset => ?_)
  · rw [hl a b ha hb1, Bool.and_eq_true] at h
    exact of_decide_eq_true h.1
  · have e : set = mkB (RSB td x n f) n := by
      apply hb_eq
      intro k hk
      rw [hset k hk, hb_mkB hk n (by omega)]
      by_cases q : k < n
      · rw [RS_cl hn9 hf q hd hx]
        congr 1
        have hcl : ∀ E E' : Nat → Nat → Bool, (∀ a b, a < n → b < n → E a b = E' a b) → clB E n f k = true → clB E' n f k = true := fun E E' hEE h => @decide_eq_true _ (Classical.propDecidable _) (fun C c1 c2 => clB_i h C c1 (fun a b ha hb1 hc he => c2 a b ha hb1 hc (by rw [← hEE a b ha hb1]; exact he)))
        have hee : ∀ a b, a < n → b < n → (hb (links a) b && !hb x b) = (NXT td a b && !hb x b) := fun a b ha hb1 => by rw [hl a b ha (by omega), decide_eq_true hb1, Bool.true_and]
        cases h1 : clB (fun a b => NXT td a b && !hb x b) n f k with
        | true => exact hcl _ _ (fun a b ha hb1 => (hee a b ha hb1).symm) h1
        | false =>
          rw [← Bool.not_eq_true]
          intro h3
          rw [hcl _ _ hee h3] at h1
          exact absurd h1 (by decide)
      · rw [decide_eq_false q, Bool.false_and, Bool.false_and]
    rw [e]
    exact hp
theorem e_comesByM {td : Nat → Int32} {run : Nat → Int32} {huts x sh : Int32} {n f : Nat} {post : Int32 → Prop} (h0 : huts = nI n) (hn9 : n ≤ 9) (hx : x = nI 999999) (hr : ∀ h, h < n → run h = nI (upF (RUN td sh n f h))) (hp : post (mkB (fun h => decide (RUN td sh n f h < 1000)) n)) : q_m_comesBy_0 huts run x post := by
  subst hx
  intro P hP
  have loop : ∀ d h, d = n - h → h ≤ n → P (mkB (fun h => decide (RUN td sh n f h < 1000)) h) (nI h) := by
    intro d
    induction d using Nat.strongRecOn with
    | ind d ih =>
      intro h hd hh
      apply hP
      refine pk_le n h (fun h9 => by rw [show h = n by omega]; exact hp) (fun h9 => ⟨vp_in_nI (by omega) (by omega), ?_⟩) h0
      have e : mkB (fun h => decide (RUN td sh n f h < 1000)) (h + 1) = mkB (fun h => decide (RUN td sh n f h < 1000)) h ||| (if decide (RUN td sh n f h < 1000) = true then bitI h else 0) := rfl
      have nx : ∀ y : Int32, y = (if decide (RUN td sh n f h < 1000) = true then bitI h else 0) → q_m_comesBy_30 P huts run (nI 999999) (nI h) (mkB (fun h => decide (RUN td sh n f h < 1000)) h) y post := by
        intro y hy v1 ev1 v2 ev2
        rw [ev1, ev2, nI_1, hy]
        exact ih (n - (h + 1)) (by omega) (h + 1) rfl (by omega)
      rw [nI_clamp (by omega), hr h h9]
      have ub : upF (RUN td sh n f h) < 2 ^ 30 := upF_b
      have hup : 999999 < upF (RUN td sh n f h) ↔ ¬ RUN td sh n f h < 1000 := by
        unfold upF
        split <;> omega
      refine pk_lt 999999 (upF (RUN td sh n f h)) (fun q => nx _ ?_) (fun q => nx _ ?_) rfl rfl (by omega) (by omega)
      · rw [if_neg (by rw [decide_eq_false (hup.mp q)]; decide)]
      · rw [if_pos (decide_eq_true (Classical.byContradiction (fun q2 => by have := hup.mpr q2; omega)))]
        rfl
  exact loop _ 0 rfl (by omega)
def muS (td : Nat → Int32) (n f t : Nat) : Int32 := (mkB (RSB td 0 n f) n &&& (mkB (RSB td (bitI t) n f) n ^^^ (-1))) &&& (bitI t ^^^ (-1))
def MUT (td : Nat → Int32) (n f t : Nat) : Nat := cntB (hb (muS td n f t)) 9
theorem muS_iv {td : Nat → Int32} {n f t : Nat} (hn9 : n ≤ 9) : iv 0 511 (muS td n f t) := iv_andl (c := 0) (d := 511) (iv_andl (c := 0) (d := 511) (l := 0) (h := 511) (mkB_iv n hn9) (by decide)) (by decide)
theorem RS_ff {td : Nat → Int32} {x : Int32} {n f : Nat} (hn9 : n ≤ 9) (hf : f < n) (hd : dam td f = false) (hx : hb x f = false) : RSB td x n f f = true := by
  rw [RS_cl hn9 hf hf hd hx]
  exact clB_f
theorem e_mutedX {td links : Nat → Int32} {x1 x2 : Int32} {n f t : Nat} {post : Int32 → Prop} (hn9 : n ≤ 9) (hf : f < n) (ht : t < n) (hft : ¬ f = t) (hd : dam td f = false) (h1 : x1 = nI f) (h2 : x2 = nI t) (hl : ∀ a b, a < n → b < 32 → hb (links a) b = (decide (b < n) && NXT td a b)) (hp : post (nI (MUT td n f t))) : q_wp_X7_muted_0 links x1 x2 post := by
  subst h2
  refine e_reachRS hn9 hf hd (hb_0 f) h1 rfl hl (e_reachRS (x := bitI t) hn9 hf hd (by rw [hb_b32' (by omega) (by omega), decide_eq_false (fun h => hft h.symm)]) h1 rfl hl (e_bc ?_ hp))
  exact muS_iv hn9
theorem e_mutesOfM {M : Nat → Nat → Int32} {run : Nat → Int32} {x1 x2 : Int32} {k n f t : Nat} {post : Int32 → (Nat → Int32) → Prop} (hk : k < 2) (hL : mLand (M 5)) (hO : LOK (tdM M k)) (hn : tdM M k 0 = nI n) (hn9 : n ≤ 9) (hf : f < n) (ht : t < n) (hft : ¬ f = t) (hd : dam (tdM M k) f = false) (h1 : x1 = nI f) (h2 : x2 = nI t) (hp : ∀ run', post (nI (MUT (tdM M k) n f t)) run') : q_m_mutesOf_0 (M 5) (nI k) (tdM M k 0) run x1 x2 post := by
  subst h1 h2
  refine e_runM hk hL hO hn hn9 hf rfl (fun r1 hr1 => e_comesByM hn hn9 rfl hr1 (e_runM hk hL hO hn hn9 hf rfl (fun r2 hr2 => e_comesByM hn hn9 rfl hr2 (e_onesM ?_))))
  have e : ((mkB (RSB (tdM M k) 0 n f) n &&& (mkB (RSB (tdM M k) (bitI t) n f) n ^^^ (-1))) &&& (((1 : Int32) <<< (nI f &&& 31)) ^^^ (-1))) &&& (((1 : Int32) <<< (nI t &&& 31)) ^^^ (-1)) = muS (tdM M k) n f t := by
    apply hb_eq
    intro h hh
    show hb (((mkB (RSB (tdM M k) 0 n f) n &&& (mkB (RSB (tdM M k) (bitI t) n f) n ^^^ (-1))) &&& (bitI f ^^^ (-1))) &&& (bitI t ^^^ (-1))) h = hb ((mkB (RSB (tdM M k) 0 n f) n &&& (mkB (RSB (tdM M k) (bitI t) n f) n ^^^ (-1))) &&& (bitI t ^^^ (-1))) h
    rw [hb_and _ (bitI t ^^^ (-1)) h, hb_and _ (bitI t ^^^ (-1)) h, hb_and _ (bitI f ^^^ (-1)) h, hb_and (mkB (RSB (tdM M k) 0 n f) n) _ h, hb_not (bitI f) hh, hb_b32' (show f < 31 by omega) hh, hb_not (mkB (RSB (tdM M k) (bitI t) n f) n) hh, hb_mkB (p := RSB (tdM M k) (bitI t) n f) hh n (by omega)]
    by_cases q : f = h
    · subst q
      rw [RS_ff hn9 hf hd (by rw [hb_b32' (by omega) (by omega), decide_eq_false (fun h => hft h.symm)]), decide_eq_true hf]
      simp
    · rw [decide_eq_false q, Bool.not_false, Bool.and_true]
  show post (nI (cntB (hb (((mkB (RSB (tdM M k) 0 n f) n &&& (mkB (RSB (tdM M k) (bitI t) n f) n ^^^ (-1))) &&& (((1 : Int32) <<< (nI f &&& 31)) ^^^ (-1))) &&& (((1 : Int32) <<< (nI t &&& 31)) ^^^ (-1)))) 9)) r2
  rw [e]
  exact hp r2
/-- whose damming mutes most: the first -/
def wst (td : Nat → Int32) (n f : Nat) : Nat → Int32 × Int32
  | 0 => (-1, -1)
  | t + 1 => if (¬ t = f ∧ dam td t = false) ∧ ¬ nI (MUT td n f t) ≤ (wst td n f t).2 then (nI t, nI (MUT td n f t)) else wst td n f t
theorem wst_lo {td : Nat → Int32} {n f : Nat} : ∀ m, -1 ≤ (wst td n f m).2
  | 0 => by
    show (-1 : Int32) ≤ -1
    decide
  | t + 1 => by
    have e : wst td n f (t + 1) = if (¬ t = f ∧ dam td t = false) ∧ ¬ nI (MUT td n f t) ≤ (wst td n f t).2 then (nI t, nI (MUT td n f t)) else wst td n f t := rfl
    rw [e]
    split
    · have c9 : MUT td n f t ≤ 9 := cnt_le _ 9
      show -1 ≤ nI (MUT td n f t)
      exact Int32.le_iff_toInt_le.mpr (by rw [nI_toInt (by omega)]; have : (-1 : Int32).toInt = -1 := rfl; omega)
    · exact wst_lo t
def OPN (td : Nat → Int32) (x : Int32) : Prop := (0 ≤ x ∧ x < td 0) ∧ dam td (cN x) = false
noncomputable def MTS (td : Nat → Int32) (n : Nat) (b c : Int32) : Int32 := @ite _ (OPN td b) (Classical.propDecidable _) (if c = -1 then (wst td n (cN b) n).1 else @ite _ (OPN td c ∧ ¬ c = b) (Classical.propDecidable _) (nI (MUT td n (cN b) (cN c))) (-2)) (-2)
noncomputable def AN_mutes (M : Nat → Nat → Int32) (a b c : Int32) : Int32 := if 0 ≤ a ∧ a < M 4 0 then MTS (rowM M 0 a) (cN (rowM M 0 a 0)) b c else -2
theorem OPN_k {td : Nat → Int32} {n k : Nat} (hn : td 0 = nI n) (hn9 : n ≤ 9) (hk : k < n) (hd : dam td k = false) : OPN td (nI k) := ⟨⟨nI_pos' (by omega), by rw [hn]; exact nI_lt hk (by omega)⟩, by rw [cN_nI (by omega)]; exact hd⟩
theorem OPN_no {td : Nat → Int32} {n k : Nat} (hn9 : n ≤ 9) (hk : k < n) (hd : dam td k = true) : ¬ OPN td (nI k) := fun h => by
  have := h.2
  rw [cN_nI (by omega), hd] at this
  exact absurd this (by decide)
theorem e_isOpenX2 {td : Nat → Int32} {c dm x : Int32} {n : Nat} {post : Int32 → Prop} (hn : td 0 = nI n) (hn9 : n ≤ 9) (hc : c = td 0) (hd : dm = td 3) (h0 : ¬ OPN td x → post 0) (h1 : ∀ k, k < n → x = nI k → dam td k = false → OPN td x → post 1) : q_wl_X2_isOpen_0 c dm x post :=
  e_isOpenX (td := td) hn9 (hc.trans hn) hd (fun h => h0 (fun h9 => h (by rw [← hn]; exact h9.1))) (fun k hk e hd1 => h0 (by rw [e]; exact OPN_no hn9 hk hd1)) (fun k hk e hd1 => h1 k hk e hd1 (by rw [e]; exact OPN_k hn hn9 hk hd1))
theorem e_worstX {td links : Nat → Int32} {huts dams x2 : Int32} {n f : Nat} {post : Int32 → Prop} (h0 : huts = nI n) (h3 : dams = td 3) (hn9 : n ≤ 9) (hf : f < n) (hd : dam td f = false) (h2 : x2 = nI f) (hl : ∀ a b, a < n → b < 32 → hb (links a) b = (decide (b < n) && NXT td a b)) (hp : post (wst td n f n).1) : q_wp_X7_worst_9_0 links huts dams x2 post := by
  subst h2 h3
  intro P hP
  have loop : ∀ d t, d = n - t → t ≤ n → P (wst td n f t).1 (wst td n f t).2 (nI t) := by
    intro d
    induction d using Nat.strongRecOn with
    | ind d ih =>
      intro t hd2 ht
      apply hP
      refine pk_le n t (fun h9 => by rw [show t = n by omega]; exact hp) (fun h9 => ?_) h0
      have e : wst td n f (t + 1) = if (¬ t = f ∧ dam td t = false) ∧ ¬ nI (MUT td n f t) ≤ (wst td n f t).2 then (nI t, nI (MUT td n f t)) else wst td n f t := rfl
      have nx : ∀ x y : Int32, x = (wst td n f (t + 1)).1 → y = (wst td n f (t + 1)).2 → q_wp_X7_worst_9_56 P links huts (td 3) (nI f) x y (nI t) post := by
        intro x y hx hy v ev
        rw [ev, nI_1, hx, hy]
        exact ih (n - (t + 1)) (by omega) (t + 1) rfl (by omega)
      refine ⟨fun q => ?_, fun q => ?_⟩
      · have e2 : t = f := (nI_eq (by omega) (by omega)).mp q
        exact nx _ _ (by rw [e, if_neg (fun h => h.1.1 e2)]) (by rw [e, if_neg (fun h => h.1.1 e2)])
      · have e2 : ¬ t = f := fun h => q (by rw [h])
        refine e_damX (by omega) (fun qd => zi ?_) (fun qd => io (nx _ _ ?_ ?_))
        · refine e_mutedX hn9 hf h9 (fun h => e2 h.symm) hd rfl rfl hl ⟨fun hle => nx _ _ ?_ ?_, fun hgt => e_mutedX hn9 hf h9 (fun h => e2 h.symm) hd rfl rfl hl (nx _ _ ?_ ?_)⟩
          · rw [e, if_neg (fun h => h.2 hle)]
          · rw [e, if_neg (fun h => h.2 hle)]
          · rw [e, if_pos ⟨⟨e2, qd⟩, hgt⟩]
          · rw [e, if_pos ⟨⟨e2, qd⟩, hgt⟩]
        · rw [e, if_neg (fun h => by have := h.1.2; unfold dam at this; rw [qd] at this; exact absurd this (by decide))]
        · rw [e, if_neg (fun h => by have := h.1.2; unfold dam at this; rw [qd] at this; exact absurd this (by decide))]
  exact loop _ 0 rfl (by omega)
set_option maxRecDepth 40000 in
set_option maxHeartbeats 4000000 in
theorem e_m_mutes {M : Nat → Nat → Int32} {f_code f_land f_huts f_singers a b c : Int32} {a_run : Nat → Int32} {post : Int32 → (Int32) → (Int32) → (Int32) → (Int32) → (Nat → Int32) → Prop} (hc : ∀ o, iv 0 2 (M 4 o)) (hL : mLand (M 5)) (hK : LK M) (hp : ∀ z0 z1 z2 z3 z4, post (AN_mutes M a b c) z0 z1 z2 z3 z4) : q_m_mutes_0 f_code (M 4) (M 5) f_land f_huts f_singers a_run a b c post := by
  unfold AN_mutes at hp
  refine e_hand (hc 0) (fun hno => iz ?_) (fun k hk ea hy => oi ?_)
  · rw [if_neg hno] at hp; exact hp _ _ _ _ _
  rw [if_pos hy] at hp
  subst ea
  have hO : LOK (rowM M 0 (nI k)) := LK_row hK hk hy.2
  have hR : RNG (rowM M 0 (nI k)) := RNG_M hL hk
  obtain ⟨n, hn, hn9⟩ := ln_of hR
  have b0 : iv 0 9 (tdM M k 0) := hR 0 (by omega)
  unfold MTS at hp
  refine e_isHutM b0 (fun h => iz ?_) (fun h1 => oi ?_)
  · rw [if_neg (fun h9 => h h9.1)] at hp; exact hp _ _ _ _ _
  rw [hn] at h1
  obtain ⟨f, hf, eb⟩ := lt_n hn9 h1
  subst eb
  refine e_isDamM hk (by omega) (fun hd => zi ?_) (fun hd => io ?_)
  · rw [if_pos (OPN_k hn hn9 hf hd), hn, cN_nI (by omega), cN_nI (by omega)] at hp
    refine ⟨fun c1 => ⟨fun _ => ?_, fun c9 => absurd c1 c9⟩, fun c1 => ?_⟩
    · rw [if_pos c1] at hp
      intro P hP
      have loop : ∀ d t (run : Nat → Int32), d = n - t → t ≤ n → P (wst (tdM M k) n f t).1 (wst (tdM M k) n f t).2 (nI t) run := by
        intro d
        induction d using Nat.strongRecOn with
        | ind d ih =>
          intro t run hd2 ht
          apply hP
          refine pk_le n t (fun h9 => by rw [show t = n by omega]; exact hp _ _ _ _ _) (fun h9 => ?_) hn
          have e : wst (tdM M k) n f (t + 1) = if (¬ t = f ∧ dam (tdM M k) t = false) ∧ ¬ nI (MUT (tdM M k) n f t) ≤ (wst (tdM M k) n f t).2 then (nI t, nI (MUT (tdM M k) n f t)) else wst (tdM M k) n f t := rfl
          have lo := wst_lo (td := tdM M k) (n := n) (f := f) t
          have go : ∀ (x y : Int32) (run : Nat → Int32), x = (wst (tdM M k) n f (t + 1)).1 → y = (wst (tdM M k) n f (t + 1)).2 → ∀ v_1 : Int32, v_1 = nI t + 1 → P x y v_1 run := by
            intro x y run hx hy v ev
            rw [ev, nI_1, hx, hy]
            exact ih (n - (t + 1)) (by omega) (t + 1) run rfl (by omega)
          have stay : ∀ (run : Nat → Int32) (y0 : Int32), wst (tdM M k) n f (t + 1) = wst (tdM M k) n f t → y0 ≤ (wst (tdM M k) n f t).2 → q_m_mutes_114 P 0 (M 4) (M 5) (nI k) (tdM M k 0) (tdM M k 1) run (nI f) (wst (tdM M k) n f t).1 (wst (tdM M k) n f t).2 (nI t) y0 post := by
            intro run y0 hw hle
            refine ⟨fun _ => ⟨fun hge => ?_, fun hge => ?_⟩, fun hno => absurd hle hno⟩
            · exact go _ _ run (by rw [hw]) (by rw [hw]; exact Int32.le_antisymm hle hge)
            · exact go _ _ run (by rw [hw]) (by rw [hw])
          refine ⟨fun q => ?_, fun q => ?_⟩
          · have e2 : t = f := (nI_eq (by omega) (by omega)).mp q
            exact stay run (-1) (by rw [e, if_neg (fun h => h.1.1 e2)]) lo
          · have e2 : ¬ t = f := fun h => q (by rw [h])
            refine e_isDamM hk (by omega) (fun qd => iz ?_) (fun qd => oi (stay run (-1) (by rw [e, if_neg (fun h => by rw [qd] at h; exact absurd h.1.2 (by decide))]) lo))
            refine e_mutesOfM hk hL hO hn hn9 hf h9 (fun h => e2 h.symm) hd rfl rfl (fun run' => ?_)
            by_cases hle : nI (MUT (tdM M k) n f t) ≤ (wst (tdM M k) n f t).2
            · exact stay run' _ (by rw [e, if_neg (fun h => h.2 hle)]) hle
            · have hw := e
              rw [if_pos ⟨⟨e2, qd⟩, hle⟩] at hw
              refine ⟨fun h => absurd h hle, fun _ => ⟨fun hge => ?_, fun hge => ?_⟩⟩
              · exact go _ _ run' (by rw [hw]) (by rw [hw])
              · exact absurd (Int32.le_of_lt (Int32.not_le.mp hle)) hge
      exact loop _ 0 a_run rfl (by omega)
    · rw [if_neg c1] at hp
      refine e_isHutM b0 (fun h => iz ?_) (fun h2 => oi ?_)
      · rw [if_neg (fun h9 => h h9.1.1)] at hp; exact hp _ _ _ _ _
      rw [hn] at h2
      obtain ⟨t, ht, ec⟩ := lt_n hn9 h2
      subst ec
      refine e_isDamM hk (by omega) (fun hd2 => zi ⟨fun hne => ?_, fun heq => ?_⟩) (fun hd2 => io ?_)
      · rw [if_pos ⟨OPN_k hn hn9 ht hd2, hne⟩, cN_nI (by omega)] at hp
        exact ⟨fun q => absurd q c1, fun _ => e_mutesOfM hk hL hO hn hn9 hf ht (fun h => hne (by rw [h])) hd rfl rfl (fun run' => hp _ _ _ _ _)⟩
      · rw [if_neg (fun h9 => h9.2 heq)] at hp; exact hp _ _ _ _ _
      · rw [if_neg (fun h9 => OPN_no hn9 ht hd2 h9.1)] at hp; exact hp _ _ _ _ _
  · rw [if_neg (OPN_no hn9 hf hd)] at hp; exact hp _ _ _ _ _
set_option maxRecDepth 40000 in
set_option maxHeartbeats 4000000 in
theorem e_x_mutes {T : TT} {M : Nat → Nat → Int32} {a b c : Int32} {pa_next : Nat → Int32} {post : Int32 → (Nat → Int32) → Prop} (h : TM T M 0) (hB : tB T) (hK : LK M) (hL : mLand (M 5)) (hp : ∀ z0, post (AN_mutes M a b c) z0) : q_wx_X10_mutes_0 (T.2 1) (T.1 3) (T.1 6) (T.1 7) (T.2 2) (T.2 4) (T.2 5) (T.2 6) (T.1 10) (T.1 13) (T.1 14) (T.2 10) (T.2 12) (T.2 13) (T.2 14) pa_next a b c post := by
  unfold AN_mutes at hp
  rw [TM_cnt h 0 (by decide)] at hp
  refine e_at (hB.2.2.1 0) (fun (hno : ¬ (0 ≤ a ∧ a < T.2 1 0)) => ?_) (fun ea hla => ?_) (fun ea hla => ?_)
  · rw [if_neg hno] at hp
    exact ⟨fun _ => hp _, fun h9 => absurd h9 (by decide), fun h9 => absurd rfl h9⟩
  · rw [if_pos (by rw [ea]; exact ⟨by decide, hla⟩), ea] at hp
    have hR : RNG (rowM M 0 (nI 0)) := RNG_M hL (by decide)
    have hLD : LDR (T.1 3) (T.1 4) (T.1 5) (T.1 6) (T.1 7) (T.1 8) (T.1 9) (T.2 2) (T.2 3) (T.2 4) (T.2 5) (T.2 6) (T.2 7) (T.2 8) (T.2 9) (rowM M 0 (nI 0)) := TM_sl h 0 0 (by decide) (by decide) hla
    have hX := LX_of hR hLD
    have hOK : LOK (rowM M 0 (nI 0)) := LK_row hK (by decide) (by rw [TM_cnt h 0 (by decide)]; exact hla)
    obtain ⟨n, hn, hn9⟩ := ln_of hR
    refine ⟨fun h9 => absurd h9 (by decide), fun h9 => absurd h9 (by decide), fun _ _ => ?_⟩
    unfold MTS at hp
    refine e_isOpenX2 hn hn9 hX.1 hX.2.2.1 (fun h => zi ?_) (fun f hf eb hd hop => io ?_)
    · rw [if_neg h] at hp; exact hp _
    subst eb
    rw [if_pos hop, hn, cN_nI (by omega), cN_nI (by omega)] at hp
    refine ⟨fun c1 => ?_, fun c1 => e_isOpenX2 hn hn9 hX.1 hX.2.2.1 (fun h => iz ?_) (fun t ht ec hd2 hop2 => oi ⟨fun hne => ?_, fun heq => ?_⟩)⟩
    · rw [if_pos c1] at hp
      exact e_linkX hR hX hOK hn hn9 (fun t' hl => ⟨fun c9 => absurd c1 c9, fun _ => e_worstX (td := rowM M 0 (nI 0)) (hX.1.trans hn) hX.2.2.1 hn9 hf hd rfl hl (hp _)⟩)
    · rw [if_neg c1, if_neg (fun h9 => h h9.1)] at hp; exact hp _
    · subst ec
      rw [if_neg c1, if_pos ⟨hop2, hne⟩, cN_nI (by omega)] at hp
      exact e_linkX hR hX hOK hn hn9 (fun t' hl => ⟨fun _ => e_mutedX (td := rowM M 0 (nI 0)) hn9 hf ht (fun h => hne (by rw [h])) hd rfl rfl hl (hp _), fun c9 => absurd c9 c1⟩)
    · rw [if_neg c1, if_neg (fun h9 => h9.2 heq)] at hp; exact hp _
  · rw [if_pos (by rw [ea]; exact ⟨by decide, hla⟩), ea] at hp
    have hR : RNG (rowM M 0 (nI 1)) := RNG_M hL (by decide)
    have hLD : LDR (T.1 10) (T.1 11) (T.1 12) (T.1 13) (T.1 14) (T.1 15) (T.1 16) (T.2 10) (T.2 11) (T.2 12) (T.2 13) (T.2 14) (T.2 15) (T.2 16) (T.2 17) (rowM M 0 (nI 1)) := TM_sl h 0 1 (by decide) (by decide) hla
    have hX := LX_of hR hLD
    have hOK : LOK (rowM M 0 (nI 1)) := LK_row hK (by decide) (by rw [TM_cnt h 0 (by decide)]; exact hla)
    obtain ⟨n, hn, hn9⟩ := ln_of hR
    refine ⟨fun h9 => absurd h9 (by decide), fun _ => ?_, fun _ h9 => absurd rfl h9⟩
    unfold MTS at hp
    refine e_isOpenX2 hn hn9 hX.1 hX.2.2.1 (fun h => zi ?_) (fun f hf eb hd hop => io ?_)
    · rw [if_neg h] at hp; exact hp _
    subst eb
    rw [if_pos hop, hn, cN_nI (by omega), cN_nI (by omega)] at hp
    refine ⟨fun c1 => ?_, fun c1 => e_isOpenX2 hn hn9 hX.1 hX.2.2.1 (fun h => iz ?_) (fun t ht ec hd2 hop2 => oi ⟨fun hne => ?_, fun heq => ?_⟩)⟩
    · rw [if_pos c1] at hp
      exact e_linkX hR hX hOK hn hn9 (fun t' hl => ⟨fun c9 => absurd c1 c9, fun _ => e_worstX (td := rowM M 0 (nI 1)) (hX.1.trans hn) hX.2.2.1 hn9 hf hd rfl hl (hp _)⟩)
    · rw [if_neg c1, if_neg (fun h9 => h h9.1)] at hp; exact hp _
    · subst ec
      rw [if_neg c1, if_pos ⟨hop2, hne⟩, cN_nI (by omega)] at hp
      exact e_linkX hR hX hOK hn hn9 (fun t' hl => ⟨fun _ => e_mutedX (td := rowM M 0 (nI 1)) hn9 hf ht (fun h => hne (by rw [h])) hd rfl rfl hl (hp _), fun c9 => absurd c9 c1⟩)
    · rw [if_neg c1, if_neg (fun h9 => h9.2 heq)] at hp; exact hp _
end
section
theorem FS_min {ok : Nat → Bool} : ∀ m, m ≤ 512 → (FS ok m = -1 ∧ ∀ s, s < m → ok s = false) ∨ ∃ s, s < m ∧ FS ok m = nI s ∧ ok s = true ∧ (∀ r, r < m → ok r = true → cS (nI s) ≤ cS (nI r)) ∧ ∀ r, r < s → ok r = true → cS (nI s) < cS (nI r)
  | 0, _ => Or.inl ⟨rfl, fun s hs => absurd hs (Nat.not_lt_zero s)⟩
  | m + 1, hm => by
    have e : FS ok (m + 1) = if ok m = true ∧ (FS ok m = -1 ∨ cS (nI m) < cS (FS ok m)) then nI m else FS ok m := rfl
    rw [e]
    by_cases hc : ok m = true ∧ (FS ok m = -1 ∨ cS (nI m) < cS (FS ok m))
    · rw [if_pos hc]
      rcases FS_min (ok := ok) m (by omega) with ⟨h1, h2⟩ | ⟨s, a, b, c, d, f⟩
      · have no : ∀ r, r < m → ok r = true → False := fun r hr h => by rw [h2 r hr] at h; exact absurd h (by decide)
        refine Or.inr ⟨m, by omega, rfl, hc.1, fun r hr h => ?_, fun r hr h => (no r hr h).elim⟩
        by_cases q : r = m
        · subst q; exact Nat.le_refl _
        · exact (no r (by omega) h).elim
      · rw [b] at hc
        have lt2 : cS (nI m) < cS (nI s) := hc.2.elim (fun h => absurd h (nIm1' (by omega))) id
        refine Or.inr ⟨m, by omega, rfl, hc.1, fun r hr h => ?_, fun r hr h => ?_⟩
        · by_cases q : r = m
          · subst q; exact Nat.le_refl _
          · have := d r (by omega) h; omega
        · have := d r hr h; omega
    · rw [if_neg hc]
      rcases FS_min (ok := ok) m (by omega) with ⟨h1, h2⟩ | ⟨s, a, b, c, d, f⟩
      · refine Or.inl ⟨h1, fun s hs => ?_⟩
        by_cases q : s = m
        · subst q
          rw [← Bool.not_eq_true]
          exact fun h => hc ⟨h, Or.inl h1⟩
        · exact h2 s (by omega)
      · refine Or.inr ⟨s, by omega, b, c, fun r hr h => ?_, f⟩
        by_cases q : r = m
        · subst q
          rw [b] at hc
          exact Nat.le_of_not_lt (fun h2 => hc ⟨h, Or.inr h2⟩)
        · exact d r (by omega) h
theorem FS_eq {ok ok' : Nat → Bool} {m : Nat} (hm : m ≤ 512) (h1 : ∀ s, s < m → ok' s = true → ok s = true) (h2 : ∀ s, s < m → ok s = true → ok' s = true ∨ ∃ r, r < m ∧ ok' r = true ∧ cS (nI r) < cS (nI s)) : FS ok' m = FS ok m := by
  rcases FS_min (ok := ok) m hm with ⟨a1, a2⟩ | ⟨s, a, b, c, d, f⟩
  · rcases FS_min (ok := ok') m hm with ⟨b1, _⟩ | ⟨s', a', b', c', _, _⟩
    · rw [a1, b1]
    · have := h1 s' a' c'
      rw [a2 s' a'] at this
      exact absurd this (by decide)
  · have hs : ok' s = true := by
      rcases h2 s a c with h | ⟨r, r1, r2, r3⟩
      · exact h
      · have := d r r1 (h1 r r1 r2)
        omega
    rcases FS_min (ok := ok') m hm with ⟨b1, b2⟩ | ⟨s', a', b', c', d', f'⟩
    · rw [b2 s a] at hs
      exact absurd hs (by decide)
    · have e1 := d' s a hs
      have e2 := d s' a' (h1 s' a' c')
      have e3 : ¬ s < s' := fun h => by have := f' s h hs; omega
      have e4 : ¬ s' < s := fun h => by have := f s' h (h1 s' a' c'); omega
      rw [b, b', show s' = s by omega]
/-- a set of dams that keeps f's sound from t -/
def okF (td : Nat → Int32) (n f t s : Nat) : Bool := !hb (nI s) f && (!hb (nI s) t && !RSB td (nI s) n f t)
def mkFd (td : Nat → Int32) (f t : Nat) : Int32 := (td 3 ||| bitI f) ||| bitI t
def okG (td : Nat → Int32) (n f t s : Nat) : Bool := decide ((nI s &&& mkFd td f t) = 0) && !RSB td (nI s) n f t
theorem hb_mkFd {td : Nat → Int32} {f t k : Nat} (hf : f < 9) (ht : t < 9) (hk : k < 32) : hb (mkFd td f t) k = ((hb (td 3) k || decide (f = k)) || decide (t = k)) := by
  unfold mkFd
  rw [hb_or, hb_or, hb_b32' (by omega) hk, hb_b32' (by omega) hk]
theorem okG_F {td : Nat → Int32} {n f t s : Nat} (hf : f < 9) (ht : t < 9) (h : okG td n f t s = true) : okF td n f t s = true := by
  unfold okG at h
  rw [Bool.and_eq_true] at h
  have z := of_decide_eq_true h.1
  have at_ : ∀ k, k < 32 → hb (mkFd td f t) k = true → hb (nI s) k = false := by
    intro k hk hm
    have : hb (nI s &&& mkFd td f t) k = hb 0 k := by rw [z]
    rw [hb_and, hm, Bool.and_true, hb_0] at this
    exact this
  unfold okF
  rw [at_ f (by omega) (by rw [hb_mkFd hf ht (by omega), decide_eq_true (rfl : f = f)]; simp), at_ t (by omega) (by rw [hb_mkFd hf ht (by omega), decide_eq_true (rfl : t = t)]; simp), h.2]
  rfl
theorem hb_tN (x : Int32) (k : Nat) : hb x k = x.toBitVec.toNat.testBit k := rfl
theorem okF_G {td : Nat → Int32} {n f t s : Nat} (hn9 : n ≤ 9) (hf : f < n) (ht : t < n) (hs : s < 2 ^ n) (h : okF td n f t s = true) : okG td n f t s = true ∨ ∃ r, r < 2 ^ n ∧ okG td n f t r = true ∧ cS (nI r) < cS (nI s) := by
  have hp := pow_b hn9
  unfold okF at h
  rw [Bool.and_eq_true, Bool.and_eq_true] at h
  obtain ⟨h1, h2, h3⟩ := h
  rw [Bool.not_eq_true'] at h1 h2
  by_cases q : (nI s &&& mkFd td f t) = 0
  · left
    unfold okG
    rw [decide_eq_true q, h3]
    rfl
  · right
    have hk : ∃ k, k < 32 ∧ hb (nI s) k = true ∧ hb (mkFd td f t) k = true := by
      apply Classical.byContradiction
      intro hno
      apply q
      apply hb_eq
      intro k hk
      rw [hb_and, hb_0]
      cases c1 : hb (nI s) k with
      | false => rfl
      | true =>
        cases c2 : hb (mkFd td f t) k with
        | false => rfl
        | true => exact absurd ⟨k, hk, c1, c2⟩ hno
    obtain ⟨k, hk, k1, k2⟩ := hk
    have hkn : k < n := by
      apply Classical.byContradiction
      intro h
      rw [hb_lo hs hn9 (by omega)] at k1
      exact absurd k1 (by decide)
    have k3 : hb (td 3) k = true := by
      rw [hb_mkFd (by omega) (by omega) hk, Bool.or_eq_true, Bool.or_eq_true] at k2
      rcases k2 with (k2 | k2) | k2
      · exact k2
      · rw [← of_decide_eq_true k2, h1] at k1; exact absurd k1 (by decide)
      · rw [← of_decide_eq_true k2, h2] at k1; exact absurd k1 (by decide)
    have rle : s &&& (td 3 ^^^ (-1)).toBitVec.toNat ≤ s := Nat.and_le_left
    have hr : ∀ j, j < 32 → hb (nI (s &&& (td 3 ^^^ (-1)).toBitVec.toNat)) j = (hb (nI s) j && !hb (td 3) j) := by
      intro j hj
      rw [hb_nI (by omega), hb_nI (by omega), Nat.testBit_and, ← hb_not (td 3) hj, hb_tN]
    have ed : td 3 ||| nI (s &&& (td 3 ^^^ (-1)).toBitVec.toNat) = td 3 ||| nI s := by
      apply hb_eq
      intro j hj
      rw [hb_or, hb_or, hr j hj]
      cases hb (td 3) j <;> cases hb (nI s) j <;> rfl
    refine ⟨s &&& (td 3 ^^^ (-1)).toBitVec.toNat, by omega, ?_, ?_⟩
    · unfold okG
      have e0 : (nI (s &&& (td 3 ^^^ (-1)).toBitVec.toNat) &&& mkFd td f t) = 0 := by
        apply hb_eq
        intro j hj
        rw [hb_and, hr j hj, hb_mkFd (by omega) (by omega) hj, hb_0]
        by_cases j1 : f = j
        · subst j1; rw [h1]; rfl
        · by_cases j2 : t = j
          · subst j2; rw [h2]; rfl
          · rw [decide_eq_false j1, decide_eq_false j2]
            cases hb (td 3) j <;> cases hb (nI s) j <;> rfl
      have e1 : RSB td (nI (s &&& (td 3 ^^^ (-1)).toBitVec.toNat)) n f t = RSB td (nI s) n f t := by
        unfold RSB
        rw [ed]
      rw [decide_eq_true e0, e1, h3]
      rfl
    · have g := cnt_lt (p := hb (nI (s &&& (td 3 ^^^ (-1)).toBitVec.toNat))) (q := hb (nI s)) 9 (fun j hj h => by
        rw [hr j (by omega), Bool.and_eq_true] at h
        exact h.1) ⟨k, by omega, k1, by rw [hr k hk, k3]; simp⟩
      unfold cS
      omega
theorem FS_FG {td : Nat → Int32} {n f t : Nat} (hn9 : n ≤ 9) (hf : f < n) (ht : t < n) : FS (okG td n f t) (2 ^ n) = FS (okF td n f t) (2 ^ n) :=
  FS_eq (pow_b hn9) (fun s _ h => okG_F (by omega) (by omega) h) (fun s hs h => okF_G hn9 hf ht hs h)
def FLS (td : Nat → Int32) (n f t : Nat) (d : Int32) : Int32 := if FS (okF td n f t) (2 ^ n) = -1 then -1 else if d = 0 then nI (cS (FS (okF td n f t) (2 ^ n))) else FS (okF td n f t) (2 ^ n)
noncomputable def FLD (td : Nat → Int32) (n : Nat) (b c d : Int32) : Int32 := @ite _ ((OPN td b ∧ OPN td c) ∧ ¬ b = c) (Classical.propDecidable _) (FLS td n (cN b) (cN c) d) (-1)
noncomputable def AN_flood (M : Nat → Nat → Int32) (a b c d : Int32) : Int32 := if 0 ≤ a ∧ a < M 4 0 then FLD (rowM M 0 a) (cN (rowM M 0 a 0)) b c d else -1
theorem FS_iv {ok : Nat → Bool} {n : Nat} (hn9 : n ≤ 9) (h : ¬ FS ok (2 ^ n) = -1) : iv 0 511 (FS ok (2 ^ n)) := by
  have hp := pow_b hn9
  rcases FS_min (ok := ok) (2 ^ n) hp with ⟨h1, _⟩ | ⟨s, a, b, _⟩
  · exact absurd h1 h
  · rw [b]
    exact iv_ofN (by omega) (by omega) (by omega)
theorem e_fewDamsX {td links : Nat → Int32} {huts dams x2 x3 : Int32} {n f t : Nat} {post : Int32 → Prop} (h0 : huts = nI n) (h3 : dams = td 3) (hn9 : n ≤ 9) (hf : f < n) (ht : t < n) (hd : dam td f = false) (e2 : x2 = nI f) (e3 : x3 = nI t) (hl : ∀ a b, a < n → b < 32 → hb (links a) b = (decide (b < n) && NXT td a b)) (hp : post (FS (okF td n f t) (2 ^ n))) : q_wp_X7_fewestDams_9_0 links huts dams x2 x3 post := by
  subst e2 e3 h3
  rw [← FS_FG hn9 hf ht] at hp
  have hpw := pow_b hn9
  intro v1 ev1 v2 ev2
  rw [h0, nI_1] at ev2
  have ev1' : v1 = mkFd td f t := ev1
  subst ev1' ev2
  intro P hP
  have loop : ∀ m s (z : Nat), m = 2 ^ n - s → s ≤ 2 ^ n → z = (if FS (okG td n f t) s = -1 then n + 1 else cS (FS (okG td n f t) s)) → P (FS (okG td n f t) s) (nI z) (nI s) := by
    intro m
    induction m using Nat.strongRecOn with
    | ind m ih =>
      intro s z hm hs hz
      apply hP
      refine pk_le (2 ^ n) s (fun h9 => by rw [show s = 2 ^ n by omega]; exact hp) (fun h9 => ?_) (by rw [h0]; exact sh_pow hn9) rfl (by omega) (by omega)
      have e : FS (okG td n f t) (s + 1) = if okG td n f t s = true ∧ (FS (okG td n f t) s = -1 ∨ cS (nI s) < cS (FS (okG td n f t) s)) then nI s else FS (okG td n f t) s := rfl
      have cs := cS_le h9 hn9
      have zb : z ≤ 10 := by
        rw [hz]
        split
        · omega
        · exact Nat.le_trans (cnt_le _ 9) (by omega)
      have hlt : cS (nI s) < z ↔ (FS (okG td n f t) s = -1 ∨ cS (nI s) < cS (FS (okG td n f t) s)) := by
        rw [hz]
        split
        · next q => exact ⟨fun _ => Or.inl q, fun _ => by omega⟩
        · next q => exact ⟨Or.inr, fun h => h.elim (fun h => absurd h q) id⟩
      have ivs : iv 0 511 (nI s) := iv_ofN (by omega) (by omega) (by omega)
      have nx : ∀ (x : Int32) (y : Nat), x = FS (okG td n f t) (s + 1) → y = (if FS (okG td n f t) (s + 1) = -1 then n + 1 else cS (FS (okG td n f t) (s + 1))) → q_wp_X7_fewestDams_9_85 P links huts (td 3) (nI f) (nI t) (mkFd td f t) x (nI y) (nI s) post := by
        intro x y hx hy v ev
        rw [ev, hx, nI_1]
        exact ih (2 ^ n - (s + 1)) (by omega) (s + 1) y rfl (by omega) hy
      have stay : ¬ (okG td n f t s = true ∧ (FS (okG td n f t) s = -1 ∨ cS (nI s) < cS (FS (okG td n f t) s))) → q_wp_X7_fewestDams_9_85 P links huts (td 3) (nI f) (nI t) (mkFd td f t) (FS (okG td n f t) s) (nI z) (nI s) post := fun hno => nx _ _ (by rw [e, if_neg hno]) (by rw [e, if_neg hno]; exact hz)
      refine ⟨fun hne => stay (fun h => ?_), fun heq => e_bc ivs (pk_le z (cS (nI s)) (fun hle => stay (fun q => by have := hlt.mpr q.2; omega)) (fun hl9 => ?_) rfl rfl (by omega) (by omega))⟩
      · have := h.1
        unfold okG at this
        rw [Bool.and_eq_true] at this
        exact hne (of_decide_eq_true this.1)
      · have hxf : hb (nI s) f = false := by
          have : hb (nI s &&& mkFd td f t) f = hb 0 f := by rw [heq]
          rw [hb_and, hb_mkFd (by omega) (by omega) (by omega), decide_eq_true (rfl : f = f), hb_0] at this
          simpa using this
        have og : okG td n f t s = !RSB td (nI s) n f t := by
          unfold okG
          rw [decide_eq_true heq, Bool.true_and]
        refine e_reachRS (x := nI s) hn9 hf hd hxf rfl rfl hl (e_hasX (by omega) (fun q => zi (e_bc ivs (nx _ _ ?_ ?_))) (fun q => io (stay (fun h => ?_))))
        · rw [hb_mkB (by omega) n (by omega), decide_eq_true ht, Bool.true_and] at q
          rw [e, if_pos ⟨by rw [og, q]; rfl, hlt.mp hl9⟩]
        · rw [hb_mkB (by omega) n (by omega), decide_eq_true ht, Bool.true_and] at q
          have e4 : FS (okG td n f t) (s + 1) = nI s := by rw [e, if_pos ⟨by rw [og, q]; rfl, hlt.mp hl9⟩]
          rw [e4, if_neg (nIm1' (by omega))]
          rfl
        · rw [hb_mkB (by omega) n (by omega), decide_eq_true ht, Bool.true_and] at q
          have := h.1
          rw [og, q] at this
          exact absurd this (by decide)
  exact loop _ 0 (n + 1) rfl (Nat.zero_le _) (by rw [show FS (okG td n f t) 0 = -1 from rfl, if_pos rfl])
set_option maxRecDepth 40000 in
set_option maxHeartbeats 4000000 in
theorem e_m_flood {M : Nat → Nat → Int32} {f_code f_land f_huts f_singers a b c d : Int32} {a_run : Nat → Int32} {post : Int32 → (Int32) → (Int32) → (Int32) → (Int32) → (Nat → Int32) → Prop} (hc : ∀ o, iv 0 2 (M 4 o)) (hL : mLand (M 5)) (hK : LK M) (hp : ∀ z0 z1 z2 z3 z4, post (AN_flood M a b c d) z0 z1 z2 z3 z4) : q_m_flood_0 f_code (M 4) (M 5) f_land f_huts f_singers a_run a b c d post := by
  unfold AN_flood at hp
  refine e_hand (hc 0) (fun hno => iz ?_) (fun k hk ea hy => oi ?_)
  · rw [if_neg hno] at hp; exact hp _ _ _ _ _
  rw [if_pos hy] at hp
  subst ea
  have hO : LOK (rowM M 0 (nI k)) := LK_row hK hk hy.2
  have hR : RNG (rowM M 0 (nI k)) := RNG_M hL hk
  obtain ⟨n, hn, hn9⟩ := ln_of hR
  have b0 : iv 0 9 (tdM M k 0) := hR 0 (by omega)
  have hpw := pow_b hn9
  unfold FLD at hp
  refine e_isHutM b0 (fun h => iz ?_) (fun h1 => oi (e_isHutM b0 (fun h => iz ?_) (fun h2 => oi ?_)))
  · rw [if_neg (fun h9 => h h9.1.1.1)] at hp; exact hp _ _ _ _ _
  · rw [if_neg (fun h9 => h h9.1.2.1)] at hp; exact hp _ _ _ _ _
  rw [hn] at h1 h2
  obtain ⟨f, hf, eb⟩ := lt_n hn9 h1
  obtain ⟨t, ht, ec⟩ := lt_n hn9 h2
  subst eb ec
  refine ⟨fun heq => ?_, fun hne => e_isDamM hk (by omega) (fun hd => zi (e_isDamM hk (by omega) (fun hd2 => iz ?_) (fun hd2 => oi ?_))) (fun hd => io ?_)⟩
  · rw [if_neg (fun h9 => h9.2 heq)] at hp; exact hp _ _ _ _ _
  · rw [if_pos ⟨⟨OPN_k hn hn9 hf hd, OPN_k hn hn9 ht hd2⟩, hne⟩, hn, cN_nI (by omega), cN_nI (by omega), cN_nI (by omega)] at hp
    unfold FLS at hp
    intro P hP
    have loop : ∀ m s (run : Nat → Int32), m = 2 ^ n - s → s ≤ 2 ^ n → P (FS (okF (tdM M k) n f t) s) (nI s) run := by
      intro m
      induction m using Nat.strongRecOn with
      | ind m ih =>
        intro s run hm hs
        apply hP
        refine pk_le (2 ^ n) s (fun h9 => ?_) (fun h9 => ?_) (by rw [hn]; exact sh_pow hn9) rfl (by omega) (by omega)
        · rw [show s = 2 ^ n by omega]
          refine ⟨fun q => ?_, fun q => ⟨fun q2 => e_onesM ?_, fun q2 => ?_⟩⟩
          · rw [if_pos q] at hp
            show post (FS (okF (tdM M k) n f t) (2 ^ n)) 0 (nI k) (tdM M k 0) (tdM M k 1) run
            rw [q]
            exact hp _ _ _ _ _
          · rw [if_neg q, if_pos q2] at hp; exact hp _ _ _ _ _
          · rw [if_neg q, if_neg q2] at hp; exact hp _ _ _ _ _
        · have e : FS (okF (tdM M k) n f t) (s + 1) = if okF (tdM M k) n f t s = true ∧ (FS (okF (tdM M k) n f t) s = -1 ∨ cS (nI s) < cS (FS (okF (tdM M k) n f t) s)) then nI s else FS (okF (tdM M k) n f t) s := rfl
          have c1 : cS (nI s) ≤ 9 := cnt_le _ 9
          have c2 : cS (FS (okF (tdM M k) n f t) s) ≤ 9 := cnt_le _ 9
          refine e_runM hk hL hO hn hn9 hf rfl (fun run' hr => ?_)
          have nx : ∀ x : Int32, x = FS (okF (tdM M k) n f t) (s + 1) → ∀ v : Int32, v = nI s + 1 → P x v run' := by
            intro x hx v ev
            rw [ev, hx, nI_1]
            exact ih (2 ^ n - (s + 1)) (by omega) (s + 1) run' rfl (by omega)
          have no : okF (tdM M k) n f t s = false → q_m_flood_110 P 0 (M 4) (M 5) (nI k) (tdM M k 0) (tdM M k 1) run' (nI f) (nI t) d (FS (okF (tdM M k) n f t) s) (nI s) post := by
            intro h
            exact ⟨fun _ => nx _ (by rw [e, if_neg (fun h9 => by rw [h] at h9; exact absurd h9.1 (by decide))]), fun q => absurd rfl q⟩
          refine e_hasM (by omega) (fun q1 => zi (e_hasM (by omega) (fun q2 => zi ⟨vp_in_nI (by omega) (by omega), ?_⟩) (fun q2 => io (no ?_)))) (fun q1 => io (no ?_))
          · rw [nI_clamp (by omega), hr t ht]
            have ub : upF (RUN (tdM M k) (tdM M k 3 ||| nI s) n f t) < 2 ^ 30 := upF_b
            have hup : upF (RUN (tdM M k) (tdM M k 3 ||| nI s) n f t) < 1000000 ↔ RUN (tdM M k) (tdM M k 3 ||| nI s) n f t < 1000 := by
              unfold upF
              split <;> omega
            have eo : okF (tdM M k) n f t s = !decide (RUN (tdM M k) (tdM M k 3 ||| nI s) n f t < 1000) := by
              unfold okF RSB
              rw [q1, q2]
              rfl
            refine pk_lt (upF (RUN (tdM M k) (tdM M k 3 ||| nI s) n f t)) 1000000 (fun q => no ?_) (fun q => ?_) rfl rfl (by omega) (by omega)
            · rw [eo, decide_eq_true (hup.mp q)]; rfl
            · have ok : okF (tdM M k) n f t s = true := by
                rw [eo, decide_eq_false (fun h => by have := hup.mpr h; omega)]; rfl
              refine ⟨fun q3 => absurd q3 (by decide), fun _ => ⟨fun q3 => nx _ ?_, fun q3 => e_onesM (e_onesM ?_)⟩⟩
              · rw [e, if_pos ⟨ok, Or.inl q3⟩]
              · refine pk_le (cS (FS (okF (tdM M k) n f t) s)) (cS (nI s)) (fun hle => nx _ ?_) (fun hlt => nx _ ?_) rfl rfl (by omega) (by omega)
                · rw [e, if_neg (fun h => by rcases h.2 with h2 | h2; exact q3 h2; omega)]
                · rw [e, if_pos ⟨ok, Or.inr hlt⟩]
          · unfold okF
            rw [q2, q1]
            rfl
          · unfold okF
            rw [q1]
            rfl
    exact loop _ 0 a_run rfl (Nat.zero_le _)
  · rw [if_neg (fun h9 => OPN_no hn9 ht hd2 h9.1.2)] at hp; exact hp _ _ _ _ _
  · rw [if_neg (fun h9 => OPN_no hn9 hf hd h9.1.1)] at hp; exact hp _ _ _ _ _
set_option maxRecDepth 40000 in
set_option maxHeartbeats 4000000 in
theorem e_x_flood {T : TT} {M : Nat → Nat → Int32} {a b c d : Int32} {pa_next : Nat → Int32} {post : Int32 → (Nat → Int32) → Prop} (h : TM T M 0) (hB : tB T) (hK : LK M) (hL : mLand (M 5)) (hp : ∀ z0, post (AN_flood M a b c d) z0) : q_wx_X10_flood_0 (T.2 1) (T.1 3) (T.1 6) (T.1 7) (T.2 2) (T.2 4) (T.2 5) (T.2 6) (T.1 10) (T.1 13) (T.1 14) (T.2 10) (T.2 12) (T.2 13) (T.2 14) pa_next a b c d post := by
  unfold AN_flood at hp
  rw [TM_cnt h 0 (by decide)] at hp
  refine e_at (hB.2.2.1 0) (fun (hno : ¬ (0 ≤ a ∧ a < T.2 1 0)) => ?_) (fun ea hla => ?_) (fun ea hla => ?_)
  · rw [if_neg hno] at hp
    exact ⟨fun _ => hp _, fun h9 => absurd h9 (by decide), fun h9 => absurd rfl h9⟩
  · rw [if_pos (by rw [ea]; exact ⟨by decide, hla⟩), ea] at hp
    have hR : RNG (rowM M 0 (nI 0)) := RNG_M hL (by decide)
    have hLD : LDR (T.1 3) (T.1 4) (T.1 5) (T.1 6) (T.1 7) (T.1 8) (T.1 9) (T.2 2) (T.2 3) (T.2 4) (T.2 5) (T.2 6) (T.2 7) (T.2 8) (T.2 9) (rowM M 0 (nI 0)) := TM_sl h 0 0 (by decide) (by decide) hla
    have hX := LX_of hR hLD
    have hOK : LOK (rowM M 0 (nI 0)) := LK_row hK (by decide) (by rw [TM_cnt h 0 (by decide)]; exact hla)
    obtain ⟨n, hn, hn9⟩ := ln_of hR
    refine ⟨fun h9 => absurd h9 (by decide), fun h9 => absurd h9 (by decide), fun _ _ => ?_⟩
    unfold FLD at hp
    refine e_isOpenX2 hn hn9 hX.1 hX.2.2.1 (fun h => iz ?_) (fun f hf eb hd hop => oi (e_isOpenX2 hn hn9 hX.1 hX.2.2.1 (fun h => iz ?_) (fun t ht ec hd2 hop2 => oi ⟨fun hne => ?_, fun heq => ?_⟩)))
    · rw [if_neg (fun h9 => h h9.1.1)] at hp; exact hp _
    · rw [if_neg (fun h9 => h h9.1.2)] at hp; exact hp _
    · rw [if_pos ⟨⟨hop, hop2⟩, hne⟩] at hp
      subst eb ec
      rw [hn, cN_nI (by omega), cN_nI (by omega), cN_nI (by omega)] at hp
      unfold FLS at hp
      refine e_linkX hR hX hOK hn hn9 (fun t' hl => e_fewDamsX (td := rowM M 0 (nI 0)) (hX.1.trans hn) hX.2.2.1 hn9 hf ht hd rfl rfl hl ⟨fun q => ?_, fun q => ⟨fun q2 => e_bc (FS_iv hn9 q) ?_, fun q2 => ?_⟩⟩)
      · rw [if_pos q, ← q] at hp; exact hp _
      · rw [if_neg q, if_pos q2] at hp; exact hp _
      · rw [if_neg q, if_neg q2] at hp; exact hp _
    · rw [if_neg (fun h9 => h9.2 heq)] at hp; exact hp _
  · rw [if_pos (by rw [ea]; exact ⟨by decide, hla⟩), ea] at hp
    have hR : RNG (rowM M 0 (nI 1)) := RNG_M hL (by decide)
    have hLD : LDR (T.1 10) (T.1 11) (T.1 12) (T.1 13) (T.1 14) (T.1 15) (T.1 16) (T.2 10) (T.2 11) (T.2 12) (T.2 13) (T.2 14) (T.2 15) (T.2 16) (T.2 17) (rowM M 0 (nI 1)) := TM_sl h 0 1 (by decide) (by decide) hla
    have hX := LX_of hR hLD
    have hOK : LOK (rowM M 0 (nI 1)) := LK_row hK (by decide) (by rw [TM_cnt h 0 (by decide)]; exact hla)
    obtain ⟨n, hn, hn9⟩ := ln_of hR
    refine ⟨fun h9 => absurd h9 (by decide), fun _ => ?_, fun _ h9 => absurd rfl h9⟩
    unfold FLD at hp
    refine e_isOpenX2 hn hn9 hX.1 hX.2.2.1 (fun h => iz ?_) (fun f hf eb hd hop => oi (e_isOpenX2 hn hn9 hX.1 hX.2.2.1 (fun h => iz ?_) (fun t ht ec hd2 hop2 => oi ⟨fun hne => ?_, fun heq => ?_⟩)))
    · rw [if_neg (fun h9 => h h9.1.1)] at hp; exact hp _
    · rw [if_neg (fun h9 => h h9.1.2)] at hp; exact hp _
    · rw [if_pos ⟨⟨hop, hop2⟩, hne⟩] at hp
      subst eb ec
      rw [hn, cN_nI (by omega), cN_nI (by omega), cN_nI (by omega)] at hp
      unfold FLS at hp
      refine e_linkX hR hX hOK hn hn9 (fun t' hl => e_fewDamsX (td := rowM M 0 (nI 1)) (hX.1.trans hn) hX.2.2.1 hn9 hf ht hd rfl rfl hl ⟨fun q => ?_, fun q => ⟨fun q2 => e_bc (FS_iv hn9 q) ?_, fun q2 => ?_⟩⟩)
      · rw [if_pos q, ← q] at hp; exact hp _
      · rw [if_neg q, if_pos q2] at hp; exact hp _
      · rw [if_neg q, if_neg q2] at hp; exact hp _
    · rw [if_neg (fun h9 => h9.2 heq)] at hp; exact hp _
end
