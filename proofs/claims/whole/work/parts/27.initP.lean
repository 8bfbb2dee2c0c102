theorem va_AOA.moved {ty : FieldType} {U U' : State} (h : va_AOA ty U) (hal : U.vm.Alike U'.vm) : va_AOA ty U' := by
  unfold va_AOA at h ⊢
  simp only [Cond.before, Cond.holds, Cond.value] at h ⊢
  rw [hal.findClass]
  generalize U.vm.findClass (FieldType.array ty).toString = f0 at h ⊢
  cases f0 with
  | none => simp at h
  | some comp =>
    simp only [Option.bind_some] at h ⊢
    rw [hal.findIdx_congr _ (fun _ _ _ _ => rfl)]
    generalize hF : (U.vm.classes.findIdx? fun (x : Class) => match x.kind with | .array component _ => component == comp | _ => false) = fi at h ⊢
    cases fi with
    | none => simp at h
    | some c =>
      simp only [Option.bind_some] at h ⊢
      cases hk : U.vm.classes[c]? with
      | none => rw [hk] at h; simp at h
      | some k =>
        obtain ⟨k', hk', ek⟩ := hal.2.2 _ _ hk
        rw [hk] at h
        rw [hk', hal.findClass]
        have ekind : k'.kind = k.kind := by rw [ek]
        simp only [Option.map_some] at h ⊢
        rw [ekind]
        exact h
theorem init_pre {D : va_G} {cI cB cZ : ClassId} {s : State} {A : Nat → Prop} {H : Heap} {o : Nat} {wc : va_W} (hTW : TW D cI cB cZ s) (hP : va_P D vwCl wc H) (hD : va_D A wc) : FrameBlind (va_Pc [.ref o] (fun U => TW D cI cB cZ U ∧ U.heap.size = H.size ∧ va_P D vwCl wc U.heap ∧ va_D (fun _ => True) wc)) ∧ ∀ U : State, U.heap = H → s.WarmedH U.vm → va_Pc [.ref o] (fun U => TW D cI cB cZ U ∧ U.heap.size = H.size ∧ va_P D vwCl wc U.heap ∧ va_D (fun _ => True) wc) ([Value.ref o] : List Value).toArray U :=
  ⟨fun _ U _ _ q => ⟨q.1, tw_moved q.2.1 (State.WarmedH.refl U) (q.2.1.2.2.2.2.moved (State.WarmedH.refl U).alike), q.2.2.1, q.2.2.2.1, q.2.2.2.2⟩,
   fun U hU hW => ⟨rfl, tw_moved hTW hW (hTW.2.2.2.2.moved hW.alike), by rw [hU], by rw [hU]; exact hP, ⟨hD.1, fun _ _ _ => trivial⟩⟩⟩
