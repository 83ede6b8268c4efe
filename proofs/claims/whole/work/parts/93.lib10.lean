section ZM
variable {p : Program} {l : Launch} {e : Env} {R : Room} {s : State} {m : MethodId} {args : Array Value} {below : List Frame} {meth : Method} {c : Code} {H : Heap} {locs : List Loc} {cells slots : Nat} {Q : State → Prop}
variable {own : String} {cc : ByteArray} {nL : Nat} {rt : Option FieldType} {pc : Nat} {ls : Array Slot} {rest st : List Value} {E : EV} {A : Nat → Prop} {ws P B C : va_W}
theorem sn_asc (h : SN E A s H locs ((P ++ B) ++ C)) : SN E A s H locs (P ++ (B ++ C)) := by rw [← List.append_assoc]; exact h
theorem sn_csa (h : SN E A s H locs (P ++ (B ++ C))) : SN E A s H locs ((P ++ B) ++ C) := by rw [List.append_assoc]; exact h
theorem n_putF0 (X : Cx p s m meth c args own cc nL rt) (hi : meth.name = "<init>") (ci k : Nat) {a : Nat} {fs : List Value} (h : SN E A s H locs ([(a, .inr (ci, fs))] ++ B)) {Cn : String} {T : u_T} {N index : Nat} (hc : classes[ci]? = some (Cn, T, N)) (hin : ∀ w ∈ u_ws Cn T N, w ∈ tb) (ty0 : Nat → FieldType) (hty : ∀ k, k < N → parseFieldDescriptor (T k).2.2.1 = some (ty0 k)) (hnm : ∀ a, a < N → ∀ b, b < N → a ≠ b → (T a).2.1 ≠ (T b).2.1) (hk : k < N) (hl : Cond.fieldLink own index (T k).1 (T k).2.1 (T k).2.2.1 ∈ tb) (hfin : (T k).2.2.2 = true) (ho : (T k).1 = own) {v : Value} (hn : narrow (ty0 k) v = v) (hfit : fits (ty0 k) v = true) (hlen : k < fs.length) (d : decode cc pc = .ok (.putfield index, 3))
    (kk : ∀ (H1 : Heap) (locs1 : List Loc), SN E A s H1 locs1 ([(a, .inr (ci, fs.set k v))] ++ B) → W p l e R s m args below meth c H1 locs1 cells slots Q (F0 m (pc + 3) ls rest)) : W p l e R s m args below meth c H locs cells slots Q (F0 m pc ls (v :: .ref a :: rest)) :=
  n_putF X hi h ci 0 k hc hin ty0 hty hnm rfl hk hl hfin ho hn hfit hlen d kk
theorem n_put0 (X : Cx p s m meth c args own cc nL rt) (ci k : Nat) {a : Nat} {fs : List Value} (h : SN E A s H locs ([(a, .inr (ci, fs))] ++ B)) {Cn : String} {T : u_T} {N index : Nat} (hc : classes[ci]? = some (Cn, T, N)) (hin : ∀ w ∈ u_ws Cn T N, w ∈ tb) (ty0 : Nat → FieldType) (hty : ∀ k, k < N → parseFieldDescriptor (T k).2.2.1 = some (ty0 k)) (hnm : ∀ a, a < N → ∀ b, b < N → a ≠ b → (T a).2.1 ≠ (T b).2.1) (hk : k < N) (hl : Cond.fieldLink own index (T k).1 (T k).2.1 (T k).2.2.1 ∈ tb) (hfin : (T k).2.2.2 = false) {v : Value} (hn : narrow (ty0 k) v = v) (hfit : fits (ty0 k) v = true) (hlen : k < fs.length) (d : decode cc pc = .ok (.putfield index, 3))
    (kk : ∀ (H1 : Heap) (locs1 : List Loc), SN E A s H1 locs1 ([(a, .inr (ci, fs.set k v))] ++ B) → W p l e R s m args below meth c H1 locs1 cells slots Q (F0 m (pc + 3) ls rest)) : W p l e R s m args below meth c H locs cells slots Q (F0 m pc ls (v :: .ref a :: rest)) :=
  n_put X h ci 0 k hc hin ty0 hty hnm rfl hk hl hfin hn hfit hlen d kk
theorem n_astq0 (X : Cx p s m meth c args own cc nL rt) (qk : Nat) {o : Nat × va_E} {a v n : Nat} {vs : List Value} {f : Nat → Option Nat} {z : Int} (h : SN E A s H locs ([o] ++ ([(a, .inl (eS E, n, .inr (.inr (.inr (.inr f)))))] ++ B))) (hv : ([o] ++ ([(a, .inl (eS E, n, .inr (.inr (.inr (.inr f)))))] ++ B) : va_W)[qk]? = some (v, .inr (0, vs))) (h0 : 0 ≤ z) (h1 : z < n) (hn : (n : Int) < 2147483648) (d : decode cc pc = .ok (.aastore, 1))
    (kk : ∀ (H1 : Heap) (locs1 : List Loc), SN E A s H1 locs1 ([o] ++ ([(a, .inl (eS E, n, .inr (.inr (.inr (.inr (va_up f z.toNat (some v)))))))] ++ B)) → W p l e R s m args below meth c H1 locs1 cells slots Q (F0 m (pc + 1) ls rest)) : W p l e R s m args below meth c H locs cells slots Q (F0 m pc ls (.ref v :: .int (iv z) :: .ref a :: rest)) :=
  n_astq X h 1 qk rfl hv h0 h1 hn d kk
theorem sn_ref {o : Nat × va_E} {a n : Nat} {f g : Nat → Option Nat} (h : SN E A s H locs ([o] ++ ([(a, .inl (eS E, n, .inr (.inr (.inr (.inr f)))))] ++ B))) (hf : ∀ j, j < n → f j = g j) : SN E A s H locs ([o] ++ ([(a, .inl (eS E, n, .inr (.inr (.inr (.inr g)))))] ++ B)) := by
  have hP := vaP_mem.mp h.1
  refine h.to (vaP_mem.mpr (fun q hq => ?_)) (vaD_same (by rfl) h.2.2.1) h.2.1
  rcases List.mem_append.mp hq with hx | hx
  · exact hP q (by simp only [List.mem_append]; exact Or.inl hx)
  · rcases List.mem_append.mp hx with hy | hy
    · rw [List.mem_singleton.mp hy]
      have h1 : H[a]? = some (vp_cell (eS E) (n, .inr (.inr (.inr (.inr f))))) := hP (a, .inl (eS E, n, .inr (.inr (.inr (.inr f))))) (by simp only [List.mem_append]; exact Or.inr (Or.inl (List.mem_singleton.mpr rfl)))
      show H[a]? = some (vp_cell (eS E) (n, .inr (.inr (.inr (.inr g)))))
      rw [h1, vp_cell_q, vp_cell_q]
      unfold arrV
      have e9 : (fun j : Fin n => va_rf (f j.val)) = fun j : Fin n => va_rf (g j.val) := funext (fun j => by rw [hf j.val j.isLt])
      rw [e9]
    · exact hP q (by simp only [List.mem_append]; exact Or.inr (Or.inr hy))
theorem sn_T {o sh fi : Nat × va_E} {Sk Sb St X0 : va_W} (h : SN E A s H locs ([o] ++ (((((([] ++ Sb) ++ St) ++ Sk) ++ X0) ++ [sh]) ++ [fi]))) : SN E A s H locs ([o] ++ ([sh] ++ ([fi] ++ (Sk ++ (Sb ++ (St ++ (X0 ++ []))))))) := by
  refine h.sub ?_ (fun q hq => ?_)
  · have hn := (vaD_mem.mp h.2.2.1).1
    refine (List.Perm.nodup_iff ?_).mpr hn
    rw [List.perm_iff_count]
    intro a
    simp only [List.map_append, List.count_append, List.map_nil, List.count_nil]
    omega
  · simp only [List.mem_append, List.not_mem_nil, or_false, false_or] at hq ⊢
    rcases hq with hq | hq | hq | hq | hq | hq | hq <;> simp [hq]
theorem fin_T {o sh fi : Nat × va_E} {Sk Sb St X0 H0 H1 H2 H3 : va_W} (h : SN E A s H locs ([o] ++ ([sh] ++ (((((([fi] ++ (Sk ++ (Sb ++ (St ++ (X0 ++ []))))) ++ H0) ++ H1) ++ H2) ++ H3))))) : SN E A s H locs ([o, sh, fi] ++ (Sk ++ (Sb ++ (St ++ (X0 ++ (H0 ++ (H1 ++ (H2 ++ (H3 ++ []))))))))) := by
  have e9 : [o, sh, fi] ++ (Sk ++ (Sb ++ (St ++ (X0 ++ (H0 ++ (H1 ++ (H2 ++ (H3 ++ [])))))))) = [o] ++ ([sh] ++ (((((([fi] ++ (Sk ++ (Sb ++ (St ++ (X0 ++ []))))) ++ H0) ++ H1) ++ H2) ++ H3))) := by simp only [List.append_assoc, List.append_nil, List.cons_append, List.nil_append]
  rw [e9]; exact h
end ZM
def GX (U : State) : Prop := va_Nw (.methodLinkNest RX4 24 yX2_init RX4) U ∧ va_Nw (.methodLinkNest RX4 43 yX0_init RX4) U ∧ va_AO RX0 U
theorem GX_b : ∀ (U : State) (g : JFrame) (mk : MethodId) (a : Array Value), GX U → GX (U.calling g mk a) := fun U _ _ _ h => ⟨va_Nw.same rfl rfl h.1, va_Nw.same rfl rfl h.2.1, va_AO.moved (u := U) (Vm.Alike.refl _) h.2.2⟩
theorem GX_w {s : State} (h : GX s) : ∀ U : State, s.WarmedH U.vm → GX U := fun _ hW => ⟨va_Nw.warmM hW h.1, va_Nw.warmM hW h.2.1, va_AO.moved hW.alike h.2.2⟩
