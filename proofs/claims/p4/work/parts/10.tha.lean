/-! the words that a throw asks -/
theorem th_common : ∀ w ∈ Jvm.Bundle.throwableAtoms, w ∈ qg ∨ w ∈ qSpec ∨ w ∈ qFw :=
  (List.forall_mem_cons.mpr ⟨Or.inl (q_t1 10 rfl rfl),
  (List.forall_mem_cons.mpr ⟨Or.inl (q_t2 175 rfl rfl),
  (List.forall_mem_cons.mpr ⟨Or.inl (q_t2 184 rfl rfl),
  (List.forall_mem_cons.mpr ⟨Or.inl (q_t2 189 rfl rfl),
  (List.forall_mem_cons.mpr ⟨Or.inl (q_t2 192 rfl rfl),
  (List.forall_mem_cons.mpr ⟨Or.inl (q_t2 194 rfl rfl),
  (List.forall_mem_cons.mpr ⟨Or.inl (q_t2 176 rfl rfl),
  (List.forall_mem_cons.mpr ⟨Or.inl (q_t2 177 rfl rfl),
  (List.forall_mem_cons.mpr ⟨Or.inl (q_t1 28 rfl rfl),
  (List.forall_mem_cons.mpr ⟨Or.inl (q_t1 29 rfl rfl),
  (List.forall_mem_cons.mpr ⟨Or.inl (q_t2 178 rfl rfl),
  (List.forall_mem_cons.mpr ⟨Or.inl (q_t2 183 rfl rfl),
  (List.forall_mem_cons.mpr ⟨Or.inl (q_t2 190 rfl rfl),
  (List.forall_mem_cons.mpr ⟨Or.inl (q_t2 206 rfl rfl),
  (List.forall_mem_cons.mpr ⟨Or.inl (q_t2 165 rfl rfl),
  (List.forall_mem_cons.mpr ⟨Or.inl (q_t2 207 rfl rfl),
  (List.forall_mem_cons.mpr ⟨Or.inl (q_t2 167 rfl rfl),
  (List.forall_mem_cons.mpr ⟨Or.inl (q_t2 208 rfl rfl),
  (List.forall_mem_cons.mpr ⟨Or.inl (q_t2 169 rfl rfl),
  (List.forall_mem_cons.mpr ⟨Or.inl (q_t2 179 rfl rfl),
  (List.forall_mem_cons.mpr ⟨Or.inr (Or.inl (List.mem_of_getElem? (i := 0) rfl)),
  (List.forall_mem_cons.mpr ⟨Or.inl (q_t2 181 rfl rfl),
  (List.forall_mem_cons.mpr ⟨Or.inr (Or.inl (List.mem_of_getElem? (i := 1) rfl)),
  (List.forall_mem_cons.mpr ⟨Or.inl (q_t2 171 rfl rfl),
  (fun _ h => absurd h List.not_mem_nil)⟩)⟩)⟩)⟩)⟩)⟩)⟩)⟩)⟩)⟩)⟩)⟩)⟩)⟩)⟩)⟩)⟩)⟩)⟩)⟩)⟩)⟩)⟩)⟩)
theorem th_re : ∀ w ∈ Jvm.Bundle.passAtoms "java/lang/RuntimeException" "java/lang/Exception" 1 Jvm.Bundle.five, w ∈ qg ∨ w ∈ qSpec ∨ w ∈ qFw :=
  (List.forall_mem_cons.mpr ⟨Or.inl (q_t2 199 rfl rfl),
  (List.forall_mem_cons.mpr ⟨Or.inl (q_t2 200 rfl rfl),
  (List.forall_mem_cons.mpr ⟨Or.inl (q_t2 201 rfl rfl),
  (List.forall_mem_cons.mpr ⟨Or.inl (q_t2 202 rfl rfl),
  (List.forall_mem_cons.mpr ⟨Or.inr (Or.inr (List.mem_of_getElem? (i := 1) rfl)),
  (fun _ h => absurd h List.not_mem_nil)⟩)⟩)⟩)⟩)⟩)
theorem th_et : ∀ w ∈ Jvm.Bundle.passAtoms "java/lang/Exception" "java/lang/Throwable" 1 Jvm.Bundle.five, w ∈ qg ∨ w ∈ qSpec ∨ w ∈ qFw :=
  (List.forall_mem_cons.mpr ⟨Or.inl (q_t2 202 rfl rfl),
  (List.forall_mem_cons.mpr ⟨Or.inl (q_t2 203 rfl rfl),
  (List.forall_mem_cons.mpr ⟨Or.inl (q_t2 204 rfl rfl),
  (List.forall_mem_cons.mpr ⟨Or.inl (q_t2 176 rfl rfl),
  (List.forall_mem_cons.mpr ⟨Or.inr (Or.inr (List.mem_of_getElem? (i := 2) rfl)),
  (fun _ h => absurd h List.not_mem_nil)⟩)⟩)⟩)⟩)⟩)
theorem th_IllegalArgumentException_1 : ∀ w ∈ Jvm.Bundle.passAtoms "java/lang/IllegalArgumentException" "java/lang/RuntimeException" 1 Jvm.Bundle.five, w ∈ qg ∨ w ∈ qSpec ∨ w ∈ qFw :=
  (List.forall_mem_cons.mpr ⟨Or.inl (q_t2 196 rfl rfl),
  (List.forall_mem_cons.mpr ⟨Or.inl (q_t2 197 rfl rfl),
  (List.forall_mem_cons.mpr ⟨Or.inl (q_t2 198 rfl rfl),
  (List.forall_mem_cons.mpr ⟨Or.inl (q_t2 199 rfl rfl),
  (List.forall_mem_cons.mpr ⟨Or.inr (Or.inr (List.mem_of_getElem? (i := 0) rfl)),
  (fun _ h => absurd h List.not_mem_nil)⟩)⟩)⟩)⟩)⟩)
theorem th_IllegalArgumentException : ∀ w ∈ Jvm.Bundle.ownAtoms0 "BillForge" 82 "java/lang/IllegalArgumentException" ["java/lang/RuntimeException", "java/lang/Exception"], w ∈ qg ∨ w ∈ qSpec ∨ w ∈ qFw := by
  refine List.forall_mem_append.mpr ⟨List.forall_mem_append.mpr ⟨th_common, ?_⟩, ?_⟩
  · show ∀ w ∈ Jvm.Bundle.passAtoms "java/lang/IllegalArgumentException" "java/lang/RuntimeException" 1 Jvm.Bundle.five ++ (Jvm.Bundle.passAtoms "java/lang/RuntimeException" "java/lang/Exception" 1 Jvm.Bundle.five ++ Jvm.Bundle.passAtoms "java/lang/Exception" "java/lang/Throwable" 1 Jvm.Bundle.five), w ∈ qg ∨ w ∈ qSpec ∨ w ∈ qFw
    exact List.forall_mem_append.mpr ⟨th_IllegalArgumentException_1, List.forall_mem_append.mpr ⟨th_re, th_et⟩⟩
  · exact (List.forall_mem_cons.mpr ⟨Or.inl (q_t2 195 rfl rfl),
  (List.forall_mem_cons.mpr ⟨Or.inl (q_t2 154 rfl rfl),
  (List.forall_mem_cons.mpr ⟨Or.inr (Or.inr (List.mem_of_getElem? (i := 3) rfl)),
  (List.forall_mem_cons.mpr ⟨Or.inl (q_t2 162 rfl rfl),
  (List.forall_mem_cons.mpr ⟨Or.inl (q_t2 163 rfl rfl),
  (List.forall_mem_cons.mpr ⟨Or.inl (q_t2 164 rfl rfl),
  (List.forall_mem_cons.mpr ⟨Or.inl (q_t2 166 rfl rfl),
  (List.forall_mem_cons.mpr ⟨Or.inl (q_t2 168 rfl rfl),
  (List.forall_mem_cons.mpr ⟨Or.inl (q_t2 170 rfl rfl),
  (List.forall_mem_cons.mpr ⟨Or.inr (Or.inl (List.mem_of_getElem? (i := 2) rfl)),
  (List.forall_mem_cons.mpr ⟨Or.inr (Or.inl (List.mem_of_getElem? (i := 3) rfl)),
  (List.forall_mem_cons.mpr ⟨Or.inl (q_t2 174 rfl rfl),
  (List.forall_mem_cons.mpr ⟨Or.inl (q_t2 173 rfl rfl),
  (List.forall_mem_cons.mpr ⟨Or.inl (q_t2 172 rfl rfl),
  (fun _ h => absurd h List.not_mem_nil)⟩)⟩)⟩)⟩)⟩)⟩)⟩)⟩)⟩)⟩)⟩)⟩)⟩)⟩)
theorem th_IllegalStateException_1 : ∀ w ∈ Jvm.Bundle.passAtoms "java/lang/IllegalStateException" "java/lang/RuntimeException" 1 Jvm.Bundle.five, w ∈ qg ∨ w ∈ qSpec ∨ w ∈ qFw :=
  (List.forall_mem_cons.mpr ⟨Or.inl (q_t2 231 rfl rfl),
  (List.forall_mem_cons.mpr ⟨Or.inl (q_t2 232 rfl rfl),
  (List.forall_mem_cons.mpr ⟨Or.inl (q_t2 233 rfl rfl),
  (List.forall_mem_cons.mpr ⟨Or.inl (q_t2 199 rfl rfl),
  (List.forall_mem_cons.mpr ⟨Or.inr (Or.inr (List.mem_of_getElem? (i := 0) rfl)),
  (fun _ h => absurd h List.not_mem_nil)⟩)⟩)⟩)⟩)⟩)
theorem th_IllegalStateException : ∀ w ∈ Jvm.Bundle.ownAtoms0 "BillForge" 89 "java/lang/IllegalStateException" ["java/lang/RuntimeException", "java/lang/Exception"], w ∈ qg ∨ w ∈ qSpec ∨ w ∈ qFw := by
  refine List.forall_mem_append.mpr ⟨List.forall_mem_append.mpr ⟨th_common, ?_⟩, ?_⟩
  · show ∀ w ∈ Jvm.Bundle.passAtoms "java/lang/IllegalStateException" "java/lang/RuntimeException" 1 Jvm.Bundle.five ++ (Jvm.Bundle.passAtoms "java/lang/RuntimeException" "java/lang/Exception" 1 Jvm.Bundle.five ++ Jvm.Bundle.passAtoms "java/lang/Exception" "java/lang/Throwable" 1 Jvm.Bundle.five), w ∈ qg ∨ w ∈ qSpec ∨ w ∈ qFw
    exact List.forall_mem_append.mpr ⟨th_IllegalStateException_1, List.forall_mem_append.mpr ⟨th_re, th_et⟩⟩
  · exact (List.forall_mem_cons.mpr ⟨Or.inl (q_t2 230 rfl rfl),
  (List.forall_mem_cons.mpr ⟨Or.inl (q_t2 222 rfl rfl),
  (List.forall_mem_cons.mpr ⟨Or.inr (Or.inr (List.mem_of_getElem? (i := 4) rfl)),
  (List.forall_mem_cons.mpr ⟨Or.inl (q_t2 224 rfl rfl),
  (List.forall_mem_cons.mpr ⟨Or.inl (q_t2 186 rfl rfl),
  (List.forall_mem_cons.mpr ⟨Or.inl (q_t2 225 rfl rfl),
  (List.forall_mem_cons.mpr ⟨Or.inl (q_t2 226 rfl rfl),
  (List.forall_mem_cons.mpr ⟨Or.inl (q_t2 227 rfl rfl),
  (List.forall_mem_cons.mpr ⟨Or.inl (q_t2 228 rfl rfl),
  (List.forall_mem_cons.mpr ⟨Or.inr (Or.inl (List.mem_of_getElem? (i := 2) rfl)),
  (List.forall_mem_cons.mpr ⟨Or.inr (Or.inl (List.mem_of_getElem? (i := 3) rfl)),
  (List.forall_mem_cons.mpr ⟨Or.inl (q_t2 174 rfl rfl),
  (List.forall_mem_cons.mpr ⟨Or.inl (q_t2 173 rfl rfl),
  (List.forall_mem_cons.mpr ⟨Or.inl (q_t2 229 rfl rfl),
  (fun _ h => absurd h List.not_mem_nil)⟩)⟩)⟩)⟩)⟩)⟩)⟩)⟩)⟩)⟩)⟩)⟩)⟩)⟩)
theorem th_IndexOutOfBoundsException_1 : ∀ w ∈ Jvm.Bundle.passAtoms "java/lang/IndexOutOfBoundsException" "java/lang/RuntimeException" 1 Jvm.Bundle.five, w ∈ qg ∨ w ∈ qSpec ∨ w ∈ qFw :=
  (List.forall_mem_cons.mpr ⟨Or.inl (q_t3 235 rfl rfl),
  (List.forall_mem_cons.mpr ⟨Or.inl (q_t3 236 rfl rfl),
  (List.forall_mem_cons.mpr ⟨Or.inl (q_t3 237 rfl rfl),
  (List.forall_mem_cons.mpr ⟨Or.inl (q_t2 199 rfl rfl),
  (List.forall_mem_cons.mpr ⟨Or.inr (Or.inr (List.mem_of_getElem? (i := 0) rfl)),
  (fun _ h => absurd h List.not_mem_nil)⟩)⟩)⟩)⟩)⟩)
theorem th_IndexOutOfBoundsException : ∀ w ∈ Jvm.Bundle.ownAtoms0 "BillForge" 149 "java/lang/IndexOutOfBoundsException" ["java/lang/RuntimeException", "java/lang/Exception"], w ∈ qg ∨ w ∈ qSpec ∨ w ∈ qFw := by
  refine List.forall_mem_append.mpr ⟨List.forall_mem_append.mpr ⟨th_common, ?_⟩, ?_⟩
  · show ∀ w ∈ Jvm.Bundle.passAtoms "java/lang/IndexOutOfBoundsException" "java/lang/RuntimeException" 1 Jvm.Bundle.five ++ (Jvm.Bundle.passAtoms "java/lang/RuntimeException" "java/lang/Exception" 1 Jvm.Bundle.five ++ Jvm.Bundle.passAtoms "java/lang/Exception" "java/lang/Throwable" 1 Jvm.Bundle.five), w ∈ qg ∨ w ∈ qSpec ∨ w ∈ qFw
    exact List.forall_mem_append.mpr ⟨th_IndexOutOfBoundsException_1, List.forall_mem_append.mpr ⟨th_re, th_et⟩⟩
  · exact (List.forall_mem_cons.mpr ⟨Or.inl (q_t3 234 rfl rfl),
  (List.forall_mem_cons.mpr ⟨Or.inl (q_t3 226 rfl rfl),
  (List.forall_mem_cons.mpr ⟨Or.inr (Or.inr (List.mem_of_getElem? (i := 5) rfl)),
  (List.forall_mem_cons.mpr ⟨Or.inl (q_t3 228 rfl rfl),
  (List.forall_mem_cons.mpr ⟨Or.inl (q_t2 187 rfl rfl),
  (List.forall_mem_cons.mpr ⟨Or.inl (q_t3 229 rfl rfl),
  (List.forall_mem_cons.mpr ⟨Or.inl (q_t3 230 rfl rfl),
  (List.forall_mem_cons.mpr ⟨Or.inl (q_t3 231 rfl rfl),
  (List.forall_mem_cons.mpr ⟨Or.inl (q_t3 232 rfl rfl),
  (List.forall_mem_cons.mpr ⟨Or.inr (Or.inl (List.mem_of_getElem? (i := 2) rfl)),
  (List.forall_mem_cons.mpr ⟨Or.inr (Or.inl (List.mem_of_getElem? (i := 3) rfl)),
  (List.forall_mem_cons.mpr ⟨Or.inl (q_t2 174 rfl rfl),
  (List.forall_mem_cons.mpr ⟨Or.inl (q_t2 173 rfl rfl),
  (List.forall_mem_cons.mpr ⟨Or.inl (q_t3 233 rfl rfl),
  (fun _ h => absurd h List.not_mem_nil)⟩)⟩)⟩)⟩)⟩)⟩)⟩)⟩)⟩)⟩)⟩)⟩)⟩)⟩)
theorem th_NoSuchElementException_1 : ∀ w ∈ Jvm.Bundle.passAtoms "java/util/NoSuchElementException" "java/lang/RuntimeException" 1 Jvm.Bundle.five, w ∈ qg ∨ w ∈ qSpec ∨ w ∈ qFw :=
  (List.forall_mem_cons.mpr ⟨Or.inl (q_t4 88 rfl rfl),
  (List.forall_mem_cons.mpr ⟨Or.inl (q_t4 89 rfl rfl),
  (List.forall_mem_cons.mpr ⟨Or.inl (q_t4 90 rfl rfl),
  (List.forall_mem_cons.mpr ⟨Or.inl (q_t2 199 rfl rfl),
  (List.forall_mem_cons.mpr ⟨Or.inr (Or.inr (List.mem_of_getElem? (i := 0) rfl)),
  (fun _ h => absurd h List.not_mem_nil)⟩)⟩)⟩)⟩)⟩)
theorem th_NoSuchElementException : ∀ w ∈ Jvm.Bundle.ownAtoms0 "BillForge" 197 "java/util/NoSuchElementException" ["java/lang/RuntimeException", "java/lang/Exception"], w ∈ qg ∨ w ∈ qSpec ∨ w ∈ qFw := by
  refine List.forall_mem_append.mpr ⟨List.forall_mem_append.mpr ⟨th_common, ?_⟩, ?_⟩
  · show ∀ w ∈ Jvm.Bundle.passAtoms "java/util/NoSuchElementException" "java/lang/RuntimeException" 1 Jvm.Bundle.five ++ (Jvm.Bundle.passAtoms "java/lang/RuntimeException" "java/lang/Exception" 1 Jvm.Bundle.five ++ Jvm.Bundle.passAtoms "java/lang/Exception" "java/lang/Throwable" 1 Jvm.Bundle.five), w ∈ qg ∨ w ∈ qSpec ∨ w ∈ qFw
    exact List.forall_mem_append.mpr ⟨th_NoSuchElementException_1, List.forall_mem_append.mpr ⟨th_re, th_et⟩⟩
  · exact (List.forall_mem_cons.mpr ⟨Or.inl (q_t4 87 rfl rfl),
  (List.forall_mem_cons.mpr ⟨Or.inl (q_t4 79 rfl rfl),
  (List.forall_mem_cons.mpr ⟨Or.inr (Or.inr (List.mem_of_getElem? (i := 6) rfl)),
  (List.forall_mem_cons.mpr ⟨Or.inl (q_t4 81 rfl rfl),
  (List.forall_mem_cons.mpr ⟨Or.inl (q_t2 188 rfl rfl),
  (List.forall_mem_cons.mpr ⟨Or.inl (q_t4 82 rfl rfl),
  (List.forall_mem_cons.mpr ⟨Or.inl (q_t4 83 rfl rfl),
  (List.forall_mem_cons.mpr ⟨Or.inl (q_t4 84 rfl rfl),
  (List.forall_mem_cons.mpr ⟨Or.inl (q_t4 85 rfl rfl),
  (List.forall_mem_cons.mpr ⟨Or.inr (Or.inl (List.mem_of_getElem? (i := 2) rfl)),
  (List.forall_mem_cons.mpr ⟨Or.inr (Or.inl (List.mem_of_getElem? (i := 3) rfl)),
  (List.forall_mem_cons.mpr ⟨Or.inl (q_t2 174 rfl rfl),
  (List.forall_mem_cons.mpr ⟨Or.inl (q_t2 173 rfl rfl),
  (List.forall_mem_cons.mpr ⟨Or.inl (q_t4 86 rfl rfl),
  (fun _ h => absurd h List.not_mem_nil)⟩)⟩)⟩)⟩)⟩)⟩)⟩)⟩)⟩)⟩)⟩)⟩)⟩)⟩)
