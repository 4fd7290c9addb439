/-! A start that meets every premise of the statement, and at which the static row's cell is of another class of kind 'array of int'. The kit's own start of its witness, but for a class more at the end of the tables, and that cell's class. -/
def od_x : MethodName := ⟨"[I", "clone", "()Ljava/lang/Object;"⟩
def od_y : MethodName := ⟨"Odd", "clone", "()Ljava/lang/Object;"⟩
def od_bytes : ByteArray := .mk #[0x07, 0xbc, 0x0a, 0xb0]
def od_cls : Class := { start1.cArr "Odd" 14 .int with methods := #[Lib.HandJ.method "clone" "()Ljava/lang/Object;" [] (some (.object "java/lang/Object")) 0x1 1 od_bytes] }
def od_cell : Cell := { cls := 21, slots := #[.int 10, .int 20, .int 50, .int 100], vm := .none }
def od : State := { start1.about with vm := { start1.about.vm with classes := start1.about.vm.classes.push od_cls }, heap := (start1.aboutOf #[.int 17, .int 0, .int 0, .int 0]).heap.set! 2 od_cell, slotsUsed := 34 }
def od_ws : List Cond := [.selects "Odd" od_x od_y, .instanceMethod od_y, .initialized "Odd", .code od_y od_bytes 1 (some (.object "java/lang/Object"))]
theorem od_wo : od_ws.all (fun c => c.before start1.args0 od) = true := by decide +kernel
