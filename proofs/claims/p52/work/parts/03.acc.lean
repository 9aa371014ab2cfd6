/-! the tables' words -/
def zname (mt : Nat) : MethodName := (zmT mt).1
def zcode (mt : Nat) : ByteArray := (zmT mt).2.1
def zml (mt : Nat) : Nat := (zmT mt).2.2.1
def zret (mt : Nat) : Option FieldType := (zmT mt).2.2.2.1
def znp (mt : Nat) : Nat := (zmT mt).2.2.2.2.1
def zown (mt : Nat) : Nat := (zmT mt).2.2.2.2.2.1
def zdep (mt : Nat) : Nat := (zmT mt).2.2.2.2.2.2
def zpc0 (mt b : Nat) : Nat := (zpcs mt b).headD 0
