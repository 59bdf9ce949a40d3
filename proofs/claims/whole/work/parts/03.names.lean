/-! names of mine (printed by a program): classes, their fields, the list of classes -/
def RXM : String := "HashLinkedWebModel"
def RXW : String := "HashLinkedWeb"
def RXKn : String := "HashLinkedWeb$Known"
def RXRo : String := "HashLinkedWeb$Row"
def RXRe : String := "HashLinkedWeb$Replica"
def RXOp : String := "HashLinkedWeb$Operation"
def RXDr : String := "HashLinkedWeb$Draft"
def RXMe : String := "HashLinkedWeb$Member"
def RXAs : String := "HashLinkedWeb$Asking"
def RXAL : String := "java/util/ArrayList"
def RXBL : String := "java/util/AbstractList"
def RXBC : String := "java/util/AbstractCollection"
def RXAr : String := "java/util/Arrays"
def RXOb : String := "java/util/Objects"
def RXPr : String := "jdk/internal/util/Preconditions"
def RXAS : String := "jdk/internal/util/ArraysSupport"
def RXL : String := "HashLinkedWebLaw"
def TXM : u_T := fun k => match k with
  | 0 => ("HashLinkedWebModel", "count", "I", false)
  | 1 => ("HashLinkedWebModel", "hash", "[J", true)
  | 2 => ("HashLinkedWebModel", "author", "[I", true)
  | 3 => ("HashLinkedWebModel", "kind", "[I", true)
  | 4 => ("HashLinkedWebModel", "key", "[I", true)
  | 5 => ("HashLinkedWebModel", "value", "[I", true)
  | 6 => ("HashLinkedWebModel", "links", "[I", true)
  | 7 => ("HashLinkedWebModel", "link", "[J", true)
  | 8 => ("HashLinkedWebModel", "past", "[J", true)
  | 9 => ("HashLinkedWebModel", "depth", "[I", true)
  | 10 => ("HashLinkedWebModel", "holds", "[J", true)
  | 11 => ("HashLinkedWebModel", "waits", "[I", true)
  | 12 => ("HashLinkedWebModel", "waitHash", "[J", true)
  | 13 => ("HashLinkedWebModel", "waitNumbers", "[I", true)
  | 14 => ("HashLinkedWebModel", "waitLink", "[J", true)
  | 15 => ("HashLinkedWebModel", "draftNumbers", "[I", true)
  | 16 => ("HashLinkedWebModel", "draftLink", "[J", true)
  | 17 => ("HashLinkedWebModel", "numbers", "[I", true)
  | 18 => ("HashLinkedWebModel", "comingLink", "[J", true)
  | 19 => ("HashLinkedWebModel", "coming", "J", false)
  | 20 => ("HashLinkedWebModel", "sorted", "I", false)
  | _ => ("HashLinkedWebModel", "order", "[I", true)
def tyXM : Nat → FieldType := fun k => match k with
  | 0 => .int
  | 1 => .array .long
  | 2 => .array .int
  | 3 => .array .int
  | 4 => .array .int
  | 5 => .array .int
  | 6 => .array .int
  | 7 => .array .long
  | 8 => .array .long
  | 9 => .array .int
  | 10 => .array .long
  | 11 => .array .int
  | 12 => .array .long
  | 13 => .array .int
  | 14 => .array .long
  | 15 => .array .int
  | 16 => .array .long
  | 17 => .array .int
  | 18 => .array .long
  | 19 => .long
  | 20 => .int
  | _ => .array .int
def TXW : u_T := fun k => match k with
  | 0 => ("HashLinkedWeb", "known", "LHashLinkedWeb$Known;", true)
  | 1 => ("HashLinkedWeb", "replicas", "[LHashLinkedWeb$Replica;", true)
  | 2 => ("HashLinkedWeb", "draft", "LHashLinkedWeb$Draft;", true)
  | _ => ("HashLinkedWeb", "written", "LHashLinkedWeb$Draft;", true)
def tyXW : Nat → FieldType := fun k => match k with
  | 0 => .object "HashLinkedWeb$Known"
  | 1 => .array (.object "HashLinkedWeb$Replica")
  | 2 => .object "HashLinkedWeb$Draft"
  | _ => .object "HashLinkedWeb$Draft"
def TXKn : u_T := fun k => match k with
  | _ => ("HashLinkedWeb$Known", "members", "LHashLinkedWeb$Row;", true)
def tyXKn : Nat → FieldType := fun k => match k with
  | _ => .object "HashLinkedWeb$Row"
def TXRo : u_T := fun k => match k with
  | 0 => ("HashLinkedWeb$Row", "places", "[LHashLinkedWeb$Member;", true)
  | _ => ("HashLinkedWeb$Row", "size", "I", false)
def tyXRo : Nat → FieldType := fun k => match k with
  | 0 => .array (.object "HashLinkedWeb$Member")
  | _ => .int
def TXRe : u_T := fun k => match k with
  | 0 => ("HashLinkedWeb$Replica", "known", "LHashLinkedWeb$Known;", true)
  | 1 => ("HashLinkedWeb$Replica", "orderRow", "LHashLinkedWeb$Row;", true)
  | 2 => ("HashLinkedWeb$Replica", "headRow", "LHashLinkedWeb$Row;", true)
  | 3 => ("HashLinkedWeb$Replica", "waitingRow", "Ljava/util/ArrayList;", true)
  | _ => ("HashLinkedWeb$Replica", "heldSet", "J", false)
def tyXRe : Nat → FieldType := fun k => match k with
  | 0 => .object "HashLinkedWeb$Known"
  | 1 => .object "HashLinkedWeb$Row"
  | 2 => .object "HashLinkedWeb$Row"
  | 3 => .object "java/util/ArrayList"
  | _ => .long
def TXOp : u_T := fun k => match k with
  | 0 => ("HashLinkedWeb$Operation", "author", "I", true)
  | 1 => ("HashLinkedWeb$Operation", "kind", "I", true)
  | 2 => ("HashLinkedWeb$Operation", "key", "I", true)
  | 3 => ("HashLinkedWeb$Operation", "value", "I", true)
  | 4 => ("HashLinkedWeb$Operation", "links", "[J", true)
  | _ => ("HashLinkedWeb$Operation", "hash", "J", true)
def tyXOp : Nat → FieldType := fun k => match k with
  | 0 => .int
  | 1 => .int
  | 2 => .int
  | 3 => .int
  | 4 => .array .long
  | _ => .long
def TXDr : u_T := fun k => match k with
  | 0 => ("HashLinkedWeb$Draft", "author", "I", false)
  | 1 => ("HashLinkedWeb$Draft", "kind", "I", false)
  | 2 => ("HashLinkedWeb$Draft", "key", "I", false)
  | 3 => ("HashLinkedWeb$Draft", "value", "I", false)
  | 4 => ("HashLinkedWeb$Draft", "linkCount", "I", false)
  | _ => ("HashLinkedWeb$Draft", "links", "[J", true)
def tyXDr : Nat → FieldType := fun k => match k with
  | 0 => .int
  | 1 => .int
  | 2 => .int
  | 3 => .int
  | 4 => .int
  | _ => .array .long
def TXMe : u_T := fun k => match k with
  | 0 => ("HashLinkedWeb$Member", "operation", "LHashLinkedWeb$Operation;", true)
  | 1 => ("HashLinkedWeb$Member", "number", "I", true)
  | 2 => ("HashLinkedWeb$Member", "depth", "I", true)
  | 3 => ("HashLinkedWeb$Member", "linkSet", "J", true)
  | _ => ("HashLinkedWeb$Member", "past", "J", true)
def tyXMe : Nat → FieldType := fun k => match k with
  | 0 => .object "HashLinkedWeb$Operation"
  | 1 => .int
  | 2 => .int
  | 3 => .long
  | _ => .long
def TXAs : u_T := fun k => match k with
  | 0 => ("HashLinkedWeb$Asking", "known", "LHashLinkedWeb$Known;", true)
  | 1 => ("HashLinkedWeb$Asking", "asker", "LHashLinkedWeb$Replica;", true)
  | 2 => ("HashLinkedWeb$Asking", "teller", "LHashLinkedWeb$Replica;", true)
  | 3 => ("HashLinkedWeb$Asking", "lacking", "J", false)
  | _ => ("HashLinkedWeb$Asking", "got", "J", false)
def tyXAs : Nat → FieldType := fun k => match k with
  | 0 => .object "HashLinkedWeb$Known"
  | 1 => .object "HashLinkedWeb$Replica"
  | 2 => .object "HashLinkedWeb$Replica"
  | 3 => .long
  | _ => .long
def TXAL : u_T := fun k => match k with
  | 0 => ("java/util/AbstractList", "modCount", "I", false)
  | 1 => ("java/util/ArrayList", "elementData", "[Ljava/lang/Object;", false)
  | _ => ("java/util/ArrayList", "size", "I", false)
def tyXAL : Nat → FieldType := fun k => match k with
  | 0 => .int
  | 1 => .array (.object "java/lang/Object")
  | _ => .int
abbrev vwCl : List vw_C := [(RXM, TXM, 22), (RXW, TXW, 4), (RXKn, TXKn, 1), (RXRo, TXRo, 2), (RXRe, TXRe, 5), (RXOp, TXOp, 6), (RXDr, TXDr, 6), (RXMe, TXMe, 5), (RXAs, TXAs, 5), (RXAL, TXAL, 3)]
