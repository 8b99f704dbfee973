/-- how many constant cells there are: 39 words, their 39 texts, 9 messages, Word.ALL, the switch table, the script, the texts' bytes, three objects that static fields of the JDK name -/
def ax_nC : Nat := 132
